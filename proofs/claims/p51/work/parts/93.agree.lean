/-! links, packets and accounts agree; packets stand in order -/
def lsum (L : Nat → Nat → Int) (j : Nat) : Nat → Int
  | 0 => 0
  | n + 1 => lsum L j n + L n j
theorem lsum_eq {L M : Nat → Nat → Int} {j n : Nat} (h : ∀ i : Nat, i < n → M i j = L i j) : lsum M j n = lsum L j n := by
  induction n with
  | zero => rfl
  | succ n ih =>
    show lsum M j n + M n j = lsum L j n + L n j
    rw [ih (fun i hi => h i (by omega)), h n (by omega)]
theorem lsum_set (L : Nat → Nat → Int) {k n : Nat} (r : Nat → Int) (j : Nat) (h : k < n) : lsum (setR L k r) j n = lsum L j n + (r j - L k j) := by
  induction n with
  | zero => omega
  | succ n ih =>
    show lsum (setR L k r) j n + setR L k r n j = lsum L j n + L n j + (r j - L k j)
    by_cases e : n = k
    · subst e
      rw [setR_k, lsum_eq (M := setR L n r) (L := L) (fun i hi => by rw [setR_ne _ _ (by omega)])]; omega
    · rw [setR_ne _ _ e, ih (by omega)]; omega
def AcQ (n : Nat) (L : Nat → Nat → Int) (P : Nat → List Pkt) (A : Nat → Int) : Prop :=
  (lsum L 3 n = A 0 ∧ lsum L 4 n = A 1 ∧ lsum L 5 n = A 3 ∧ lsum L 6 n = A 4)
  ∧ A 0 = A 1 + A 2 + (totQ P 6 : Int) + A 12 ∧ totQ P 6 ≤ 300 ∧ (∀ k : Nat, n ≤ k → k < 6 → P k = [])
  ∧ (0 ≤ A 0 ∧ 0 ≤ A 1 ∧ 0 ≤ A 2 ∧ 0 ≤ A 12) ∧ (0 ≤ A 6 ∧ A 6 ≤ A 5 ∧ 0 ≤ A 10 ∧ A 10 ≤ A 5)
theorem AcQ.dl {n k : Nat} {L : Nat → Nat → Int} {P P' : Nat → List Pkt} {A A' r : Nat → Int} {t : Int} (h : AcQ n L P A) (hk : k < n) (hD : Dl t k (L k, P, A) (r, P', A')) : AcQ n (setR L k r) P' A' := by
  obtain ⟨⟨a1, a2, a3, a4⟩, b, c, d, ⟨e1, e2, e3, e4⟩, f1, f2, f3, f4⟩ := h
  obtain ⟨⟨g1, g2, g3, g4⟩, hg, -, hi, ⟨j1, j2, j3⟩, hc, l, -, hl⟩ := hD
  have g1 : r 3 - L k 3 = A' 0 - A 0 := g1
  have g2 : r 4 - L k 4 = A' 1 - A 1 := g2
  have g3 : r 5 - L k 5 = A' 3 - A 3 := g3
  have g4 : r 6 - L k 6 = A' 4 - A 4 := g4
  have hg : A' 0 - A' 1 - A' 2 - (totQ P' 6 : Int) = A 0 - A 1 - A 2 - (totQ P 6 : Int) := hg
  have j1 : A 0 ≤ A' 0 := j1
  have j2 : A 1 ≤ A' 1 := j2
  have j3 : A 2 ≤ A' 2 := j3
  have i5 : A' 5 = A 5 := hi 5 (Or.inl rfl)
  have i6 : A' 6 = A 6 := hi 6 (Or.inr (Or.inl rfl))
  have i10 : A' 10 = A 10 := hi 10 (Or.inr (Or.inr (Or.inr (Or.inl rfl))))
  have i12 : A' 12 = A 12 := hi 12 (Or.inr (Or.inr (Or.inr (Or.inr (Or.inr rfl)))))
  have hc : totQ P 6 ≤ 300 → totQ P' 6 ≤ 300 := hc
  have hl : P' = updL P k (P k ++ l) := hl
  refine ⟨⟨?_, ?_, ?_, ?_⟩, by omega, hc c, fun i h1 h2 => ?_, ⟨by omega, by omega, by omega, by omega⟩, by omega, by omega, by omega, by omega⟩
  · rw [lsum_set _ _ _ hk]; omega
  · rw [lsum_set _ _ _ hk]; omega
  · rw [lsum_set _ _ _ hk]; omega
  · rw [lsum_set _ _ _ hk]; omega
  · rw [hl, updL_ne _ _ (by omega)]; exact d i h1 h2
theorem AcQ.pop {n k : Nat} {L : Nat → Nat → Int} {P : Nat → List Pkt} {A : Nat → Int} (h : AcQ n L P A) (hk : k < 6) (hP : P k ≠ []) : AcQ n L (updL P k (P k).tail) (upz A 12 (A 12 + 1)) := by
  obtain ⟨⟨a1, a2, a3, a4⟩, b, c, d, ⟨e1, e2, e3, e4⟩, f1, f2, f3, f4⟩ := h
  have ht := totQ_tail hk hP
  refine ⟨⟨a1, a2, a3, a4⟩, ?_, by omega, fun i h1 h2 => ?_, ⟨e1, e2, e3, by rw [upz_k]; omega⟩, f1, f2, f3, f4⟩
  · show A 0 = A 1 + A 2 + (totQ (updL P k (P k).tail) 6 : Int) + upz A 12 (A 12 + 1) 12
    rw [upz_k]; omega
  · by_cases e : i = k
    · exact absurd (by rw [← e]; exact d i h1 h2) hP
    · rw [updL_ne _ _ e]; exact d i h1 h2
theorem AcQ.acc {n : Nat} {L : Nat → Nat → Int} {P : Nat → List Pkt} {A A' : Nat → Int} (h : AcQ n L P A) (h0 : A' 0 = A 0 ∧ A' 1 = A 1 ∧ A' 2 = A 2 ∧ A' 3 = A 3 ∧ A' 4 = A 4 ∧ A' 12 = A 12) (h5 : 0 ≤ A' 6 ∧ A' 6 ≤ A' 5 ∧ 0 ≤ A' 10 ∧ A' 10 ≤ A' 5) : AcQ n L P A' := by
  obtain ⟨⟨a1, a2, a3, a4⟩, b, c, d, ⟨e1, e2, e3, e4⟩, -⟩ := h
  obtain ⟨k0, k1, k2, k3, k4, k12⟩ := h0
  exact ⟨⟨by omega, by omega, by omega, by omega⟩, by omega, c, d, ⟨by omega, by omega, by omega, by omega⟩, h5⟩
def PoQ (t : Int) (L : Nat → Nat → Int) (P : Nat → List Pkt) : Prop := ∀ k : Nat, k < 6 → (P k).Pairwise (fun a b => a.1 ≤ b.1) ∧ ∀ p ∈ P k, p.1 ≤ t + L k 1
theorem PoQ.dl {k : Nat} {L : Nat → Nat → Int} {P P' : Nat → List Pkt} {A A' r : Nat → Int} {t : Int} (h : PoQ t L P) (hD : Dl t k (L k, P, A) (r, P', A')) : PoQ t (setR L k r) P' := by
  obtain ⟨-, -, hr, -, -, -, l, hl, hP⟩ := hD
  have h1 : r 1 = L k 1 := hr 1 (by decide)
  have hl : ∀ p ∈ l, p.1 = t + L k 1 := hl
  have hP : P' = updL P k (P k ++ l) := hP
  intro i hi
  obtain ⟨a, b⟩ := h i hi
  by_cases e : i = k
  · subst e
    rw [hP, updL_k, setR_k, h1]
    refine ⟨List.pairwise_append.mpr ⟨a, ?_, fun x hx y hy => ?_⟩, fun p hp => ?_⟩
    · exact List.Pairwise.imp_of_mem (fun {x y} hx hy _ => by rw [hl x hx, hl y hy]; exact Int.le_refl _) (List.pairwise_of_forall (R := fun _ _ => True) (fun _ _ => trivial))
    · rw [hl y hy]; exact b x hx
    · rcases List.mem_append.mp hp with q | q
      · exact b p q
      · rw [hl p q]; exact Int.le_refl _
  · rw [hP, updL_ne _ _ e, setR_ne _ _ e]; exact ⟨a, b⟩
theorem PoQ.pop {t : Int} {L : Nat → Nat → Int} {P : Nat → List Pkt} (h : PoQ t L P) (k : Nat) : PoQ t L (updL P k (P k).tail) := by
  intro i hi
  obtain ⟨a, b⟩ := h i hi
  by_cases e : i = k
  · subst e
    rw [updL_k]
    exact ⟨a.sublist (List.tail_sublist _), fun p hp => b p (List.mem_of_mem_tail hp)⟩
  · rw [updL_ne _ _ e]; exact ⟨a, b⟩
theorem PoQ.le {t u : Int} {L : Nat → Nat → Int} {P : Nat → List Pkt} (h : PoQ t L P) (hu : t ≤ u) : PoQ u L P := fun i hi => ⟨(h i hi).1, fun p hp => by have := (h i hi).2 p hp; omega⟩
theorem putK_Dl {t : Int} {k : Nat} (hk : k < 6) {wh fi og bt : Int} {y : LPX} (h1 : 28 ≤ y.1 k 0 ∧ y.1 k 0 ≤ 1500) (h3 : bt ≤ 1520) : ∃ r : Nat → Int, (putK t k wh fi og bt y).1 = setR y.1 k r ∧ Dl t k (y.1 k, y.2.1, y.2.2.2) (r, (putK t k wh fi og bt y).2.1, (putK t k wh fi og bt y).2.2.2) ∧ (putK t k wh fi og bt y).2.2.2 0 ≤ y.2.2.2 0 + 188 := by
  unfold putK
  by_cases e : y.1 k 0 < bt ∧ fi = 1
  · rw [if_pos e]
    refine ⟨upz (y.1 k) 6 (y.1 k 6 + 1), rfl, ⟨⟨?_, ?_, ?_, ?_⟩, rfl, fun j hj => upz_ne _ _ (by omega), fun i hi => ?_, ⟨Int.le_refl _, Int.le_refl _, Int.le_refl _⟩, id, [], fun _ h => absurd h List.not_mem_nil, by rw [List.append_nil, updL_self]⟩, ?_⟩
    · show y.1 k 3 - y.1 k 3 = y.2.2.2 0 - y.2.2.2 0; omega
    · show y.1 k 4 - y.1 k 4 = y.2.2.2 1 - y.2.2.2 1; omega
    · show y.1 k 5 - y.1 k 5 = y.2.2.2 3 - y.2.2.2 3; omega
    · show y.1 k 6 + 1 - y.1 k 6 = y.2.2.2 4 + 1 - y.2.2.2 4; omega
    · rcases hi with rfl | rfl | rfl | rfl | rfl | rfl <;> rfl
    · show y.2.2.2 0 ≤ y.2.2.2 0 + 188; omega
  · rw [if_neg e]
    have h := fwdF_Dl t hk wh og (bt := bt) (x := (y.1 k, y.2.1, y.2.2.2)) h1.1 h1.2 h3
    exact ⟨_, rfl, h.1, h.2⟩
theorem takeF_A (g : Nat → Int) (d o nb : Nat) (fill il : Int) (j : Nat) (y : RY) (i : Nat) (h : i ≠ 7) (h2 : i ≠ 11) : (takeF g d o nb fill il j y).2.2.2 i = y.2.2.2 i := by
  have ha : accT (y.2.2.1 j) o nb y.2.2.2 i = y.2.2.2 i := upz_ne _ _ h
  unfold takeF
  split
  · split
    · exact ha
    · split
      · show upz (accT (y.2.2.1 j) o nb y.2.2.2) 11 _ i = _
        rw [upz_ne _ _ h2]; exact ha
      · exact ha
  · rfl
theorem recvF_A (g : Nat → Int) (d o nb : Nat) (fill il : Int) (y : RY) : (∀ i : Nat, i ≠ 5 → i ≠ 6 → i ≠ 7 → i ≠ 11 → (recvF g d o nb fill il y).2.2.2 i = y.2.2.2 i) ∧ (recvF g d o nb fill il y).2.2.2 5 = y.2.2.2 5 + 1 ∧ ((recvF g d o nb fill il y).2.2.2 6 = y.2.2.2 6 ∨ (recvF g d o nb fill il y).2.2.2 6 = y.2.2.2 6 + 1) := by
  unfold recvF
  split
  · refine ⟨fun i h5 h6 h7 h11 => ?_, ?_, Or.inl ?_⟩
    · rw [takeF_A _ _ _ _ _ _ _ _ _ h7 h11]; exact upz_ne _ _ h5
    · rw [takeF_A _ _ _ _ _ _ _ _ _ (by decide) (by decide)]; show upz y.2.2.2 5 (y.2.2.2 5 + 1) 5 = _; exact upz_k _ _ _
    · rw [takeF_A _ _ _ _ _ _ _ _ _ (by decide) (by decide)]; show upz y.2.2.2 5 (y.2.2.2 5 + 1) 6 = _; exact upz_ne _ _ (by decide)
  · refine ⟨fun i h5 h6 h7 h11 => ?_, ?_, Or.inr ?_⟩
    · show upz (upz y.2.2.2 5 (y.2.2.2 5 + 1)) 6 (upz y.2.2.2 5 (y.2.2.2 5 + 1) 6 + 1) i = _
      rw [upz_ne _ _ h6, upz_ne _ _ h5]
    · show upz (upz y.2.2.2 5 (y.2.2.2 5 + 1)) 6 (upz y.2.2.2 5 (y.2.2.2 5 + 1) 6 + 1) 5 = _
      rw [upz_ne _ _ (by decide), upz_k]
    · show upz (upz y.2.2.2 5 (y.2.2.2 5 + 1)) 6 (upz y.2.2.2 5 (y.2.2.2 5 + 1) 6 + 1) 6 = _
      rw [upz_k, upz_ne _ _ (by decide)]
/-- links, packets, accounts, tries -/
def LnI (T : Int) (z : St) : Prop := AcQ (z.1 6).toNat z.2.1 z.2.2.2.2.2.1 z.2.2.2.2.2.2.2 ∧ PoQ (z.1 0) z.2.1 z.2.2.2.2.2.1 ∧ ∀ d : Nat, (d : Int) < z.1 7 → 0 ≤ z.2.2.1 d 3 ∧ z.2.2.1 d 3 ≤ T
theorem LnI.recv {T : Int} {z : St} {g : Nat → Int} {d o nb : Nat} {fill il : Int} (h : LnI T z) : LnI T (z.1, z.2.1, (recvF g d o nb fill il (z.2.2.1, z.2.2.2.1, z.2.2.2.2.1, z.2.2.2.2.2.2.2)).1, (recvF g d o nb fill il (z.2.2.1, z.2.2.2.1, z.2.2.2.2.1, z.2.2.2.2.2.2.2)).2.1, (recvF g d o nb fill il (z.2.2.1, z.2.2.2.1, z.2.2.2.2.1, z.2.2.2.2.2.2.2)).2.2.1, z.2.2.2.2.2.1, z.2.2.2.2.2.2.1, (recvF g d o nb fill il (z.2.2.1, z.2.2.2.1, z.2.2.2.2.1, z.2.2.2.2.2.2.2)).2.2.2) := by
  obtain ⟨h1, h2, h3⟩ := h
  obtain ⟨r1, r2, r3⟩ := recvF_A g d o nb fill il (z.2.2.1, z.2.2.2.1, z.2.2.2.2.1, z.2.2.2.2.2.2.2)
  have hs := recvF_same g d o nb fill il (z.2.2.1, z.2.2.2.1, z.2.2.2.2.1, z.2.2.2.2.2.2.2)
  obtain ⟨q, hq⟩ : ∃ q : RY, recvF g d o nb fill il (z.2.2.1, z.2.2.2.1, z.2.2.2.2.1, z.2.2.2.2.2.2.2) = q := ⟨_, rfl⟩
  rw [hq] at r1 r2 r3 hs ⊢
  have r1 : ∀ i : Nat, i ≠ 5 → i ≠ 6 → i ≠ 7 → i ≠ 11 → q.2.2.2 i = z.2.2.2.2.2.2.2 i := r1
  have r2 : q.2.2.2 5 = z.2.2.2.2.2.2.2 5 + 1 := r2
  have r3 : q.2.2.2 6 = z.2.2.2.2.2.2.2 6 ∨ q.2.2.2 6 = z.2.2.2.2.2.2.2 6 + 1 := r3
  have r10 := r1 10 (by decide) (by decide) (by decide) (by decide)
  have h15 := h1.2.2.2.2.2
  refine ⟨h1.acc ⟨r1 0 (by decide) (by decide) (by decide) (by decide), r1 1 (by decide) (by decide) (by decide) (by decide), r1 2 (by decide) (by decide) (by decide) (by decide), r1 3 (by decide) (by decide) (by decide) (by decide), r1 4 (by decide) (by decide) (by decide) (by decide), r1 12 (by decide) (by decide) (by decide) (by decide)⟩ ?_, h2, fun e he => ?_⟩
  · show 0 ≤ q.2.2.2 6 ∧ q.2.2.2 6 ≤ q.2.2.2 5 ∧ 0 ≤ q.2.2.2 10 ∧ q.2.2.2 10 ≤ q.2.2.2 5
    omega
  · have w : q.1 e 3 = z.2.2.1 e 3 := hs.1 e 3 (by decide)
    show 0 ≤ q.1 e 3 ∧ q.1 e 3 ≤ T
    rw [w]; exact h3 e he
theorem hd_in {z : St} (h : StOk z) {k : Nat} (hk : k < 6) (hP : z.2.2.2.2.2.1 k ≠ []) : PkIn z.1 z.2.2.1 (hdP (z.2.2.2.2.2.1 k)) ∧ (hdP (z.2.2.2.2.2.1 k)).2.2.2 ≤ 1520 := by
  have hx := h.2.2.2.2.1 k hk _ (hdP_mem hP)
  refine ⟨hx, ?_⟩
  rcases hx.2 with ⟨-, -, -, q⟩ | ⟨q1, q2, q3, q4, q5⟩
  · omega
  · have h8 := (h.2.2.1 (hdP (z.2.2.2.2.2.1 k)).2.1.toNat (by omega)).1
    omega
def popZ (k : Nat) (z : St) : St := (z.1, z.2.1, z.2.2.1, z.2.2.2.1, z.2.2.2.2.1, updL z.2.2.2.2.2.1 k (z.2.2.2.2.2.1 k).tail, z.2.2.2.2.2.2.1, upz z.2.2.2.2.2.2.2 12 (z.2.2.2.2.2.2.2 12 + 1))
theorem LnI.pop {T : Int} {z : St} (h : LnI T z) {k : Nat} (hk : k < 6) (hP : z.2.2.2.2.2.1 k ≠ []) : LnI T (popZ k z) := ⟨h.1.pop hk hP, h.2.1.pop k, h.2.2⟩
theorem LnI.step {T : Int} {z : St} (h : LnI T z) (hOK : StOk z) {k : Nat} (hk : (k : Int) < z.1 6) (hP : z.2.2.2.2.2.1 k ≠ []) : LnI T (stepM k z) ∧ (stepM k z).2.2.2.2.2.2.2 0 ≤ z.2.2.2.2.2.2.2 0 + 188 := by
  have h6 := hOK.1.2.2.2.2.2.2.1
  have hp := h.pop (k := k) (by omega) hP
  have hin := hd_in hOK (k := k) (by omega) hP
  unfold stepM
  by_cases e : (k : Int) + 1 < z.1 6
  · rw [if_pos e]
    have hl := hOK.2.1 (k + 1) (by omega)
    obtain ⟨r, h1, h2, h3⟩ := putK_Dl (t := z.1 0) (k := k + 1) (by omega) (wh := (hdP (z.2.2.2.2.2.1 k)).2.1) (fi := firmI z.2.2.1 (hdP (z.2.2.2.2.2.1 k)).2.1) (og := (hdP (z.2.2.2.2.2.1 k)).2.2.1) (bt := (hdP (z.2.2.2.2.2.1 k)).2.2.2) (y := (z.2.1, updL z.2.2.2.2.2.1 k (z.2.2.2.2.2.1 k).tail, z.2.2.2.2.2.2.1, upz z.2.2.2.2.2.2.2 12 (z.2.2.2.2.2.2.2 12 + 1))) hl.1 hin.2
    refine ⟨⟨?_, ?_, hp.2.2⟩, h3⟩
    · show AcQ (z.1 6).toNat (putK _ _ _ _ _ _ _).1 _ _
      rw [h1]
      exact hp.1.dl (k := k + 1) (by show k + 1 < (z.1 6).toNat; omega) h2
    · show PoQ (z.1 0) (putK _ _ _ _ _ _ _).1 _
      rw [h1]
      exact hp.2.1.dl (k := k + 1) h2
  · rw [if_neg e]
    by_cases e2 : (hdP (z.2.2.2.2.2.1 k)).2.1 = -1
    · rw [if_pos e2]
      exact ⟨hp, by show z.2.2.2.2.2.2.2 0 ≤ z.2.2.2.2.2.2.2 0 + 188; omega⟩
    · rw [if_neg e2]
      refine ⟨hp.recv, ?_⟩
      have q := (recvF_A z.1 (hdP (z.2.2.2.2.2.1 k)).2.1.toNat (hdP (z.2.2.2.2.2.1 k)).2.2.1.toNat ((hdP (z.2.2.2.2.2.1 k)).2.2.2 - 20).toNat (-1) (lastB z.2.2.1 (hdP (z.2.2.2.2.2.1 k))) (z.2.2.1, z.2.2.2.1, z.2.2.2.2.1, upz z.2.2.2.2.2.2.2 12 (z.2.2.2.2.2.2.2 12 + 1))).1 0 (by decide) (by decide) (by decide) (by decide)
      have q : _ = z.2.2.2.2.2.2.2 0 := q
      rw [q]; omega
theorem LnI.ag {T : Int} {z : St} (h : LnI T z) (hOK : StOk z) {d : Nat} (hd : (d : Int) < z.1 7) (h3 : z.2.2.1 d 3 + 1 ≤ T) (hT : 3 ≤ T) (hT2 : T < 1000000) : LnI T (ofHx z (agF d (hxOf z))) ∧ (ofHx z (agF d (hxOf z))).2.2.2.2.2.2.2 0 ≤ z.2.2.2.2.2.2.2 0 + 36000 * ((ofHx z (agF d (hxOf z))).2.2.1 d 3 - z.2.2.1 d 3) ∧ z.2.2.1 d 3 + 1 ≤ (ofHx z (agF d (hxOf z))).2.2.1 d 3 ∧ (∀ e : Nat, e ≠ d → (ofHx z (agF d (hxOf z))).2.2.1 e = z.2.2.1 e) := by
  have h6 := hOK.1.2.2.2.2.2.2.1
  have hk := hOK.hx.tok hd
  obtain ⟨hT1, hT3, hT4, hT5⟩ := TD.ofTrans 5 d hk (by show 0 ≤ z.2.2.1 d 3 ∧ z.2.2.1 d 3 < 1000000; have := h.2.2 d hd; omega)
  have hT5 := hT5 (by decide)
  obtain ⟨y, hy⟩ : ∃ y : TS, transF 5 d (z.2.2.1 d, z.1, z.2.1 0, z.2.2.2.2.2.1, z.2.2.2.2.2.2.2) = y := ⟨_, rfl⟩
  have hg := (agF_ok hOK.hx hd).2.1
  have ho : ofHx z (agF d (hxOf z)) = (y.2.1, setR z.2.1 0 y.2.2.1, setR z.2.2.1 d y.1, z.2.2.2.1, z.2.2.2.2.1, y.2.2.2.1, z.2.2.2.2.2.2.1, y.2.2.2.2) := by rw [← hy]; rfl
  have hgy : ∀ j : Nat, j ≠ 3 → j ≠ 5 → y.2.1 j = z.1 j := by rw [← hy]; exact hg
  rw [ho]
  rw [hy] at hT1 hT3 hT4 hT5
  have hT3 : y.1 3 ≤ max (z.2.2.1 d 3 + 1) 3 := hT3
  have hT4 : y.2.2.2.2 0 ≤ z.2.2.2.2.2.2.2 0 + 36000 * (y.1 3 - z.2.2.1 d 3) := hT4
  have hT5 : z.2.2.1 d 3 + 1 ≤ y.1 3 := hT5
  have hD : Dl (z.1 0) 0 (z.2.1 0, z.2.2.2.2.2.1, z.2.2.2.2.2.2.2) (y.2.2.1, y.2.2.2.1, y.2.2.2.2) := hT1.1
  refine ⟨⟨?_, ?_, fun e he => ?_⟩, ?_, ?_, fun e he => setR_ne _ _ he⟩
  · show AcQ (y.2.1 6).toNat _ _ _
    rw [hgy 6 (by decide) (by decide)]
    exact h.1.dl (k := 0) (by omega) hD
  · show PoQ (y.2.1 0) _ _
    rw [hgy 0 (by decide) (by decide)]
    exact h.2.1.dl (k := 0) hD
  · have he : (e : Int) < y.2.1 7 := he
    rw [hgy 7 (by decide) (by decide)] at he
    show 0 ≤ setR z.2.2.1 d y.1 e 3 ∧ setR z.2.2.1 d y.1 e 3 ≤ T
    have h8 := h.2.2 e he
    by_cases q : e = d
    · subst q; rw [setR_k]; omega
    · rw [setR_ne _ _ q]; exact h8
  · show y.2.2.2.2 0 ≤ z.2.2.2.2.2.2.2 0 + 36000 * (setR z.2.2.1 d y.1 d 3 - z.2.2.1 d 3)
    rw [setR_k]; exact hT4
  · show z.2.2.1 d 3 + 1 ≤ setR z.2.2.1 d y.1 d 3
    rw [setR_k]; exact hT5
theorem LnI.tk {T : Int} (hT : 3 ≤ T) (hT2 : T < 1000000) : TkI (LnI T) := by
  refine ⟨fun z hOK h => ?_, fun z k hOK hk hd h => (h.step hOK hk (dueB_ne hd)).1, fun z b hOK hb h => ?_, fun z x hOK hx h1 h2 h => ?_, fun z d hOK hd hf ht h => ?_, fun z L hOK hL h => h, fun z n hOK hn h0 h => ?_⟩
  · refine ⟨?_, ?_, fun d hd => h.2.2 d ?_⟩
    · show AcQ (upz z.1 0 (z.1 0 + 1) 6).toNat _ _ _
      rw [upz_ne _ _ (by decide)]; exact h.1
    · show PoQ (upz z.1 0 (z.1 0 + 1) 0) _ _
      rw [upz_k]; exact h.2.1.le (by omega)
    · have hd : (d : Int) < upz z.1 0 (z.1 0 + 1) 7 := hd
      rw [upz_ne _ _ (by decide)] at hd; exact hd
  · refine ⟨?_, ?_, fun d hd => h.2.2 d ?_⟩
    · show AcQ (upz z.1 4 (max (z.1 4) b) 6).toNat _ _ (upz z.2.2.2.2.2.2.2 9 _)
      rw [upz_ne _ _ (by decide)]
      exact h.1.acc ⟨rfl, rfl, rfl, rfl, rfl, rfl⟩ h.1.2.2.2.2.2
    · show PoQ (upz z.1 4 (max (z.1 4) b) 0) _ _
      rw [upz_ne _ _ (by decide)]; exact h.2.1
    · have hd : (d : Int) < upz z.1 4 (max (z.1 4) b) 7 := hd
      rw [upz_ne _ _ (by decide)] at hd; exact hd
  · have hg : ∀ j : Nat, j ≠ 3 → j ≠ 5 → noteG x.2.1 x.2.2 z.1 j = z.1 j := fun j a b => noteG_j _ _ _ a b
    refine ⟨?_, ?_, fun d hd => h.2.2 d ?_⟩
    · show AcQ (noteG x.2.1 x.2.2 z.1 6).toNat _ _ (upz z.2.2.2.2.2.2.2 8 _)
      rw [hg 6 (by decide) (by decide)]
      exact h.1.acc ⟨rfl, rfl, rfl, rfl, rfl, rfl⟩ h.1.2.2.2.2.2
    · show PoQ (noteG x.2.1 x.2.2 z.1 0) _ _
      rw [hg 0 (by decide) (by decide)]; exact h.2.1
    · have hd : (d : Int) < noteG x.2.1 x.2.2 z.1 7 := hd
      rw [hg 7 (by decide) (by decide)] at hd; exact hd
  · have h8 := h.2.2 d hd
    have ht := (iI_lt (a := z.2.2.1 d 3) (b := 3) (by omega) (by omega) (by decide) (by decide)).mp ht
    exact (h.ag hOK hd (by omega) hT hT2).1
  · refine ⟨h.1, h.2.1, fun d hd => ?_⟩
    show 0 ≤ setR z.2.2.1 (z.2.2.2.1 n 0).toNat _ d 3 ∧ setR z.2.2.1 (z.2.2.2.1 n 0).toNat _ d 3 ≤ T
    by_cases q : d = (z.2.2.2.1 n 0).toNat
    · rw [q, setR_k, closeR_j _ _ _ _ (by decide), ← q]; exact h.2.2 d hd
    · rw [setR_ne _ _ q]; exact h.2.2 d hd
