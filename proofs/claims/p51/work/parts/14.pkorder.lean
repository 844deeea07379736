/-! how many packets are of a datagram; the order in which they come -/
def cntL (d : Int) : List Pkt → Int
  | [] => 0
  | x :: t => (if x.2.1 = d then 1 else 0) + cntL d t
def cntP (P : Nat → List Pkt) (d : Int) : Nat → Int
  | 0 => 0
  | n + 1 => cntP P d n + cntL d (P n)
theorem cntL_app (d : Int) (l t : List Pkt) : cntL d (l ++ t) = cntL d l + cntL d t := by
  induction l with
  | nil => show cntL d t = 0 + cntL d t; omega
  | cons x l ih => show _ + cntL d (l ++ t) = _ + cntL d l + cntL d t; rw [ih]; omega
theorem cntL_le (d : Int) (l : List Pkt) : 0 ≤ cntL d l ∧ cntL d l ≤ l.length := by
  induction l with
  | nil => exact ⟨Int.le_refl 0, Int.le_refl 0⟩
  | cons x l ih =>
    show 0 ≤ (if x.2.1 = d then 1 else 0) + cntL d l ∧ (if x.2.1 = d then 1 else 0) + cntL d l ≤ ((l.length + 1 : Nat) : Int)
    split <;> omega
def dueI (X : Nat → Nat → Int) (k : Nat) (t : Int) : Int := if X 6 k = -1 then -1 else if X 0 (X 6 k).toNat ≤ t then X 6 k else -1
def hdP (l : List Pkt) : Pkt := l.headD (0, 0, 0, 0)
def sooP (Q : Nat → List Pkt) : Nat → Int
  | 0 => -1
  | n + 1 => if Q n = [] then sooP Q n else if sooP Q n = -1 ∨ (hdP (Q n)).1 < (hdP (Q (sooP Q n).toNat)).1 then n else sooP Q n
def stepQ (Q : Nat → List Pkt) : Nat → List Pkt := if sooP Q 6 = -1 then Q else updL Q (sooP Q 6).toNat (Q (sooP Q 6).toNat).tail
def nthQ (Q : Nat → List Pkt) : Nat → Nat → List Pkt
  | 0 => Q
  | n + 1 => stepQ (nthQ Q n)
def totQ (Q : Nat → List Pkt) : Nat → Nat
  | 0 => 0
  | n + 1 => totQ Q n + (Q n).length
theorem sooP_in (Q : Nat → List Pkt) (n : Nat) : -1 ≤ sooP Q n ∧ sooP Q n < n ∧ (sooP Q n ≠ -1 → Q (sooP Q n).toNat ≠ []) ∧ (sooP Q n = -1 → ∀ k : Nat, k < n → Q k = []) := by
  induction n with
  | zero => exact ⟨Int.le_refl _, by show (-1 : Int) < 0; omega, fun h => absurd rfl h, fun _ k hk => by omega⟩
  | succ n ih =>
    obtain ⟨h1, h2, h3, h4⟩ := ih
    unfold sooP
    by_cases e : Q n = []
    · rw [if_pos e]
      refine ⟨h1, by omega, h3, fun q k hk => ?_⟩
      by_cases e2 : k = n
      · subst e2; exact e
      · exact h4 q k (by omega)
    · rw [if_neg e]
      split
      · refine ⟨by omega, by omega, fun _ => ?_, fun q => by omega⟩
        rw [show ((n : Nat) : Int).toNat = n from by omega]; exact e
      · rename_i hx
        refine ⟨h1, by omega, h3, fun q => absurd (Or.inl q) hx⟩
theorem totQ_0 {Q : Nat → List Pkt} {n : Nat} (h : ∀ k : Nat, k < n → Q k = []) : totQ Q n = 0 := by
  induction n with
  | zero => rfl
  | succ n ih =>
    show totQ Q n + (Q n).length = 0
    rw [ih (fun k hk => h k (by omega)), h n (by omega)]; rfl
theorem totQ_eq {Q E : Nat → List Pkt} {n : Nat} (h : ∀ k : Nat, k < n → E k = Q k) : totQ E n = totQ Q n := by
  induction n with
  | zero => rfl
  | succ n ih =>
    show totQ E n + (E n).length = totQ Q n + (Q n).length
    rw [ih (fun k hk => h k (by omega)), h n (by omega)]
theorem totQ_tail {Q : Nat → List Pkt} {n k : Nat} (hk : k < n) (h : Q k ≠ []) : totQ (updL Q k (Q k).tail) n + 1 = totQ Q n := by
  induction n with
  | zero => omega
  | succ n ih =>
    show totQ (updL Q k (Q k).tail) n + (updL Q k (Q k).tail n).length + 1 = totQ Q n + (Q n).length
    by_cases e : k = n
    · subst e
      rw [updL_k, totQ_eq (Q := Q) (fun j hj => updL_ne Q _ (by omega))]
      cases hq : Q k with
      | nil => exact absurd hq h
      | cons x t => simp only [List.tail_cons, List.length_cons]; omega
    · rw [updL_ne Q _ (fun q => e q.symm)]
      have := ih (by omega)
      omega
theorem stepQ_tot {Q : Nat → List Pkt} (h : 0 < totQ Q 6) : sooP Q 6 ≠ -1 ∧ totQ (stepQ Q) 6 + 1 = totQ Q 6 := by
  obtain ⟨h1, h2, h3, h4⟩ := sooP_in Q 6
  have hne : sooP Q 6 ≠ -1 := fun q => by rw [totQ_0 (h4 q)] at h; omega
  refine ⟨hne, ?_⟩
  unfold stepQ
  rw [if_neg hne]
  exact totQ_tail (by omega) (h3 hne)
theorem nthQ_tot {Q : Nat → List Pkt} {n : Nat} (h : n ≤ totQ Q 6) : totQ (nthQ Q n) 6 + n = totQ Q 6 := by
  induction n with
  | zero => rfl
  | succ n ih =>
    have h1 := ih (by omega)
    have h2 := (stepQ_tot (Q := nthQ Q n) (by omega)).2
    show totQ (stepQ (nthQ Q n)) 6 + (n + 1) = _
    omega
/-- the cursors: what is left of each chain -/
def Crs (X : Nat → Nat → Int) (Q : Nat → List Pkt) : Prop := ∃ C : Nat → List Nat, ∀ k : Nat, k < 6 → chn (X 5) (X 9 k) (C k) ∧ Q k = (C k).map (pkX X) ∧ ∀ s ∈ C k, s < 300 ∧ X 1 s = k
theorem Crs.get {X : Nat → Nat → Int} {Q : Nat → List Pkt} (h : Crs X Q) {k : Nat} (hk : k < 6) : (X 9 k = -1 ∧ Q k = []) ∨ ∃ (s : Nat) (l : List Pkt), X 9 k = s ∧ s < 300 ∧ Q k = pkX X s :: l ∧ X 1 s = k := by
  obtain ⟨C, hC⟩ := h
  obtain ⟨h1, h2, h3⟩ := hC k hk
  cases e : C k with
  | nil => rw [e] at h1 h2; exact Or.inl ⟨h1, h2⟩
  | cons s t =>
    rw [e] at h1 h2 h3
    obtain ⟨g1, g2⟩ := h3 s (List.mem_cons_self)
    exact Or.inr ⟨s, t.map (pkX X), h1.1, g1, h2, g2⟩
theorem Crs.step {X Z : Nat → Nat → Int} {Q : Nat → List Pkt} (h : Crs X Q) {k s : Nat} (hk : k < 6) (hs : X 9 k = s) (hZ : ∀ i : Nat, i < 9 → Z i = X i) (h9 : Z 9 = upz (X 9) k (X 5 s)) : Crs Z (updL Q k (Q k).tail) := by
  obtain ⟨C, hC⟩ := h
  refine ⟨updL C k (C k).tail, fun j hj => ?_⟩
  have hm : ∀ l : List Nat, l.map (pkX Z) = l.map (pkX X) := fun l => map_pkX (fun x _ => by rw [hZ 0 (by omega), hZ 2 (by omega), hZ 3 (by omega), hZ 4 (by omega)]; exact ⟨rfl, rfl, rfl, rfl⟩)
  obtain ⟨h1, h2, h3⟩ := hC j hj
  rw [hZ 5 (by omega), h9, hZ 1 (by omega)]
  by_cases e : j = k
  · subst e
    rw [updL_k, updL_k, upz_k, hm, h2]
    cases e2 : C j with
    | nil => rw [e2] at h1; have : X 9 j = -1 := h1; omega
    | cons x t =>
      rw [e2] at h1 h3
      have : x = s := by have := h1.1; omega
      subst this
      exact ⟨h1.2, rfl, fun y hy => h3 y (List.mem_cons_of_mem _ hy)⟩
  · rw [updL_ne _ _ e, updL_ne _ _ e, upz_ne _ _ e, hm]
    exact ⟨h1, h2, h3⟩
theorem PkRep.crs {X Z : Nat → Nat → Int} {us fr ct : Int} {P : Nat → List Pkt} (h : PkRep X us fr ct P) (hZ : ∀ i : Nat, i < 9 → Z i = X i) (h9 : ∀ k : Nat, k < 6 → Z 9 k = X 6 k) : Crs Z P := by
  obtain ⟨C, F, hS, hP⟩ := h
  obtain ⟨hC, -⟩ := hS.apart
  obtain ⟨U, -, -, -, -, -, a6⟩ := hS
  refine ⟨C, fun k hk => ?_⟩
  obtain ⟨c1, -, -, c4⟩ := a6 k hk
  rw [hZ 5 (by omega), h9 k hk, hZ 1 (by omega), hP k hk]
  refine ⟨c1, map_pkX (fun x _ => by rw [hZ 0 (by omega), hZ 2 (by omega), hZ 3 (by omega), hZ 4 (by omega)]; exact ⟨rfl, rfl, rfl, rfl⟩) |>.symm, fun x hx => ⟨(hC k hk).2.2.2 x hx, c4 x hx⟩⟩
theorem PkRep.tot {X : Nat → Nat → Int} {us fr ct : Int} {P : Nat → List Pkt} (h : PkRep X us fr ct P) : ct = totQ P 6 := by
  obtain ⟨C, F, ⟨U, a1, a2, a3, a4, a5, a6⟩, hP⟩ := h
  rw [a4]
  have : ∀ n : Nat, n ≤ 6 → (allC C n).length = totQ P n := by
    intro n hn
    induction n with
    | zero => rfl
    | succ n ih =>
      show (allC C n ++ C n).length = totQ P n + (P n).length
      rw [List.length_append, ih (by omega), hP n (by omega), List.length_map]
  rw [this 6 (by omega)]
/-- a cell that isn't read: the cursor -/
theorem PkRep.cur {X Z : Nat → Nat → Int} {us fr ct : Int} {P : Nat → List Pkt} (h : PkRep X us fr ct P) (hZ : ∀ i : Nat, i < 9 → Z i = X i) : PkRep Z us fr ct P := by
  obtain ⟨C, F, ⟨U, a1, a2, a3, a4, a5, a6⟩, hP⟩ := h
  have h5 := hZ 5 (by omega)
  have h6 := hZ 6 (by omega)
  have h7 := hZ 7 (by omega)
  have h8 := hZ 8 (by omega)
  have h1 := hZ 1 (by omega)
  refine ⟨C, F, ⟨U, a1, a2, a3, a4, by rw [h5]; exact a5, fun k hk => ?_⟩, fun k hk => ?_⟩
  · rw [h5, h6, h7, h8, h1]; exact a6 k hk
  · rw [hP k hk]
    exact (map_pkX (fun x _ => by rw [hZ 0 (by omega), hZ 2 (by omega), hZ 3 (by omega), hZ 4 (by omega)]; exact ⟨rfl, rfl, rfl, rfl⟩)).symm
