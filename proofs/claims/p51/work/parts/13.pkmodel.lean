/-! the packets on their way: chains of places -/
abbrev Pkt := Int × Int × Int × Int
def pkX (X : Nat → Nat → Int) (s : Nat) : Pkt := (X 0 s, X 2 s, X 3 s, X 4 s)
def vecF (l : List (Nat → Int)) : Nat → Nat → Int := fun i => l.getD i (fun _ => 0)
def chn (nx : Nat → Int) : Int → List Nat → Prop
  | h, [] => h = -1
  | h, s :: t => h = s ∧ chn nx (nx s) t
def lastI : List Nat → Int
  | [] => -1
  | [s] => s
  | _ :: b :: t => lastI (b :: t)
def allC (C : Nat → List Nat) : Nat → List Nat
  | 0 => []
  | n + 1 => allC C n ++ C n
def updL {α : Type} (C : Nat → List α) (k : Nat) (l : List α) : Nat → List α := fun j => if j = k then l else C j
def PkS (X : Nat → Nat → Int) (us fr ct : Int) (C : Nat → List Nat) (F : List Nat) : Prop :=
  ∃ U : Nat, us = U ∧ U ≤ 300 ∧ (allC C 6 ++ F).Perm (List.range U) ∧ ct = (allC C 6).length ∧ chn (X 5) fr F ∧ ∀ k : Nat, k < 6 → chn (X 5) (X 6 k) (C k) ∧ X 7 k = lastI (C k) ∧ X 8 k = (C k).length ∧ ∀ s ∈ C k, X 1 s = k
def PkRep (X : Nat → Nat → Int) (us fr ct : Int) (P : Nat → List Pkt) : Prop := ∃ (C : Nat → List Nat) (F : List Nat), PkS X us fr ct C F ∧ ∀ k : Nat, k < 6 → P k = (C k).map (pkX X)
theorem chn_congr {nx ny : Nat → Int} {h : Int} {l : List Nat} (e : ∀ s ∈ l, ny s = nx s) (c : chn nx h l) : chn ny h l := by
  induction l generalizing h with
  | nil => exact c
  | cons s t ih =>
    refine ⟨c.1, ?_⟩
    rw [e s (List.mem_cons_self)]
    exact ih (fun x hx => e x (List.mem_cons_of_mem _ hx)) c.2
theorem chn_snoc {nx ny : Nat → Int} {h : Int} {l : List Nat} {e s : Nat} (c : chn nx h (l ++ [e])) (h1 : ∀ x ∈ l, ny x = nx x) (h2 : ny e = s) (h3 : ny s = -1) : chn ny h (l ++ [e] ++ [s]) := by
  induction l generalizing h with
  | nil => exact ⟨c.1, h2, h3⟩
  | cons a t ih =>
    refine ⟨c.1, ?_⟩
    rw [h1 a (List.mem_cons_self)]
    exact ih c.2 (fun x hx => h1 x (List.mem_cons_of_mem _ hx))
theorem lastI_snoc (l : List Nat) (s : Nat) : lastI (l ++ [s]) = s := by
  induction l with
  | nil => rfl
  | cons a t ih =>
    cases t with
    | nil => rfl
    | cons b t => exact ih
theorem lastI_cons {a b : Nat} {t : List Nat} : lastI (a :: b :: t) = lastI (b :: t) := rfl
theorem snoc_of (l : List Nat) : l = [] ∨ ∃ (m : List Nat) (e : Nat), l = m ++ [e] := by
  rcases List.eq_nil_or_concat l with h | ⟨m, e, h⟩
  · exact Or.inl h
  · exact Or.inr ⟨m, e, by rw [h, List.concat_eq_append]⟩
theorem allC_mem {C : Nat → List Nat} {n x : Nat} : x ∈ allC C n ↔ ∃ j, j < n ∧ x ∈ C j := by
  induction n with
  | zero => simp [allC]
  | succ n ih =>
    show x ∈ allC C n ++ C n ↔ _
    rw [List.mem_append, ih]
    constructor
    · rintro (⟨j, h1, h2⟩ | h)
      · exact ⟨j, by omega, h2⟩
      · exact ⟨n, by omega, h⟩
    · rintro ⟨j, h1, h2⟩
      by_cases e : j = n
      · subst e; exact Or.inr h2
      · exact Or.inl ⟨j, by omega, h2⟩
theorem allC_nodup {C : Nat → List Nat} {n : Nat} (h : (allC C n).Nodup) : ∀ k : Nat, k < n → (C k).Nodup ∧ ∀ j : Nat, j < n → j ≠ k → ∀ x ∈ C k, x ∉ C j := by
  induction n with
  | zero => intro k hk; omega
  | succ n ih =>
    have h' : (allC C n ++ C n).Nodup := h
    obtain ⟨h1, h2, h3⟩ := List.nodup_append.mp h'
    intro k hk
    by_cases e : k = n
    · subst e
      refine ⟨h2, fun j hj hjk x hx hxj => ?_⟩
      exact h3 x (allC_mem.mpr ⟨j, by omega, hxj⟩) x hx rfl
    · obtain ⟨g1, g2⟩ := ih h1 k (by omega)
      refine ⟨g1, fun j hj hjk x hx hxj => ?_⟩
      by_cases e2 : j = n
      · subst e2
        exact h3 x (allC_mem.mpr ⟨k, by omega, hx⟩) x hxj rfl
      · exact g2 j (by omega) hjk x hx hxj
theorem allC_eq {C E : Nat → List Nat} {n : Nat} (h : ∀ j : Nat, j < n → E j = C j) : allC E n = allC C n := by
  induction n with
  | zero => rfl
  | succ n ih =>
    show allC E n ++ E n = allC C n ++ C n
    rw [ih (fun j hj => h j (by omega)), h n (by omega)]
theorem updL_k {α : Type} (C : Nat → List α) (k : Nat) (l : List α) : updL C k l k = l := if_pos rfl
theorem updL_ne {α : Type} (C : Nat → List α) {k j : Nat} (l : List α) (h : j ≠ k) : updL C k l j = C j := if_neg h
theorem allC_snoc {C : Nat → List Nat} {n k s : Nat} (hk : k < n) : (allC (updL C k (C k ++ [s])) n).Perm (allC C n ++ [s]) := by
  induction n with
  | zero => omega
  | succ n ih =>
    show (allC (updL C k (C k ++ [s])) n ++ updL C k (C k ++ [s]) n).Perm (allC C n ++ C n ++ [s])
    by_cases e : k = n
    · subst e
      rw [updL_k, allC_eq (C := C) (fun j hj => updL_ne C _ (by omega)), List.append_assoc]
    · rw [updL_ne C _ (fun q => e q.symm)]
      refine ((ih (by omega)).append_right (C n)).trans ?_
      rw [List.append_assoc, List.append_assoc]
      exact (List.perm_append_comm (l₁ := [s]) (l₂ := C n)).append_left (allC C n)
theorem allC_tail {C : Nat → List Nat} {n k s : Nat} {t : List Nat} (hk : k < n) (h : C k = s :: t) : (s :: allC (updL C k t) n).Perm (allC C n) := by
  induction n with
  | zero => omega
  | succ n ih =>
    show (s :: (allC (updL C k t) n ++ updL C k t n)).Perm (allC C n ++ C n)
    by_cases e : k = n
    · subst e
      rw [updL_k, allC_eq (C := C) (fun j hj => updL_ne C _ (by omega)), h]
      exact List.perm_middle.symm
    · rw [updL_ne C _ (fun q => e q.symm)]
      exact (ih (by omega)).append_right (C n)
/-- what stands fast of the places -/
theorem PkS.apart {X : Nat → Nat → Int} {us fr ct : Int} {C : Nat → List Nat} {F : List Nat} (h : PkS X us fr ct C F) :
    (∀ k : Nat, k < 6 → (C k).Nodup ∧ (∀ j : Nat, j < 6 → j ≠ k → ∀ x ∈ C k, x ∉ C j) ∧ (∀ x ∈ C k, x ∉ F) ∧ ∀ x ∈ C k, x < 300) ∧ F.Nodup ∧ ∀ x ∈ F, x < 300 := by
  obtain ⟨U, h1, h2, h3, -⟩ := h
  have hn : (allC C 6 ++ F).Nodup := h3.symm.nodup List.nodup_range
  have hm : ∀ x ∈ allC C 6 ++ F, x < 300 := fun x hx => by
    have := List.mem_range.mp (h3.mem_iff.mp hx)
    omega
  obtain ⟨g1, g2, g3⟩ := List.nodup_append.mp hn
  refine ⟨fun k hk => ?_, g2, fun x hx => hm x (List.mem_append_right _ hx)⟩
  obtain ⟨g4, g5⟩ := allC_nodup g1 k hk
  exact ⟨g4, g5, fun x hx hxF => g3 x (allC_mem.mpr ⟨k, hk, hx⟩) x hxF rfl, fun x hx => hm x (List.mem_append_left _ (allC_mem.mpr ⟨k, hk, hx⟩))⟩
theorem PkS.ct {X : Nat → Nat → Int} {us fr ct : Int} {C : Nat → List Nat} {F : List Nat} (h : PkS X us fr ct C F) : ∃ U n : Nat, us = U ∧ ct = n ∧ n + F.length = U ∧ U ≤ 300 := by
  obtain ⟨U, h1, h2, h3, h4, -⟩ := h
  have := h3.length_eq
  rw [List.length_append, List.length_range] at this
  exact ⟨U, _, h1, h4, this, h2⟩
/-- the place that the next packet gets -/
theorem PkRep.slot {X : Nat → Nat → Int} {us fr ct : Int} {P : Nat → List Pkt} {k : Nat} (h : PkRep X us fr ct P) (hk : k < 6) (hc : ct < 300) :
    ∃ s : Nat, s < 300 ∧ ((fr = -1 ∧ us = s) ∨ fr = s) ∧ (X 7 k = -1 ∨ ∃ e : Nat, X 7 k = e ∧ e < 300) := by
  obtain ⟨C, F, hS, -⟩ := h
  obtain ⟨hC, hF, hF3⟩ := hS.apart
  obtain ⟨U, n, e1, e2, e3, e4⟩ := hS.ct
  obtain ⟨U', -, -, -, -, h5, h6⟩ := hS
  obtain ⟨-, h7, -⟩ := h6 k hk
  have hl : X 7 k = -1 ∨ ∃ e : Nat, X 7 k = e ∧ e < 300 := by
    rcases snoc_of (C k) with h | ⟨m, e, h⟩
    · rw [h] at h7; exact Or.inl h7
    · rw [h, lastI_snoc] at h7
      exact Or.inr ⟨e, h7, (hC k hk).2.2.2 e (by rw [h]; simp)⟩
  cases F with
  | nil => exact ⟨U, by simp at e3; omega, Or.inl ⟨h5, e1⟩, hl⟩
  | cons s t => exact ⟨s, hF3 s (List.mem_cons_self), Or.inr h5.1, hl⟩
theorem map_pkX {X Z : Nat → Nat → Int} {l : List Nat} (h : ∀ s ∈ l, Z 0 s = X 0 s ∧ Z 2 s = X 2 s ∧ Z 3 s = X 3 s ∧ Z 4 s = X 4 s) : l.map (pkX Z) = l.map (pkX X) := by
  refine List.map_congr_left (fun s hs => ?_)
  obtain ⟨h1, h2, h3, h4⟩ := h s hs
  unfold pkX
  rw [h1, h2, h3, h4]
theorem upz_k (g : Nat → Int) (j : Nat) (z : Int) : upz g j z j = z := if_pos rfl
theorem upz_ne (g : Nat → Int) {j k : Nat} (z : Int) (h : k ≠ j) : upz g j z k = g k := if_neg h
theorem PkRep.enq {X Z : Nat → Nat → Int} {us fr ct us2 fr2 t w o b : Int} {P : Nat → List Pkt} {k s : Nat} (h : PkRep X us fr ct P) (hk : k < 6) (hc : ct < 300)
    (h1 : (fr = -1 ∧ us = s ∧ us2 = us + 1 ∧ fr2 = -1) ∨ (fr = s ∧ fr2 = X 5 s ∧ us2 = us))
    (h2 : (X 7 k = -1 ∧ Z 5 = upz (X 5) s (-1) ∧ Z 6 = upz (X 6) k s) ∨ (∃ e : Nat, X 7 k = e ∧ Z 5 = upz (upz (X 5) s (-1)) e s ∧ Z 6 = X 6))
    (z0 : Z 0 = upz (X 0) s t) (z1 : Z 1 = upz (X 1) s k) (z2 : Z 2 = upz (X 2) s w) (z3 : Z 3 = upz (X 3) s o) (z4 : Z 4 = upz (X 4) s b) (z7 : Z 7 = upz (X 7) k s) (z8 : Z 8 = upz (X 8) k (X 8 k + 1)) :
    PkRep Z us2 fr2 (ct + 1) (updL P k (P k ++ [(t, w, o, b)])) := by
  obtain ⟨C, F, hS, hP⟩ := h
  obtain ⟨hC, hF, hF3⟩ := hS.apart
  obtain ⟨U0, n0, e1, e2, e3, e4⟩ := hS.ct
  obtain ⟨U, a1, a2, a3, a4, a5, a6⟩ := hS
  -- the free places behind, and that s is none of the others
  obtain ⟨G, U2, b1, b2, b3, b4, b5, b6⟩ : ∃ (G : List Nat) (U2 : Nat), us2 = U2 ∧ U2 ≤ 300 ∧ (allC C 6 ++ [s] ++ G).Perm (List.range U2) ∧ (∀ j : Nat, j < 6 → s ∉ C j) ∧ chn (X 5) fr2 G ∧ (∀ x ∈ G, x ≠ s ∧ ∀ j : Nat, j < 6 → x ∉ C j) := by
    rcases h1 with ⟨f1, f2, f3, f4⟩ | ⟨f1, f2, f3⟩
    · have hF0 : F = [] := by
        cases F with
        | nil => rfl
        | cons x t => have := a5.1; omega
      subst hF0
      have hsU : s = U := by omega
      subst hsU
      refine ⟨[], s + 1, by omega, by simp at e3; omega, ?_, fun j hj hs => ?_, by rw [f4]; rfl, fun x hx => by simp at hx⟩
      · rw [List.append_nil] at a3 ⊢
        rw [List.range_succ]
        exact a3.append_right [s]
      · have := List.mem_range.mp (a3.mem_iff.mp (List.mem_append_left _ (allC_mem.mpr ⟨j, hj, hs⟩)))
        omega
    · cases F with
      | nil => have : fr = -1 := a5; omega
      | cons x t =>
        obtain ⟨c1, c2⟩ := a5
        have hx : x = s := by omega
        subst hx
        refine ⟨t, U, by omega, a2, by rw [List.append_assoc]; exact a3, fun j hj hs => (hC j hj).2.2.1 x hs (List.mem_cons_self), by rw [f2]; exact c2, fun y hy => ⟨fun q => ?_, fun j hj hs => (hC j hj).2.2.1 y hs (List.mem_cons_of_mem _ hy)⟩⟩
        subst q
        exact (List.nodup_cons.mp hF).1 hy
  have old : ∀ j : Nat, j < 6 → ∀ x ∈ C j, Z 0 x = X 0 x ∧ Z 2 x = X 2 x ∧ Z 3 x = X 3 x ∧ Z 4 x = X 4 x := fun j hj x hx => by
    have hxs : x ≠ s := fun q => b4 j hj (q ▸ hx)
    rw [z0, z2, z3, z4, upz_ne _ _ hxs, upz_ne _ _ hxs, upz_ne _ _ hxs, upz_ne _ _ hxs]
    exact ⟨rfl, rfl, rfl, rfl⟩
  have hch : ∀ x, x ≠ s → (∀ e : Nat, X 7 k = e → x ≠ e) → Z 5 x = X 5 x := fun x hx he => by
    rcases h2 with ⟨-, g2, -⟩ | ⟨e, g1, g2, -⟩
    · rw [g2, upz_ne _ _ hx]
    · rw [g2, upz_ne _ _ (he e g1), upz_ne _ _ hx]
  have hlast : ∀ e : Nat, X 7 k = e → e ∈ C k := fun e he => by
    have := (a6 k hk).2.1
    rcases snoc_of (C k) with h | ⟨m, e', h⟩
    · rw [h] at this
      have : X 7 k = -1 := this
      omega
    · rw [h, lastI_snoc] at this
      have : e = e' := by omega
      subst this
      rw [h]; simp
  refine ⟨updL C k (C k ++ [s]), G, ⟨U2, b1, b2, (allC_snoc hk).append_right G |>.trans b3, ?_, ?_, ?_⟩, ?_⟩
  · rw [(allC_snoc hk).length_eq, List.length_append, a4]; rfl
  · exact chn_congr (fun x hx => hch x (b6 x hx).1 (fun e he q => (b6 x hx).2 k hk (q ▸ hlast e he))) b5
  · intro j hj
    obtain ⟨c1, c2, c3, c4⟩ := a6 j hj
    by_cases e : j = k
    · subst e
      rw [updL_k, z7, z8, upz_k, upz_k]
      refine ⟨?_, (lastI_snoc _ _).symm, by rw [List.length_append, c3]; rfl, fun x hx => ?_⟩
      · rcases h2 with ⟨g1, g2, g3⟩ | ⟨e, g1, g2, g3⟩
        · have hn : C j = [] := by
            rcases snoc_of (C j) with h | ⟨m, e', h⟩
            · exact h
            · rw [h, lastI_snoc] at c2; omega
          rw [hn, g2, g3, upz_k]
          exact ⟨rfl, upz_k _ _ _⟩
        · rcases snoc_of (C j) with h | ⟨m, e', h⟩
          · rw [h] at c2
            have : X 7 j = -1 := c2
            omega
          · have he : e' = e := by rw [h, lastI_snoc] at c2; omega
            subst he
            rw [h] at c1 ⊢
            have nd := (hC j hj).1
            rw [h] at nd
            have hes : e' ≠ s := fun q => b4 j hj (by rw [h, q]; simp)
            rw [g3]
            refine chn_snoc c1 (fun x hx => ?_) (by rw [g2, upz_k]) (by rw [g2, upz_ne _ _ (fun q => hes q.symm), upz_k])
            have hxe : x ≠ e' := fun q => by
              subst q
              exact (List.nodup_append.mp nd).2.2 x hx x (by simp) rfl
            have hxs : x ≠ s := fun q => b4 j hj (by rw [h, ← q]; simp [hx])
            rw [g2, upz_ne _ _ hxe, upz_ne _ _ hxs]
      · rw [z1]
        by_cases q : x = s
        · rw [q, upz_k]
        · rw [upz_ne _ _ q]
          rcases List.mem_append.mp hx with h | h
          · exact c4 x h
          · simp at h; exact absurd h q
    · rw [updL_ne _ _ e, z7, z8, upz_ne _ _ e, upz_ne _ _ e]
      have h6 : Z 6 j = X 6 j := by
        rcases h2 with ⟨-, -, g3⟩ | ⟨-, -, -, g3⟩
        · rw [g3, upz_ne _ _ e]
        · rw [g3]
      rw [h6]
      refine ⟨chn_congr (fun x hx => hch x (fun q => b4 j hj (q ▸ hx)) (fun y hy q => ?_)) c1, c2, c3, fun x hx => ?_⟩
      · subst q
        exact (hC k hk).2.1 j hj e x (hlast x hy) hx
      · rw [z1, upz_ne _ _ (show x ≠ s from fun q => b4 j hj (q ▸ hx))]
        exact c4 x hx
  · intro j hj
    by_cases e : j = k
    · subst e
      rw [updL_k, updL_k, List.map_append, hP j hj, map_pkX (old j hj)]
      congr 1
      show [(t, w, o, b)] = [pkX Z s]
      unfold pkX
      rw [z0, z2, z3, z4, upz_k, upz_k, upz_k, upz_k]
    · rw [updL_ne _ _ e, updL_ne _ _ e, hP j hj, map_pkX (old j hj)]
theorem PkRep.first {X : Nat → Nat → Int} {us fr ct : Int} {P : Nat → List Pkt} {k : Nat} (h : PkRep X us fr ct P) (hk : k < 6) :
    (X 6 k = -1 ∧ P k = []) ∨ ∃ (s : Nat) (l : List Pkt), X 6 k = s ∧ s < 300 ∧ P k = pkX X s :: l ∧ X 1 s = k ∧ (X 5 s = -1 ↔ l = []) ∧ -1 ≤ X 5 s ∧ X 5 s < 300 := by
  obtain ⟨C, F, hS, hP⟩ := h
  obtain ⟨hC, -⟩ := hS.apart
  obtain ⟨U, -, -, -, -, -, a6⟩ := hS
  obtain ⟨c1, c2, c3, c4⟩ := a6 k hk
  have hp := hP k hk
  have hm := (hC k hk).2.2.2
  cases e : C k with
  | nil => rw [e] at c1 hp; exact Or.inl ⟨c1, hp⟩
  | cons s t =>
    rw [e] at c1 hp hm c4
    refine Or.inr ⟨s, t.map (pkX X), c1.1, hm s (List.mem_cons_self), hp, c4 s (List.mem_cons_self), ?_, ?_⟩
    · cases t with
      | nil => exact ⟨fun _ => rfl, fun _ => c1.2⟩
      | cons a t =>
        have := c1.2.1
        exact ⟨fun q => by omega, fun q => by simp at q⟩
    · cases t with
      | nil => have : X 5 s = -1 := c1.2; omega
      | cons a t =>
        have := c1.2.1
        have := hm a (by simp)
        omega
theorem PkRep.deq {X Z : Nat → Nat → Int} {us fr ct : Int} {P : Nat → List Pkt} {k s : Nat} (h : PkRep X us fr ct P) (hk : k < 6) (hs : X 6 k = s)
    (z0 : Z 0 = X 0) (z1 : Z 1 = X 1) (z2 : Z 2 = X 2) (z3 : Z 3 = X 3) (z4 : Z 4 = X 4) (z5 : Z 5 = upz (X 5) s fr) (z6 : Z 6 = upz (X 6) k (X 5 s))
    (z7 : (X 5 s = -1 ∧ Z 7 = upz (X 7) k (-1)) ∨ (X 5 s ≠ -1 ∧ Z 7 = X 7)) (z8 : Z 8 = upz (X 8) k (X 8 k - 1)) : PkRep Z us s (ct - 1) (updL P k (P k).tail) := by
  obtain ⟨C, F, hS, hP⟩ := h
  obtain ⟨hC, hF, hF3⟩ := hS.apart
  obtain ⟨U, a1, a2, a3, a4, a5, a6⟩ := hS
  obtain ⟨c1, c2, c3, c4⟩ := a6 k hk
  cases hCk : C k with
  | nil =>
    rw [hCk] at c1
    have : X 6 k = -1 := c1
    omega
  | cons x t =>
    rw [hCk] at c1 c2 c3
    have hx : x = s := by have := c1.1; omega
    subst hx
    have hxk : x ∈ C k := by rw [hCk]; exact List.mem_cons_self
    have nd := (hC k hk).1
    rw [hCk] at nd
    have hxt := (List.nodup_cons.mp nd).1
    have hch : ∀ y, y ≠ x → Z 5 y = X 5 y := fun y hy => by rw [z5, upz_ne _ _ hy]
    have hmap : ∀ l : List Nat, l.map (pkX Z) = l.map (pkX X) := fun l => map_pkX (fun y _ => by rw [z0, z2, z3, z4]; exact ⟨rfl, rfl, rfl, rfl⟩)
    have hlen := (allC_tail hk hCk).length_eq
    refine ⟨updL C k t, x :: F, ⟨U, a1, a2, ?_, ?_, ?_, ?_⟩, ?_⟩
    · exact (List.perm_middle.trans ((allC_tail hk hCk).append_right F)).trans a3
    · rw [a4, ← hlen, List.length_cons]; omega
    · refine ⟨rfl, ?_⟩
      rw [z5, upz_k]
      refine chn_congr (fun y hy => ?_) a5
      exact upz_ne _ _ (fun q => (hC k hk).2.2.1 x hxk (q ▸ hy))
    · intro j hj
      by_cases e : j = k
      · subst e
        rw [updL_k, z6, z8, upz_k, upz_k, z1]
        refine ⟨chn_congr (fun y hy => hch y (fun q => hxt (q ▸ hy))) c1.2, ?_, by rw [c3, List.length_cons]; omega, fun y hy => c4 y (by rw [hCk]; exact List.mem_cons_of_mem _ hy)⟩
        cases t with
        | nil =>
          have h5 : X 5 x = -1 := c1.2
          rcases z7 with ⟨-, q⟩ | ⟨q, -⟩
          · rw [q, upz_k]; rfl
          · exact absurd h5 q
        | cons a t =>
          have h5 := c1.2.1
          rcases z7 with ⟨q, -⟩ | ⟨-, q⟩
          · omega
          · rw [q, c2]; rfl
      · obtain ⟨d1, d2, d3, d4⟩ := a6 j hj
        rw [updL_ne _ _ e, z6, z8, upz_ne _ _ e, upz_ne _ _ e, z1]
        have h7 : Z 7 j = X 7 j := by
          rcases z7 with ⟨-, q⟩ | ⟨-, q⟩
          · rw [q, upz_ne _ _ e]
          · rw [q]
        rw [h7]
        exact ⟨chn_congr (fun y hy => hch y (fun q => (hC k hk).2.1 j hj e x hxk (q ▸ hy))) d1, d2, d3, d4⟩
    · intro j hj
      by_cases e : j = k
      · subst e
        rw [updL_k, updL_k, hP j hj, hCk, hmap]; rfl
      · rw [updL_ne _ _ e, updL_ne _ _ e, hP j hj, hmap]
theorem PkRep.cp {X Z : Nat → Nat → Int} {us fr ct : Int} {P : Nat → List Pkt} {U : Nat} (h : PkRep X us fr ct P) (hU : us = U) (h1 : ∀ i : Nat, i < 6 → ∀ s : Nat, s < U → Z i s = X i s) (h2 : ∀ i : Nat, 6 ≤ i → i < 9 → ∀ k : Nat, k < 6 → Z i k = X i k) : PkRep Z us fr ct P := by
  obtain ⟨C, F, ⟨U', a1, a2, a3, a4, a5, a6⟩, hP⟩ := h
  have e : U' = U := by omega
  subst e
  have hm : ∀ x ∈ allC C 6 ++ F, x < U' := fun x hx => List.mem_range.mp (a3.mem_iff.mp hx)
  have hmC : ∀ k : Nat, k < 6 → ∀ x ∈ C k, x < U' := fun k hk x hx => hm x (List.mem_append_left _ (allC_mem.mpr ⟨k, hk, hx⟩))
  refine ⟨C, F, ⟨U', a1, a2, a3, a4, chn_congr (fun s hs => h1 5 (by omega) s (hm s (List.mem_append_right _ hs))) a5, fun k hk => ?_⟩, fun k hk => ?_⟩
  · obtain ⟨c1, c2, c3, c4⟩ := a6 k hk
    rw [h2 6 (by omega) (by omega) k hk, h2 7 (by omega) (by omega) k hk, h2 8 (by omega) (by omega) k hk]
    exact ⟨chn_congr (fun s hs => h1 5 (by omega) s (hmC k hk s hs)) c1, c2, c3, fun s hs => by rw [h1 1 (by omega) s (hmC k hk s hs)]; exact c4 s hs⟩
  · rw [hP k hk]
    refine (map_pkX (fun s hs => ?_)).symm
    have := hmC k hk s hs
    exact ⟨h1 0 (by omega) s this, h1 2 (by omega) s this, h1 3 (by omega) s this, h1 4 (by omega) s this⟩
theorem PkRep.empty {X : Nat → Nat → Int} {us fr ct : Int} (h0 : us = 0) (h1 : fr = -1) (h2 : ct = 0) (h3 : ∀ k : Nat, k < 6 → X 6 k = -1 ∧ X 7 k = -1 ∧ X 8 k = 0) : PkRep X us fr ct (fun _ => []) := by
  refine ⟨fun _ => [], [], ⟨0, h0, by omega, ?_, h2, h1, fun k hk => ?_⟩, fun _ _ => rfl⟩
  · exact List.Perm.refl _
  · obtain ⟨a, b, c⟩ := h3 k hk
    exact ⟨a, b, c, fun s hs => by simp at hs⟩
theorem PkRep.bounds {X : Nat → Nat → Int} {us fr ct : Int} {P : Nat → List Pkt} (h : PkRep X us fr ct P) : 0 ≤ us ∧ us ≤ 300 ∧ 0 ≤ ct ∧ ct ≤ 300 ∧ ∀ k : Nat, k < 6 → X 8 k = (P k).length := by
  obtain ⟨C, F, hS, hP⟩ := h
  obtain ⟨U, n, e1, e2, e3, e4⟩ := hS.ct
  obtain ⟨-, -, -, -, -, -, a6⟩ := hS
  refine ⟨by omega, by omega, by omega, by omega, fun k hk => ?_⟩
  rw [(a6 k hk).2.2.1, hP k hk, List.length_map]
