/-! a state as a whole; what stands fast of it -/
abbrev St := (Nat → Int) × (Nat → Nat → Int) × (Nat → Nat → Int) × (Nat → Nat → Int) × (Nat → Int → Int) × (Nat → List Pkt) × List Nte × (Nat → Int)
abbrev CL := (Nat → Nat) × (Nat → Nat) × (Nat → Nat → Int32) × ((Nat → Nat → Int) × Int × Int × Int) × ((Nat → Nat) × Nat × (Nat → Nat → Int) × Int × Int)
def RepC (z : St) (c : CL) : Prop := HsRep z.2.2.2.1 z.2.2.2.2.1 c.2.1 c.2.2.1 ∧ PkRep c.2.2.2.1.1 c.2.2.2.1.2.1 c.2.2.2.1.2.2.1 c.2.2.2.1.2.2.2 z.2.2.2.2.2.1 ∧ NtRep c.2.2.2.2.2.2.1 c.2.2.2.2.2.2.2.1 c.2.2.2.2.2.2.2.2 z.2.2.2.2.2.2.1 ∧ CapOk c.2.2.2.2.2.1 ∧ z.2.2.2.2.2.2.1.length ≤ c.2.2.2.2.2.1
def potC (c : CL) : Nat := potH c.2.1 + (4096 - c.2.2.2.2.2.1)
def potS (c : CL) : Nat := potH c.2.1 + 6 * (4096 - c.2.2.2.2.2.1)
def GOk (g : Nat → Int) : Prop := 0 ≤ g 0 ∧ (1 ≤ g 1 ∧ g 1 ≤ 200) ∧ (0 ≤ g 2 ∧ g 2 ≤ 2) ∧ (28 ≤ g 3 ∧ g 3 ≤ 1500) ∧ (27 ≤ g 4 ∧ g 4 ≤ 1500) ∧ (-1 ≤ g 5 ∧ g 5 ≤ 1500) ∧ (1 ≤ g 6 ∧ g 6 ≤ 6) ∧ (0 ≤ g 7 ∧ g 7 ≤ 40)
def LkOk (g : Nat → Int) (Lk : Nat → Nat → Int) : Prop := ∀ k : Nat, (k : Int) < g 6 → (28 ≤ Lk k 0 ∧ Lk k 0 ≤ 1500) ∧ (1 ≤ Lk k 1 ∧ Lk k 1 ≤ 50) ∧ (0 ≤ Lk k 2 ∧ Lk k 2 ≤ 99)
def DgOk (g : Nat → Int) (Dg : Nat → Nat → Int) : Prop := ∀ d : Nat, (d : Int) < g 7 → (1 ≤ Dg d 0 ∧ Dg d 0 ≤ 1000) ∧ (0 ≤ Dg d 1 ∧ Dg d 1 ≤ 255) ∧ (Dg d 2 = 0 ∨ Dg d 2 = 1) ∧ (0 ≤ Dg d 5 ∧ Dg d 5 ≤ 3)
def HpG (g : Nat → Int) (Hp : Nat → Nat → Int) : Prop := ∀ i : Nat, i < 4 → (-1 ≤ Hp i 0 ∧ Hp i 0 < g 7) ∧ 0 ≤ Hp i 1 ∧ Hp i 1 ≤ g 0
def PkIn (g : Nat → Int) (Dg : Nat → Nat → Int) (x : Pkt) : Prop := (0 ≤ x.1 ∧ x.1 ≤ g 0 + 50) ∧ ((x.2.1 = -1 ∧ x.2.2.1 = -1 ∧ 28 ≤ x.2.2.2 ∧ x.2.2.2 ≤ 1500) ∨ (0 ≤ x.2.1 ∧ x.2.1 < g 7 ∧ 0 ≤ x.2.2.1 ∧ 21 ≤ x.2.2.2 ∧ x.2.2.1 + x.2.2.2 - 20 ≤ Dg x.2.1.toNat 0))
def NtI (g : Nat → Int) (x : Nte) : Prop := (0 ≤ x.1 ∧ x.1 ≤ g 0 + 300) ∧ ((x.2.1 = -1 ∧ 28 ≤ x.2.2 ∧ x.2.2 ≤ 1500) ∨ ((28 ≤ x.2.1 ∧ x.2.1 ≤ 1500) ∧ ((-1500 ≤ x.2.2 ∧ x.2.2 ≤ -28) ∨ (0 ≤ x.2.2 ∧ x.2.2 < g 7))))
def AllP (Q : Pkt → Prop) (P : Nat → List Pkt) : Prop := ∀ k : Nat, k < 6 → ∀ x ∈ P k, Q x
def StOk (z : St) : Prop := GOk z.1 ∧ LkOk z.1 z.2.1 ∧ DgOk z.1 z.2.2.1 ∧ HpG z.1 z.2.2.2.1 ∧ AllP (PkIn z.1 z.2.2.1) z.2.2.2.2.2.1 ∧ ∀ x ∈ z.2.2.2.2.2.2.1, NtI z.1 x
theorem AllP.carry {Q : Pkt → Prop} {t wh og bt : Int} {k : Nat} {x : CX} (h : AllP Q x.2.1) (h2 : Q (t + x.1 1, wh, og, bt)) : AllP Q (carryF t k wh og bt x).2.1 := by
  unfold carryF
  split
  · exact h
  · split
    · intro j hj y hy
      by_cases e : j = k
      · subst e
        have hy : y ∈ updL x.2.1 j (x.2.1 j ++ [(t + x.1 1, wh, og, bt)]) j := hy
        rw [updL_k] at hy
        rcases List.mem_append.mp hy with q | q
        · exact h j hj y q
        · rw [List.mem_singleton.mp q]; exact h2
      · have hy : y ∈ updL x.2.1 k (x.2.1 k ++ [(t + x.1 1, wh, og, bt)]) j := hy
        rw [updL_ne _ _ e] at hy
        exact h j hj y hy
    · exact h
theorem AllP.carryN {Q : Pkt → Prop} {t wh og f : Int} {k n : Nat} {x : CX} (h : AllP Q x.2.1) (h2 : ∀ i : Nat, i < n → Q (t + x.1 1, wh, og + i * f, f + 20)) : AllP Q (carryN t k wh og f n x).2.1 := by
  induction n with
  | zero => exact h
  | succ n ih =>
    refine AllP.carry (ih (fun i hi => h2 i (by omega))) ?_
    rw [carryN_row _ _ _ _ _ _ _ (by decide)]
    exact h2 n (by omega)
theorem cutsI_lt {b z : Int} (h1 : 28 ≤ z) (h2 : z ≤ 1500) (h0 : 1 ≤ b) : cutsI b z * fullI z ≤ b - 1 := by
  have h3 : 8 ≤ fullI z ∧ fullI z ≤ z - 20 := by unfold fullI; omega
  unfold cutsI
  split
  · rw [Int.zero_mul]; omega
  · show (b - (z - 20) + fullI z - 1) / fullI z * fullI z ≤ b - 1
    have h4 := Int.ediv_mul_le (b - (z - 20) + fullI z - 1) (show fullI z ≠ 0 by omega)
    omega
/-- a piece of a datagram goes on a link -/
theorem AllP.fwd {g : Nat → Int} {Dg : Nat → Nat → Int} {wh og bt : Int} {k : Nat} {x : CX} (h : AllP (PkIn g Dg) x.2.1) (hg : 0 ≤ g 0) (hs : 28 ≤ x.1 0 ∧ x.1 0 ≤ 1500) (hd : 1 ≤ x.1 1 ∧ x.1 1 ≤ 50)
    (hx : (wh = -1 ∧ og = -1 ∧ 28 ≤ bt ∧ bt ≤ x.1 0) ∨ (0 ≤ wh ∧ wh < g 7 ∧ 0 ≤ og ∧ 21 ≤ bt ∧ og + bt - 20 ≤ Dg wh.toNat 0)) (hb : bt ≤ 2000) : AllP (PkIn g Dg) (fwdF (g 0) k wh og bt x).2.1 := by
  have h1 : AllP (PkIn g Dg) (if 0 < cutsI (bt - 20) (x.1 0) then cutF x else x).2.1 := by
    split
    · exact h
    · exact h
  have h2 : ∀ j : Nat, j < 3 → (if 0 < cutsI (bt - 20) (x.1 0) then cutF x else x).1 j = x.1 j := by
    intro j hj
    split
    · exact cutF_row x hj
    · rfl
  have hc := cutsI_in (b := bt - 20) (z := x.1 0) hs.1 hs.2 (by omega) (by omega)
  have hm := cutsI_lt (b := bt - 20) (z := x.1 0) hs.1 hs.2 (by omega)
  have hf : 8 ≤ fullI (x.1 0) := by unfold fullI; omega
  obtain ⟨f, hf0⟩ : ∃ f : Int, f = fullI (x.1 0) := ⟨_, rfl⟩
  obtain ⟨c, hc0⟩ : ∃ c : Nat, cutsI (bt - 20) (x.1 0) = c := ⟨(cutsI (bt - 20) (x.1 0)).toNat, by omega⟩
  unfold fwdF
  rw [hc0] at h1 h2 hm ⊢
  rw [← hf0] at hf hm ⊢
  rw [Int.toNat_natCast]
  have hpr : wh = -1 → c = 0 := by
    intro hw
    have : cutsI (bt - 20) (x.1 0) = 0 := by unfold cutsI; rw [if_pos (by omega)]
    omega
  have hi : ∀ i : Nat, i < c → (0 : Int) ≤ (i : Int) * f ∧ (i : Int) * f + f ≤ (c : Int) * f := by
    intro i hi
    refine ⟨Int.mul_nonneg (by omega) (by omega), ?_⟩
    have h3 := Int.mul_le_mul_of_nonneg_right (show ((i : Int) + 1) ≤ (c : Int) by omega) (show 0 ≤ f by omega)
    rw [Int.add_mul, Int.one_mul] at h3
    exact h3
  have hcf : (0 : Int) ≤ (c : Int) * f := Int.mul_nonneg (by omega) (by omega)
  refine AllP.carry (AllP.carryN h1 (fun i hic => ?_)) ?_
  · rw [h2 1 (by decide)]
    have q := hi i hic
    refine ⟨⟨by show 0 ≤ g 0 + x.1 1; omega, by show g 0 + x.1 1 ≤ g 0 + 50; omega⟩, Or.inr ?_⟩
    rcases hx with ⟨e, -⟩ | ⟨a1, a2, a3, a4, a5⟩
    · have := hpr e; omega
    · exact ⟨a1, a2, by show 0 ≤ og + (i : Int) * f; omega, by show 21 ≤ f + 20; omega, by show og + (i : Int) * f + (f + 20) - 20 ≤ Dg wh.toNat 0; omega⟩
  · rw [carryN_row _ _ _ _ _ _ _ (by decide), h2 1 (by decide)]
    refine ⟨⟨by show 0 ≤ g 0 + x.1 1; omega, by show g 0 + x.1 1 ≤ g 0 + 50; omega⟩, ?_⟩
    rcases hx with ⟨e, e2, e3, e4⟩ | ⟨a1, a2, a3, a4, a5⟩
    · have h0 := hpr e
      subst h0
      refine Or.inl ⟨e, ?_, ?_, ?_⟩
      · show og + ((0 : Nat) : Int) * f = -1; rw [show ((0 : Nat) : Int) * f = 0 from Int.zero_mul f]; omega
      · show 28 ≤ bt - ((0 : Nat) : Int) * f; rw [show ((0 : Nat) : Int) * f = 0 from Int.zero_mul f]; omega
      · show bt - ((0 : Nat) : Int) * f ≤ 1500; rw [show ((0 : Nat) : Int) * f = 0 from Int.zero_mul f]; omega
    · exact Or.inr ⟨a1, a2, by show 0 ≤ og + (c : Int) * f; omega, by show 21 ≤ bt - (c : Int) * f; omega, by show og + (c : Int) * f + (bt - (c : Int) * f) - 20 ≤ Dg wh.toNat 0; omega⟩
theorem AllP.mono {Q R : Pkt → Prop} {P : Nat → List Pkt} (h : AllP Q P) (hq : ∀ x, Q x → R x) : AllP R P := fun k hk x hx => hq x (h k hk x hx)
theorem AllP.tail {Q : Pkt → Prop} {P : Nat → List Pkt} (h : AllP Q P) (k : Nat) : AllP Q (updL P k (P k).tail) := by
  intro j hj x hx
  by_cases e : j = k
  · subst e; rw [updL_k] at hx; exact h j hj x (List.mem_of_mem_tail hx)
  · rw [updL_ne _ _ e] at hx; exact h j hj x hx
theorem putN_mem {L : List Nte} {x y : Nte} (h : y ∈ putN L x) : y ∈ L ∨ y = x := by
  unfold putN at h
  split at h
  · rcases List.mem_append.mp h with q | q
    · exact Or.inl q
    · exact Or.inr (List.mem_singleton.mp q)
  · exact Or.inl h
def firmI (Dg : Nat → Nat → Int) (wh : Int) : Int := if wh < 0 then 1 else Dg wh.toNat 2
theorem LkOk.set {g : Nat → Int} {Lk : Nat → Nat → Int} (h : LkOk g Lk) {k : Nat} {r : Nat → Int} (hr : ∀ j : Nat, j < 3 → r j = Lk k j) : LkOk g (setR Lk k r) := by
  intro i hi
  by_cases e : i = k
  · subst e; rw [setR_k, hr 0 (by decide), hr 1 (by decide), hr 2 (by decide)]; exact h i hi
  · rw [setR_ne _ _ e]; exact h i hi
theorem LkOk.dl {g : Nat → Int} {Lk : Nat → Nat → Int} (h : LkOk g Lk) (i : Nat) (hi : (i : Int) < g 6) : 1 ≤ Lk i 1 ∧ Lk i 1 ≤ 50 := (h i hi).2.1
theorem putK_ok {g : Nat → Int} {Dg : Nat → Nat → Int} {wh og bt : Int} {k : Nat} {y : LPX} (hg : GOk g) (hL : LkOk g y.1) (hP : AllP (PkIn g Dg) y.2.1) (hN : ∀ x ∈ y.2.2.1, NtI g x) (hk : (k : Int) < g 6)
    (hx : (wh = -1 ∧ og = -1 ∧ 28 ≤ bt ∧ bt ≤ 1500) ∨ (0 ≤ wh ∧ wh < g 7 ∧ 0 ≤ og ∧ 21 ≤ bt ∧ og + bt - 20 ≤ Dg wh.toNat 0 ∧ Dg wh.toNat 0 ≤ 1000)) :
    LkOk g (putK (g 0) k wh (firmI Dg wh) og bt y).1 ∧ AllP (PkIn g Dg) (putK (g 0) k wh (firmI Dg wh) og bt y).2.1 ∧ ∀ x ∈ (putK (g 0) k wh (firmI Dg wh) og bt y).2.2.1, NtI g x := by
  have h6 : g 6 ≤ 6 := hg.2.2.2.2.2.2.1.2
  have hl := hL k hk
  have hdl := dlyI_in (Lk := y.1) (n := k) (fun i hi => hL.dl i (by omega))
  have h0 : 0 ≤ g 0 := hg.1
  unfold putK
  split
  · rename_i hc
    refine ⟨hL.set (fun j hj => upz_ne _ _ (by omega)), hP, fun x hx2 => ?_⟩
    rcases putN_mem hx2 with q | q
    · exact hN x q
    · rw [q]
      refine ⟨⟨by show 0 ≤ g 0 + dlyI y.1 k; omega, by show g 0 + dlyI y.1 k ≤ g 0 + 300; omega⟩, Or.inr ⟨⟨hl.1.1, hl.1.2⟩, ?_⟩⟩
      show (-1500 ≤ abI wh bt ∧ abI wh bt ≤ -28) ∨ (0 ≤ abI wh bt ∧ abI wh bt < g 7)
      unfold abI
      rcases hx with ⟨e, e2, e3, e4⟩ | ⟨a1, a2, a3, a4, a5⟩
      · rw [if_pos e]; left; omega
      · rw [if_neg (by omega)]; right; omega
  · rename_i hc
    refine ⟨hL.set (fun j hj => fwdF_row _ _ _ _ _ _ hj), AllP.fwd (x := (y.1 k, y.2.1, y.2.2.2)) hP h0 hl.1 hl.2.1 ?_ ?_, hN⟩
    · rcases hx with ⟨e, e2, e3, e4⟩ | ⟨a1, a2, a3, a4, a5, a6⟩
      · have hf : firmI Dg wh = 1 := by unfold firmI; rw [if_pos (by omega)]
        exact Or.inl ⟨e, e2, e3, by show bt ≤ y.1 k 0; omega⟩
      · exact Or.inr ⟨a1, a2, a3, a4, a5⟩
    · rcases hx with ⟨e, e2, e3, e4⟩ | ⟨a1, a2, a3, a4, a5, a6⟩ <;> omega
