abbrev RX := (Nat → Nat → Int) × (Nat → Nat → Int) × (Nat → Int → Int)
abbrev RY := (Nat → Nat → Int) × (Nat → Nat → Int) × (Nat → Int → Int) × (Nat → Int)
def kcnt (V : Int → Int) : Nat → Int
  | 0 => 0
  | n + 1 => kcnt V n + (if V n = -1 then 0 else 1)
theorem kcnt_le (V : Int → Int) (n : Nat) : 0 ≤ kcnt V n ∧ kcnt V n ≤ n := by
  induction n with
  | zero => exact ⟨Int.le_refl _, Int.le_refl _⟩
  | succ n ih => show 0 ≤ kcnt V n + (if V n = -1 then 0 else 1) ∧ kcnt V n + (if V n = -1 then 0 else 1) ≤ ((n + 1 : Nat) : Int); split <;> omega
theorem kcnt_no (n : Nat) : kcnt (fun _ => -1) n = 0 := by
  induction n with
  | zero => rfl
  | succ n ih => show kcnt (fun _ => -1) n + 0 = 0; omega
theorem kcnt_eq {V E : Int → Int} {n : Nat} (h : ∀ z : Int, z < n → E z = V z) : kcnt E n = kcnt V n := by
  induction n with
  | zero => rfl
  | succ n ih =>
    show kcnt E n + (if E n = -1 then 0 else 1) = kcnt V n + (if V n = -1 then 0 else 1)
    rw [ih (fun z hz => h z (by omega)), h n (by omega)]
theorem kcnt_upd {V E : Int → Int} {i n : Nat} {x : Int} (h : ∀ z : Int, E z = if z = i then x else V z) (hi : i < n) : kcnt E n = kcnt V n + (if x = -1 then 0 else 1) - (if V i = -1 then 0 else 1) := by
  induction n with
  | zero => omega
  | succ n ih =>
    show kcnt E n + (if E n = -1 then 0 else 1) = kcnt V n + (if V n = -1 then 0 else 1) + (if x = -1 then 0 else 1) - (if V i = -1 then 0 else 1)
    by_cases e : i = n
    · subst e
      rw [kcnt_eq (V := V) (fun z hz => by rw [h z, if_neg (by omega)]), h (i : Int), if_pos rfl]
      omega
    · rw [ih (by omega), h (n : Int), if_neg (show ¬ ((n : Nat) : Int) = ((i : Nat) : Int) by omega)]
      omega
theorem kcnt_tk {V val : Int → Int} {rp : Int} {o la n : Nat} (hv : ∀ z, 0 ≤ val z) (h1 : o ≤ la) (h2 : la ≤ n) : kcnt (tkV V val rp o la) n = kcnt V n + tkU V o (la - o) := by
  induction la with
  | zero =>
    have : o = 0 := by omega
    subst this
    rw [kcnt_eq (V := V) (fun z _ => tkV_0 V val rp _ z)]
    show _ = kcnt V n + 0
    omega
  | succ la ih =>
    by_cases e : o = la + 1
    · subst e
      rw [kcnt_eq (V := V) (fun z _ => tkV_0 V val rp _ z), Nat.sub_self]
      show _ = kcnt V n + 0
      omega
    · have h3 : o ≤ la := by omega
      have h4 := kcnt_upd (V := tkV V val rp o la) (E := tkV V val rp o ((la + 1 : Nat) : Int)) (i := la) (n := n) (x := if V la = -1 then val la else if rp = 0 then V la else val la) (fun z => tkV_s (o := (o : Int)) (i := (la : Int)) (by omega) z) (by omega)
      rw [h4, ih h3 (by omega), tkU_s h3, tkV_at]
      have := hv la
      by_cases e1 : V la = -1
      · rw [if_pos e1, if_pos e1, if_neg (by omega), if_pos e1]; omega
      · rw [if_neg e1, if_neg e1, if_neg e1]
        by_cases e2 : rp = 0
        · rw [if_pos e2, if_neg e1]; omega
        · rw [if_neg e2, if_neg (by omega)]; omega
def HpOk (row : Nat → Int) (n : Nat) (f : Nat → Int32) (V : Int → Int) : Prop := row 0 ≠ -1 → n = 1192 ∧ HpRep (row 6) n f V ∧ row 3 = kcnt V 1192 ∧ -1 ≤ row 2 ∧ row 2 ≤ 1192
def HsRep (Hp : Nat → Nat → Int) (Hv : Nat → Int → Int) (hn : Nat → Nat) (hf : Nat → Nat → Int32) : Prop := ∀ i : Nat, i < 4 → (hn i = 0 ∨ hn i = 1192) ∧ HpOk (Hp i) (hn i) (hf i) (Hv i)
theorem HsRep.set {Hp : Nat → Nat → Int} {Hv : Nat → Int → Int} {hn : Nat → Nat} {hf : Nat → Nat → Int32} (h : HsRep Hp Hv hn hf) (j : Nat) {row : Nat → Int} {n : Nat} {f : Nat → Int32} {V : Int → Int} (h1 : n = 0 ∨ n = 1192) (h2 : HpOk row n f V) : HsRep (setR Hp j row) (setR Hv j V) (setR hn j n) (setR hf j f) := by
  intro i hi
  by_cases e : i = j
  · subst e; rw [setR_k, setR_k, setR_k, setR_k]; exact ⟨h1, h2⟩
  · rw [setR_ne _ _ e, setR_ne _ _ e, setR_ne _ _ e, setR_ne _ _ e]; exact h i hi
theorem HsRep.row {Hp : Nat → Nat → Int} {Hv : Nat → Int → Int} {hn : Nat → Nat} {hf : Nat → Nat → Int32} (h : HsRep Hp Hv hn hf) (j : Nat) {row : Nat → Int} (h2 : j < 4 → HpOk row (hn j) (hf j) (Hv j)) : HsRep (setR Hp j row) Hv hn hf := by
  intro i hi
  by_cases e : i = j
  · subst e; rw [setR_k]; exact ⟨(h i hi).1, h2 hi⟩
  · rw [setR_ne _ _ e]; exact h i hi
theorem HsRep.tk {Hp : Nat → Nat → Int} {Hv : Nat → Int → Int} {hn : Nat → Nat} {hf : Nat → Nat → Int32} (h : HsRep Hp Hv hn hf) (j : Nat) {row : Nat → Int} {f : Nat → Int32} {V : Int → Int} (h2 : j < 4 → HpOk row (hn j) f V) : HsRep (setR Hp j row) (setR Hv j V) hn (setR hf j f) := by
  intro i hi
  by_cases e : i = j
  · subst e; rw [setR_k, setR_k, setR_k]; exact ⟨(h i hi).1, h2 hi⟩
  · rw [setR_ne _ _ e, setR_ne _ _ e, setR_ne _ _ e]; exact h i hi
def potH (hn : Nat → Nat) : Nat := (1192 - hn 0) + (1192 - hn 1) + (1192 - hn 2) + (1192 - hn 3)
theorem potH_q {hn : Nat → Nat} {q : Nat} (h : q < 4) : ∃ pr : Nat, potH hn = (1192 - hn q) + pr ∧ ∀ x : Nat, potH (setR hn q x) = (1192 - x) + pr := by
  rcases (show q = 0 ∨ q = 1 ∨ q = 2 ∨ q = 3 by omega) with rfl | rfl | rfl | rfl
  · exact ⟨(1192 - hn 1) + (1192 - hn 2) + (1192 - hn 3), by unfold potH; omega, fun x => by show (1192 - x) + (1192 - hn 1) + (1192 - hn 2) + (1192 - hn 3) = _; omega⟩
  · exact ⟨(1192 - hn 0) + (1192 - hn 2) + (1192 - hn 3), by unfold potH; omega, fun x => by show (1192 - hn 0) + (1192 - x) + (1192 - hn 2) + (1192 - hn 3) = _; omega⟩
  · exact ⟨(1192 - hn 0) + (1192 - hn 1) + (1192 - hn 3), by unfold potH; omega, fun x => by show (1192 - hn 0) + (1192 - hn 1) + (1192 - x) + (1192 - hn 3) = _; omega⟩
  · exact ⟨(1192 - hn 0) + (1192 - hn 1) + (1192 - hn 2), by unfold potH; omega, fun x => by show (1192 - hn 0) + (1192 - hn 1) + (1192 - hn 2) + (1192 - x) = _; omega⟩
def begR (d t : Int) : Nat → Int := vec [d, t, -1, 0, 0, 0, 0]
def fstJ (Hp : Nat → Nat → Int) : Nat := if hofI Hp (-1) 4 = -1 then oldI Hp 4 else (hofI Hp (-1) 4).toNat
theorem fstJ_lt (Hp : Nat → Nat → Int) : fstJ Hp < 4 := by
  have h1 := oldI_lt Hp 4
  have h2 := hofI_in Hp (-1) 4
  unfold fstJ
  split <;> omega
def hfJ (Hp : Nat → Nat → Int) (d : Int) : Nat := if hofI Hp d 4 = -1 then fstJ Hp else (hofI Hp d 4).toNat
theorem hfJ_lt (Hp : Nat → Nat → Int) (d : Int) : hfJ Hp d < 4 := by
  have h1 := fstJ_lt Hp
  have h2 := hofI_in Hp d 4
  unfold hfJ
  split <;> omega
def hfF (t d : Int) (x : RX) : RX := if hofI x.2.1 d 4 = -1 then (if x.2.1 (fstJ x.2.1) 0 = -1 then x.1 else setR x.1 (x.2.1 (fstJ x.2.1) 0).toNat (closeR (x.1 (x.2.1 (fstJ x.2.1) 0).toNat) 3 t 2), setR x.2.1 (fstJ x.2.1) (begR d t), setR x.2.2 (fstJ x.2.1) (fun _ => -1)) else x
theorem hfF_whose (t d : Int) (x : RX) : (hfF t d x).2.1 (hfJ x.2.1 d) 0 = d := by
  unfold hfF hfJ
  by_cases e : hofI x.2.1 d 4 = -1
  · rw [if_pos e, if_pos e]
    show setR x.2.1 (fstJ x.2.1) (begR d t) (fstJ x.2.1) 0 = d
    rw [setR_k]; rfl
  · rw [if_neg e, if_neg e]
    exact (hofI_in x.2.1 d 4).2.2.1 e
def fateF (row d : Nat → Int) (V : Int → Int) : Int := if (if row 2 = d 0 then ownF V d (row 2).toNat else 0) = 0 then (2 : Int) else 1
def row1F (r : Nat → Int) : Nat → Int := upz r 5 (r 5 + 1)
def row2F (la il : Int) (r : Nat → Int) : Nat → Int := if il = 0 then r else upz r 2 la
def row3F (V : Int → Int) (o nb : Nat) (r : Nat → Int) : Nat → Int := upz (upz (upz r 3 (r 3 + tkU V o nb)) 4 (r 4 + ((nb : Int) - tkU V o nb))) 6 (max (r 6) ((o + nb : Nat) : Int))
def rowT (V : Int → Int) (o nb : Nat) (il : Int) (r : Nat → Int) : Nat → Int := row3F V o nb (row2F ((o + nb : Nat) : Int) il (row1F r))
def accT (V : Int → Int) (o nb : Nat) (A : Nat → Int) : Nat → Int := upz A 7 (A 7 + ((nb : Int) - tkU V o nb))
def valT (g : Nat → Int) (V : Int → Int) (o nb : Nat) (fill : Int) (dr : Nat → Int) : Int → Int := tkV V (tval fill dr) (if g 2 = 1 then 1 else 0) o ((o + nb : Nat) : Int)
def takeF (g : Nat → Int) (d o nb : Nat) (fill il : Int) (j : Nat) (y : RY) : RY :=
  if oddsI (y.2.1 j 2) (y.2.1 j 6) ((o + nb : Nat) : Int) il = 0 then
    (if tkO (y.2.2.1 j) (tval fill (y.1 d)) o nb = 1 ∧ g 2 = 2 then (setR y.1 d (closeR (y.1 d) 3 (g 0) 4), setR y.2.1 j (upz (rowT (y.2.2.1 j) o nb il (y.2.1 j)) 0 (-1)), setR y.2.2.1 j (valT g (y.2.2.1 j) o nb fill (y.1 d)), accT (y.2.2.1 j) o nb y.2.2.2)
     else if rowT (y.2.2.1 j) o nb il (y.2.1 j) 2 ≠ -1 ∧ rowT (y.2.2.1 j) o nb il (y.2.1 j) 3 = rowT (y.2.2.1 j) o nb il (y.2.1 j) 2 then
       (setR y.1 d (closeR (y.1 d) (fateF (rowT (y.2.2.1 j) o nb il (y.2.1 j)) (y.1 d) (valT g (y.2.2.1 j) o nb fill (y.1 d))) (g 0) 0), setR y.2.1 j (upz (rowT (y.2.2.1 j) o nb il (y.2.1 j)) 0 (-1)), setR y.2.2.1 j (valT g (y.2.2.1 j) o nb fill (y.1 d)), upz (accT (y.2.2.1 j) o nb y.2.2.2) 11 (accT (y.2.2.1 j) o nb y.2.2.2 11 + rowT (y.2.2.1 j) o nb il (y.2.1 j) 2))
     else (y.1, setR y.2.1 j (rowT (y.2.2.1 j) o nb il (y.2.1 j)), setR y.2.2.1 j (valT g (y.2.2.1 j) o nb fill (y.1 d)), accT (y.2.2.1 j) o nb y.2.2.2))
  else (setR y.1 d (closeR (y.1 d) 3 (g 0) 3), setR y.2.1 j (upz (row1F (y.2.1 j)) 0 (-1)), y.2.2.1, y.2.2.2)
def recvF (g : Nat → Int) (d o nb : Nat) (fill il : Int) (y : RY) : RY :=
  if y.1 d 5 = 0 then takeF g d o nb fill il (hfJ y.2.1 d) ((hfF (g 0) d (y.1, y.2.1, y.2.2.1)).1, (hfF (g 0) d (y.1, y.2.1, y.2.2.1)).2.1, (hfF (g 0) d (y.1, y.2.1, y.2.2.1)).2.2, upz y.2.2.2 5 (y.2.2.2 5 + 1))
  else (y.1, y.2.1, y.2.2.1, upz (upz y.2.2.2 5 (y.2.2.2 5 + 1)) 6 (upz y.2.2.2 5 (y.2.2.2 5 + 1) 6 + 1))
theorem hfF_dg (t : Int) (d : Nat) (x : RX) (h : ∀ i : Nat, i < 4 → -1 ≤ x.2.1 i 0) {k : Nat} (hk : k = d) : (hfF t d x).1 k = x.1 k := by
  unfold hfF
  split
  · rename_i e
    show (if x.2.1 (fstJ x.2.1) 0 = -1 then x.1 else setR x.1 (x.2.1 (fstJ x.2.1) 0).toNat (closeR (x.1 (x.2.1 (fstJ x.2.1) 0).toNat) 3 t 2)) k = x.1 k
    split
    · rfl
    · have h1 := (hofI_in x.2.1 d 4).2.2.2 e _ (fstJ_lt x.2.1)
      have h2 := h _ (fstJ_lt x.2.1)
      exact setR_ne _ _ (by omega)
  · rfl
theorem odds01 (a b c d : Int) : oddsI a b c d = 0 ∨ oddsI a b c d = 1 := by
  unfold oddsI
  (repeat' split) <;> first | exact Or.inl rfl | exact Or.inr rfl
