/-! what the law counts -/
def ltot (z : St) (w : Nat) : Nat → Int
  | 0 => 0
  | n + 1 => ltot z w n + lnkV z n w
def sumsF (z : St) (k w : Nat) : Nat → Int := fun j => if 3 ≤ j ∧ j < 8 then ltot z j (if j < w then k + 1 else k) else 0
theorem sumsF_0 (z : St) : sumsF z 0 3 = fun _ => 0 := by
  funext j
  unfold sumsF
  by_cases h : 3 ≤ j ∧ j < 8
  · rw [if_pos h, if_neg (by omega)]; rfl
  · rw [if_neg h]
theorem sumsF_s (z : St) {k w : Nat} (h1 : 3 ≤ w) (h2 : w < 8) : upz (sumsF z k w) w (sumsF z k w w + lnkV z k w) = sumsF z k (w + 1) := by
  funext j
  unfold upz
  by_cases e : j = w
  · subst e
    have a : sumsF z k j j = ltot z j k := by
      unfold sumsF
      rw [if_pos (And.intro h1 h2), if_neg (Nat.lt_irrefl j)]
    have b : sumsF z k (j + 1) j = ltot z j (k + 1) := by
      unfold sumsF
      rw [if_pos (And.intro h1 h2), if_pos (Nat.lt_succ_self j)]
    rw [if_pos rfl, a, b]; rfl
  · rw [if_neg e]
    unfold sumsF
    by_cases h : 3 ≤ j ∧ j < 8
    · rw [if_pos h, if_pos h]
      by_cases q : j < w
      · rw [if_pos q, if_pos (by omega)]
      · rw [if_neg q, if_neg (by omega)]
    · rw [if_neg h, if_neg h]
theorem sumsF_k (z : St) (k : Nat) : sumsF z k 8 = sumsF z (k + 1) 3 := by
  funext j
  unfold sumsF
  by_cases h : 3 ≤ j ∧ j < 8
  · rw [if_pos h, if_pos h, if_pos h.2, if_neg (by omega)]
  · rw [if_neg h, if_neg h]
theorem sumsF_at (z : St) (k j : Nat) (h1 : 3 ≤ j) (h2 : j < 8) : sumsF z k 3 j = ltot z j k := by
  unfold sumsF
  rw [if_pos (And.intro h1 h2), if_neg (by omega)]
def hpsN (z : St) : Nat → Int
  | 0 => 0
  | n + 1 => hpsN z n + (if hofZ z n = -1 then 0 else 1)
def wayN (z : St) : Nat → Int
  | 0 => 0
  | n + 1 => wayN z n + datV z n 8
def bytN (z : St) : Nat → Int
  | 0 => 0
  | n + 1 => bytN z n + (if z.2.2.1 n 5 = 1 then z.2.2.1 n 0 else 0)
theorem hpsN_le (z : St) (n : Nat) : 0 ≤ hpsN z n ∧ hpsN z n ≤ n := by
  induction n with
  | zero => exact ⟨Int.le_refl _, Int.le_refl _⟩
  | succ n ih => show 0 ≤ hpsN z n + (if hofZ z n = -1 then 0 else 1) ∧ hpsN z n + (if hofZ z n = -1 then 0 else 1) ≤ ((n + 1 : Nat) : Int); split <;> omega
theorem hcnt_le4 (Hp : Nat → Nat → Int) (n : Nat) : 0 ≤ hcnt Hp n ∧ hcnt Hp n ≤ n := by
  induction n with
  | zero => exact ⟨Int.le_refl _, Int.le_refl _⟩
  | succ n ih => show 0 ≤ hcnt Hp n + (if Hp n 0 = -1 then 0 else 1) ∧ hcnt Hp n + (if Hp n 0 = -1 then 0 else 1) ≤ ((n + 1 : Nat) : Int); split <;> omega
theorem bytN_le {z : St} {n : Nat} (h : ∀ d : Nat, d < n → 0 ≤ z.2.2.1 d 0 ∧ z.2.2.1 d 0 ≤ 1000) : 0 ≤ bytN z n ∧ bytN z n ≤ 1000 * n := by
  induction n with
  | zero => exact ⟨Int.le_refl _, Int.le_refl _⟩
  | succ n ih =>
    have h1 := ih (fun d hd => h d (by omega))
    have h2 := h n (by omega)
    show 0 ≤ bytN z n + (if z.2.2.1 n 5 = 1 then z.2.2.1 n 0 else 0) ∧ bytN z n + (if z.2.2.1 n 5 = 1 then z.2.2.1 n 0 else 0) ≤ 1000 * ((n + 1 : Nat) : Int)
    split <;> omega
theorem cntL_nn (d : Int) (l : List Pkt) : 0 ≤ cntL d l := by
  induction l with
  | nil => exact Int.le_refl _
  | cons x l ih => show 0 ≤ (if x.2.1 = d then (1 : Int) else 0) + cntL d l; split <;> omega
theorem cntP_nn (P : Nat → List Pkt) (d : Int) (n : Nat) : 0 ≤ cntP P d n := by
  induction n with
  | zero => exact Int.le_refl _
  | succ n ih => have h := cntL_nn d (P n); show 0 ≤ cntP P d n + cntL d (P n); omega
theorem wayN_nn (z : St) (n : Nat) : 0 ≤ wayN z n := by
  induction n with
  | zero => exact Int.le_refl _
  | succ n ih => have h : 0 ≤ datV z n 8 := cntP_nn _ _ _; show 0 ≤ wayN z n + datV z n 8; omega
theorem wayN_mono {z : St} {m n : Nat} (h : m ≤ n) : wayN z m ≤ wayN z n := by
  induction n with
  | zero => rw [show m = 0 by omega]; exact Int.le_refl _
  | succ n ih =>
    by_cases e : m = n + 1
    · rw [e]; exact Int.le_refl _
    · have h1 := ih (by omega)
      have h2 : 0 ≤ datV z n 8 := cntP_nn _ _ _
      show _ ≤ wayN z n + datV z n 8
      omega
theorem fcnt_all {Dg : Nat → Nat → Int} {n : Nat} (h : ∀ d : Nat, d < n → 0 ≤ Dg d 5 ∧ Dg d 5 ≤ 3) : fcnt Dg 0 n + (fcnt Dg 1 n + fcnt Dg 2 n) + fcnt Dg 3 n = n := by
  induction n with
  | zero => rfl
  | succ n ih =>
    have h1 := ih (fun d hd => h d (by omega))
    have h2 := h n (by omega)
    show (fcnt Dg 0 n + (if Dg n 5 = 0 then 1 else 0)) + ((fcnt Dg 1 n + (if Dg n 5 = 1 then 1 else 0)) + (fcnt Dg 2 n + (if Dg n 5 = 2 then 1 else 0))) + (fcnt Dg 3 n + (if Dg n 5 = 3 then 1 else 0)) = ((n + 1 : Nat) : Int)
    rcases (show Dg n 5 = 0 ∨ Dg n 5 = 1 ∨ Dg n 5 = 2 ∨ Dg n 5 = 3 by omega) with q | q | q | q <;> rw [q] <;> simp <;> omega
/-- a datagram stands as the law wants it -/
def DgW (z : St) (d : Nat) : Prop := (z.2.2.1 d 5 ≠ 0 → hofZ z d = -1) ∧ (z.2.2.1 d 5 = 0 ↔ z.2.2.1 d 6 < 0) ∧ (z.2.2.1 d 5 = 3 ↔ 0 < z.2.2.1 d 7) ∧ (1 ≤ z.2.2.1 d 3 ∧ z.2.2.1 d 3 < 1000000) ∧ (-1 ≤ z.2.2.1 d 6 ∧ z.2.2.1 d 6 < 1000000) ∧ (0 ≤ z.2.2.1 d 7 ∧ z.2.2.1 d 7 < 1000000) ∧ ∀ j : Nat, hofZ z d = j → HpWell (z.2.2.2.2.1 j) (z.2.2.2.1 j 2) (z.2.2.2.1 j 3) (z.2.2.2.1 j 6)
def AcB (A : Nat → Int) : Prop := (∀ i : Nat, (i = 0 ∨ i = 1 ∨ i = 2 ∨ i = 5 ∨ i = 6 ∨ i = 10 ∨ i = 11) → 0 ≤ A i ∧ A i < 1000000000) ∧ A 6 ≤ A 5 ∧ A 10 ≤ A 5 ∧ A 2 + A 1 ≤ A 0
def CntOk (z : St) : Prop :=
  (ltot z 3 (z.1 6).toNat = z.2.2.2.2.2.2.2 0 ∧ ltot z 4 (z.1 6).toNat = totQ z.2.2.2.2.2.1 6 ∧ ltot z 5 (z.1 6).toNat = z.2.2.2.2.2.2.2 1 ∧ ltot z 6 (z.1 6).toNat = z.2.2.2.2.2.2.2 3 ∧ ltot z 7 (z.1 6).toNat = z.2.2.2.2.2.2.2 4)
  ∧ z.2.2.2.2.2.2.2 0 - (z.2.2.2.2.2.2.2 1 + z.2.2.2.2.2.2.2 2 + totQ z.2.2.2.2.2.1 6 + z.2.2.2.2.2.2.2 12) = 0 ∧ totQ z.2.2.2.2.2.1 6 ≤ 300
  ∧ (∀ d : Nat, (d : Int) < z.1 7 → DgW z d) ∧ hpsN z (z.1 7).toNat = hcnt z.2.2.2.1 4 ∧ wayN z (z.1 7).toNat ≤ totQ z.2.2.2.2.2.1 6 ∧ bytN z (z.1 7).toNat ≤ z.2.2.2.2.2.2.2 11
  ∧ (∀ k : Nat, 1 ≤ k → k < totQ z.2.2.2.2.2.1 6 → pakV z (k - 1) 1 ≤ pakV z k 1 ∧ z.1 0 < pakV z (k - 1) 1) ∧ AcB z.2.2.2.2.2.2.2
theorem pak1_in {z : St} (h : StOk z) {k : Nat} (hk : k < totQ z.2.2.2.2.2.1 6) : 0 ≤ pakV z k 1 ∧ pakV z k 1 ≤ z.1 0 + 50 := by
  obtain ⟨-, h1, h2, h3⟩ := pktX_in hk
  exact (h.2.2.2.2.1 _ (by omega) _ h3).1
theorem hep0_in {z : St} (h : StOk z) {d : Nat} : (hofZ z d = -1 ∧ hepV z d 0 = -1) ∨ (hofZ z d ≠ -1 ∧ 0 ≤ hepV z d 0 ∧ hepV z d 0 ≤ z.1 0) := by
  unfold hepV
  by_cases e : hofZ z d = -1
  · rw [if_pos e]; exact Or.inl ⟨e, rfl⟩
  · rw [if_neg e]
    have hin := hofI_in z.2.2.2.1 d 4
    have e2 : hofI z.2.2.2.1 d 4 ≠ -1 := e
    exact Or.inr ⟨e, (h.2.2.2.1 (hofZ z d).toNat (by show (hofI z.2.2.2.1 d 4).toNat < 4; omega)).2⟩
