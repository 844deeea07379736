/-! datagrams and heaps -/
theorem closeR_6 (k : Nat → Int) (x y z : Int) : closeR k x y z 6 = y := by
  unfold closeR
  rw [upz_ne _ _ (by decide), upz_k]
theorem closeR_7 (k : Nat → Int) (x y z : Int) : closeR k x y z 7 = z := upz_k _ _ _
def bytD (Dg : Nat → Nat → Int) : Nat → Int
  | 0 => 0
  | n + 1 => bytD Dg n + (if Dg n 5 = 1 then Dg n 0 else 0)
def hndD (Dg : Nat → Nat → Int) (n : Nat) : Int := fcnt Dg 1 n + fcnt Dg 2 n
theorem bytD_eq {D E : Nat → Nat → Int} {n : Nat} (h : ∀ d : Nat, d < n → E d 5 = D d 5 ∧ E d 0 = D d 0) : bytD E n = bytD D n := by
  induction n with
  | zero => rfl
  | succ n ih =>
    show bytD E n + (if E n 5 = 1 then E n 0 else 0) = bytD D n + (if D n 5 = 1 then D n 0 else 0)
    rw [ih (fun d hd => h d (by omega)), (h n (by omega)).1, (h n (by omega)).2]
theorem bytD_set (D : Nat → Nat → Int) {d n : Nat} (r : Nat → Int) (h : d < n) : bytD (setR D d r) n = bytD D n + (if r 5 = 1 then r 0 else 0) - (if D d 5 = 1 then D d 0 else 0) := by
  induction n with
  | zero => omega
  | succ n ih =>
    show bytD (setR D d r) n + (if setR D d r n 5 = 1 then setR D d r n 0 else 0) = bytD D n + (if D n 5 = 1 then D n 0 else 0) + _ - _
    by_cases e : n = d
    · subst e
      rw [bytD_eq (D := D) (E := setR D n r) (fun i hi => by rw [setR_ne _ _ (by omega)]; exact ⟨rfl, rfl⟩), setR_k]; omega
    · rw [setR_ne _ _ e, ih (by omega)]; omega
theorem fcnt_eq {D E : Nat → Nat → Int} {f : Int} {n : Nat} (h : ∀ d : Nat, d < n → E d 5 = D d 5) : fcnt E f n = fcnt D f n := by
  induction n with
  | zero => rfl
  | succ n ih =>
    show fcnt E f n + (if E n 5 = f then 1 else 0) = fcnt D f n + (if D n 5 = f then 1 else 0)
    rw [ih (fun d hd => h d (by omega)), h n (by omega)]
theorem fcnt_set (D : Nat → Nat → Int) {d n : Nat} (r : Nat → Int) (f : Int) (h : d < n) : fcnt (setR D d r) f n = fcnt D f n + (if r 5 = f then 1 else 0) - (if D d 5 = f then 1 else 0) := by
  induction n with
  | zero => omega
  | succ n ih =>
    show fcnt (setR D d r) f n + (if setR D d r n 5 = f then 1 else 0) = fcnt D f n + (if D n 5 = f then 1 else 0) + _ - _
    by_cases e : n = d
    · subst e
      rw [fcnt_eq (D := D) (E := setR D n r) (fun i hi => by rw [setR_ne _ _ (by omega)]), setR_k]; omega
    · rw [setR_ne _ _ e, ih (by omega)]; omega
theorem kcnt_top {V : Int → Int} {m n : Nat} (h : ∀ x : Int, (m : Int) ≤ x → V x = -1) (hn : m ≤ n) : kcnt V n = kcnt V m := by
  rw [knN_kcnt, knN_kcnt]
  exact knN_ext (fun i hi => h i (by omega)) hn
theorem kcnt_pos {V : Int → Int} {i n : Nat} (h : V i ≠ -1) (hi : i < n) : 1 ≤ kcnt V n := by
  induction n with
  | zero => omega
  | succ n ih =>
    have h1 := kcnt_le V n
    show 1 ≤ kcnt V n + (if V n = -1 then 0 else 1)
    by_cases e : i = n
    · rw [← e, if_neg h]; rw [← e] at h1; omega
    · have := ih (by omega)
      split <;> omega
theorem kcnt_full {V : Int → Int} {n : Nat} (h : kcnt V n = n) : ∀ i : Nat, i < n → V i ≠ -1 := by
  induction n with
  | zero => intro i hi; omega
  | succ n ih =>
    have h1 := kcnt_le V n
    have h : kcnt V n + (if V n = -1 then 0 else 1) = ((n + 1 : Nat) : Int) := h
    intro i hi
    by_cases e : V n = -1
    · rw [if_pos e] at h; omega
    · rw [if_neg e] at h
      by_cases q : i = n
      · rw [q]; exact e
      · exact ih (by omega) i (by omega)
def HpS (row : Nat → Int) (V : Int → Int) : Prop := (0 ≤ row 6 ∧ row 6 ≤ 1192) ∧ (∀ x : Int, x < 0 ∨ row 6 ≤ x → V x = -1) ∧ (∀ x : Int, -1 ≤ V x ∧ V x ≤ 255) ∧ row 3 = kcnt V 1192 ∧ (-1 ≤ row 2 ∧ row 2 ≤ 1192) ∧ (0 < row 6 → V (row 6 - 1) ≠ -1) ∧ (row 2 ≠ -1 → row 6 ≤ row 2 ∧ row 3 < row 2)
def DgS (t : Int) (dr : Nat → Int) : Prop := (dr 5 = 0 ↔ dr 6 < 0) ∧ (-1 ≤ dr 6 ∧ dr 6 ≤ t) ∧ (dr 5 = 3 ↔ 0 < dr 7) ∧ (0 ≤ dr 7 ∧ dr 7 ≤ 10)
def HonS (dr row : Nat → Int) (V : Int → Int) : Prop := (row 2 = -1 ∨ row 2 = dr 0) ∧ row 6 ≤ dr 0 ∧ ∀ x : Int, V x = -1 ∨ V x = ownB dr x
/-- datagrams and heaps agree; the heap k is just being filled; hon: no piece is forged -/
def RI (hon : Bool) (t n : Int) (k : Nat) (y : RY) : Prop :=
  (∀ d : Nat, (d : Int) < n → ((1 ≤ y.1 d 0 ∧ y.1 d 0 ≤ 1000) ∧ (0 ≤ y.1 d 5 ∧ y.1 d 5 ≤ 3)) ∧ DgS t (y.1 d) ∧ (y.1 d 5 ≠ 0 → ∀ i : Nat, i < 4 → y.2.1 i 0 ≠ d) ∧ (hon = true → y.1 d 5 ≠ 2 ∧ y.1 d 7 ≤ 2))
  ∧ (∀ i j : Nat, i < 4 → j < 4 → y.2.1 i 0 ≠ -1 → y.2.1 i 0 = y.2.1 j 0 → i = j)
  ∧ (∀ i : Nat, i < 4 → (-1 ≤ y.2.1 i 0 ∧ y.2.1 i 0 < n) ∧ (y.2.1 i 0 ≠ -1 → HpS (y.2.1 i) (y.2.2.1 i) ∧ (i ≠ k → 1 ≤ y.2.1 i 3) ∧ (hon = true → HonS (y.1 (y.2.1 i 0).toNat) (y.2.1 i) (y.2.2.1 i))))
  ∧ (bytD y.1 n.toNat ≤ y.2.2.2 11 ∧ y.2.2.2 11 ≤ 1192 * hndD y.1 n.toNat)
theorem RI.open_ {hon : Bool} {t n : Int} {k : Nat} {y : RY} (h : RI hon t n k y) {i : Nat} (hi : i < 4) {d : Nat} (hd : y.2.1 i 0 = d) : (d : Int) < n ∧ y.1 d 5 = 0 := by
  have h1 := (h.2.2.1 i hi).1
  refine ⟨by omega, ?_⟩
  by_cases q : y.1 d 5 = 0
  · exact q
  · exact absurd hd ((h.1 d (by omega)).2.2.1 q i hi)
theorem RI.close {hon : Bool} {t n : Int} {k : Nat} {y : RY} (h : RI hon t n k y) (ht : 0 ≤ t) {i : Nat} (hi : i < 4) {d : Nat} (hd : y.2.1 i 0 = d) {x c : Int} (hx : x = 1 ∨ x = 2 ∨ x = 3) (hxc : x = 3 ↔ 0 < c) (hc : 0 ≤ c ∧ c ≤ 10) (hh : hon = true → x ≠ 2 ∧ c ≤ 2) {r : Nat → Int} (hr : r 0 = -1) (V : Int → Int) {A' : Nat → Int} (hA1 : y.2.2.2 11 + (if x = 1 then y.1 d 0 else 0) ≤ A' 11) (hA2 : A' 11 ≤ y.2.2.2 11 + (if x = 3 then 0 else 1192)) {k' : Nat} (hk : ∀ j : Nat, j ≠ i → j ≠ k' → j ≠ k) : RI hon t n k' (setR y.1 d (closeR (y.1 d) x t c), setR y.2.1 i r, setR y.2.2.1 i V, A') := by
  obtain ⟨hdn, hd0⟩ := h.open_ hi hd
  obtain ⟨h1, h2, h3, h4, h5⟩ := h
  have hdd := h1 d hdn
  refine ⟨fun e he => ?_, fun a b ha hb hne heq => ?_, fun a ha => ?_, ?_, ?_⟩
  · dsimp only
    by_cases q : e = d
    · subst q
      rw [setR_k]
      unfold DgS
      rw [closeR_5, closeR_6, closeR_7, closeR_j _ _ _ _ (by decide)]
      refine ⟨⟨hdd.1.1, by omega⟩, ⟨⟨fun q => by omega, fun q => by omega⟩, by omega, hxc, hc⟩, fun _ a ha => ?_, hh⟩
      by_cases q : a = i
      · rw [q, setR_k, hr]; omega
      · rw [setR_ne _ _ q]
        intro q2
        exact q (h2 a i ha hi (by omega) (by omega))
    · rw [setR_ne _ _ q]
      obtain ⟨a1, a2, a3, a4⟩ := h1 e he
      refine ⟨a1, a2, fun q2 a ha => ?_, a4⟩
      by_cases q3 : a = i
      · rw [q3, setR_k, hr]; omega
      · rw [setR_ne _ _ q3]; exact a3 q2 a ha
  · dsimp only at hne heq
    by_cases qa : a = i
    · rw [qa, setR_k] at hne; exact absurd hr hne
    · by_cases qb : b = i
      · rw [setR_ne _ _ qa] at hne heq
        rw [qb, setR_k, hr] at heq; exact absurd heq hne
      · rw [setR_ne _ _ qa] at hne heq
        rw [setR_ne _ _ qb] at heq
        exact h2 a b ha hb hne heq
  · dsimp only
    by_cases qa : a = i
    · rw [qa, setR_k, hr]
      exact ⟨by omega, fun q => absurd rfl q⟩
    · rw [setR_ne _ _ qa, setR_ne _ _ qa]
      obtain ⟨a1, a2⟩ := h3 a ha
      refine ⟨a1, fun q => ?_⟩
      obtain ⟨b1, b2, b3⟩ := a2 q
      refine ⟨b1, fun q2 => b2 (hk a qa q2), fun q2 => ?_⟩
      have hne : (y.2.1 a 0).toNat ≠ d := fun q3 => qa (h2 a i ha hi q (by omega))
      rw [setR_ne _ _ hne]; exact b3 q2
  · dsimp only
    rw [bytD_set _ _ (by omega), closeR_5, closeR_j _ _ _ _ (by decide), if_neg (show ¬ y.1 d 5 = 1 by omega)]; omega
  · dsimp only
    unfold hndD at h5 ⊢
    rw [fcnt_set _ _ _ (by omega), fcnt_set _ _ _ (by omega), closeR_5, if_neg (show ¬ y.1 d 5 = 1 by omega), if_neg (show ¬ y.1 d 5 = 2 by omega)]
    rcases hx with q | q | q
    · rw [if_neg (by omega)] at hA2
      rw [if_pos q, if_neg (by omega)]; omega
    · rw [if_neg (by omega)] at hA2
      rw [if_neg (by omega), if_pos q]; omega
    · rw [if_pos q] at hA2
      rw [if_neg (by omega), if_neg (by omega)]; omega
theorem RI.acc {hon : Bool} {t n : Int} {k : Nat} {y : RY} (h : RI hon t n k y) {A' : Nat → Int} (hA : A' 11 = y.2.2.2 11) : RI hon t n k (y.1, y.2.1, y.2.2.1, A') := ⟨h.1, h.2.1, h.2.2.1, by show bytD y.1 n.toNat ≤ A' 11 ∧ A' 11 ≤ 1192 * hndD y.1 n.toNat; rw [hA]; exact h.2.2.2⟩
theorem RI.late {hon : Bool} {t u n : Int} {k : Nat} {y : RY} (h : RI hon t n k y) (hu : t ≤ u) : RI hon u n k y := ⟨fun d hd => by
  obtain ⟨a, ⟨b1, b2, b3, b4⟩, c, e⟩ := h.1 d hd
  exact ⟨a, ⟨b1, by omega, b3, b4⟩, c, e⟩, h.2⟩
/-- columns but the tries stand -/
theorem RI.col {hon : Bool} {t n : Int} {k : Nat} {y : RY} (h : RI hon t n k y) {Dg : Nat → Nat → Int} (hD : ∀ d j : Nat, j ≠ 3 → Dg d j = y.1 d j) : RI hon t n k (Dg, y.2) := by
  refine ⟨fun d hd => ?_, h.2.1, fun i hi => ?_, ?_⟩
  · dsimp only
    unfold DgS
    rw [hD d 0 (by decide), hD d 5 (by decide), hD d 6 (by decide), hD d 7 (by decide)]
    exact h.1 d hd
  · refine ⟨(h.2.2.1 i hi).1, fun q => ?_⟩
    obtain ⟨a, b, c⟩ := (h.2.2.1 i hi).2 q
    refine ⟨a, b, fun q2 => ?_⟩
    dsimp only
    unfold HonS ownB
    rw [hD _ 0 (by decide), hD _ 1 (by decide)]
    exact c q2
  · dsimp only
    unfold hndD
    rw [bytD_eq (D := y.1) (E := Dg) (fun d _ => ⟨hD d 5 (by decide), hD d 0 (by decide)⟩), fcnt_eq (D := y.1) (E := Dg) (fun d _ => hD d 5 (by decide)), fcnt_eq (D := y.1) (E := Dg) (fun d _ => hD d 5 (by decide))]
    exact h.2.2.2
theorem RI.beg {hon : Bool} {t n : Int} {y : RY} (h : RI hon t n 4 y) {d : Nat} (hd : (d : Int) < n) (hno : ∀ i : Nat, i < 4 → y.2.1 i 0 ≠ d) (h0 : y.1 d 5 = 0) {j : Nat} (hj : j < 4) (hf : y.2.1 j 0 = -1) : RI hon t n j (y.1, setR y.2.1 j (begR d t), setR y.2.2.1 j (fun _ => -1), y.2.2.2) := by
  obtain ⟨h1, h2, h3, h4⟩ := h
  refine ⟨fun e he => ?_, fun a b ha hb hne heq => ?_, fun a ha => ?_, h4⟩
  · obtain ⟨a1, a2, a3, a4⟩ := h1 e he
    refine ⟨a1, a2, fun q a ha => ?_, a4⟩
    dsimp only
    by_cases q2 : a = j
    · rw [q2, setR_k]
      show (d : Int) ≠ e
      intro q3
      have : d = e := by omega
      rw [this] at h0
      exact q h0
    · rw [setR_ne _ _ q2]; exact a3 q a ha
  · dsimp only at hne heq
    by_cases qa : a = j
    · by_cases qb : b = j
      · rw [qa, qb]
      · rw [qa, setR_k, setR_ne _ _ qb] at heq
        exact absurd heq.symm (hno b hb)
    · by_cases qb : b = j
      · rw [setR_ne _ _ qa, qb, setR_k] at heq
        exact absurd heq (hno a ha)
      · rw [setR_ne _ _ qa] at hne heq
        rw [setR_ne _ _ qb] at heq
        exact h2 a b ha hb hne heq
  · dsimp only
    by_cases qa : a = j
    · rw [qa, setR_k, setR_k]
      refine ⟨⟨by show -1 ≤ (d : Int); omega, hd⟩, fun _ => ⟨⟨⟨(by decide : (0 : Int) ≤ 0), (by decide : (0 : Int) ≤ 1192)⟩, fun _ _ => rfl, fun _ => ⟨(by decide : (-1 : Int) ≤ -1), (by decide : (-1 : Int) ≤ 255)⟩, (kcnt_no 1192).symm, ⟨(by decide : (-1 : Int) ≤ -1), (by decide : (-1 : Int) ≤ 1192)⟩, fun q => absurd q (by decide : ¬ (0 : Int) < 0), fun q => absurd rfl q⟩, fun q => absurd rfl q, fun _ => ⟨Or.inl rfl, ?_, fun _ => Or.inl rfl⟩⟩⟩
      show (0 : Int) ≤ y.1 ((d : Int)).toNat 0
      rw [Int.toNat_natCast]
      have := (h1 d hd).1.1; omega
    · rw [setR_ne _ _ qa, setR_ne _ _ qa]
      obtain ⟨a1, a2⟩ := h3 a ha
      refine ⟨a1, fun q => ?_⟩
      obtain ⟨b1, b2, b3⟩ := a2 q
      exact ⟨b1, fun _ => b2 (by omega), b3⟩
