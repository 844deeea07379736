/-! what every piece of a tick keeps, a tick keeps -/
def notZ (z : St) (L : List Nte) : St := (z.1, z.2.1, z.2.2.1, z.2.2.2.1, z.2.2.2.2.1, z.2.2.2.2.2.1, L, z.2.2.2.2.2.2.2)
def age1 (n : Nat) (z : St) : St := (z.1, z.2.1, setR z.2.2.1 (z.2.2.2.1 n 0).toNat (closeR (z.2.2.1 (z.2.2.2.1 n 0).toNat) 3 (z.1 0) 1), setR z.2.2.2.1 n (upz (z.2.2.2.1 n) 0 (-1)), z.2.2.2.2)
theorem ofHx_ok2 {z : St} {q : HX} (h : StOk z) (hq : HOk q) (hg : GSame z.1 q.1) : StOk (ofHx z q) := by
  obtain ⟨c1, c2, c3, c4⟩ := hq
  refine ⟨c1, c2, c3, fun i hi => ?_, c4, fun x hx => ?_⟩
  · have h1 := h.2.2.2.1 i hi
    show (-1 ≤ z.2.2.2.1 i 0 ∧ z.2.2.2.1 i 0 < q.1 7) ∧ 0 ≤ z.2.2.2.1 i 1 ∧ z.2.2.2.1 i 1 ≤ q.1 0
    rw [hg 0 (by decide) (by decide) (by decide), hg 7 (by decide) (by decide) (by decide)]; exact h1
  · exact hg.nt (h.2.2.2.2.2 x hx)
theorem dueB_ne {l : List Pkt} {t : Int} (h : dueB l t = 1) : l ≠ [] := fun e => by
  unfold dueB at h
  rw [if_pos e] at h
  exact absurd h (by decide)
def TkI (I : St → Prop) : Prop :=
  (∀ z : St, StOk z → I z → I (t0F z))
  ∧ (∀ (z : St) (k : Nat), StOk z → (k : Int) < z.1 6 → dueB (z.2.2.2.2.2.1 k) (z.1 0) = 1 → I z → I (stepM k z))
  ∧ (∀ (z : St) (b : Int), StOk z → (28 ≤ b ∧ b ≤ 1500) → I z → I (ofHx z (ansF b (hxOf z))))
  ∧ (∀ (z : St) (x : Nte), StOk z → NtI z.1 x → (28 ≤ x.2.1 ∧ x.2.1 ≤ 1500) → -1500 ≤ x.2.2 → I z → I (ofHx z (noteF1 x (hxOf z))))
  ∧ (∀ (z : St) (d : Nat), StOk z → (d : Int) < z.1 7 → z.2.2.1 d 5 = 0 → iI (z.2.2.1 d 3) < iI 3 → I z → I (ofHx z (agF d (hxOf z))))
  ∧ (∀ (z : St) (L : List Nte), StOk z → (∀ x ∈ L, x ∈ z.2.2.2.2.2.2.1) → I z → I (notZ z L))
  ∧ (∀ (z : St) (n : Nat), StOk z → n < 4 → z.2.2.2.1 n 0 ≠ -1 → I z → I (age1 n z))
def HrI (I : St → Prop) : Prop :=
  (∀ (z : St) (b : Int), StOk z → (28 ≤ b ∧ b ≤ 1500) → I z → I (ofHx z (ansF b (hxOf z))))
  ∧ (∀ (z : St) (x : Nte), StOk z → NtI z.1 x → (28 ≤ x.2.1 ∧ x.2.1 ≤ 1500) → -1500 ≤ x.2.2 → I z → I (ofHx z (noteF1 x (hxOf z))))
  ∧ (∀ (z : St) (d : Nat), StOk z → (d : Int) < z.1 7 → z.2.2.1 d 5 = 0 → iI (z.2.2.1 d 3) < iI 3 → I z → I (ofHx z (agF d (hxOf z))))
  ∧ (∀ (z : St) (L : List Nte), StOk z → (∀ x ∈ L, x ∈ z.2.2.2.2.2.2.1) → I z → I (notZ z L))
theorem TkI.hI {I : St → Prop} (h : TkI I) : HrI I := ⟨h.2.2.1, h.2.2.2.1, h.2.2.2.2.1, h.2.2.2.2.2.1⟩
theorem TkI.mv {I : St → Prop} (hI : TkI I) {n k : Nat} {z : St} (h : StOk z) (hk : (k : Int) < z.1 6) (hz : I z) : I (moveF n k z) := by
  induction n generalizing z with
  | zero => exact hz
  | succ n ih =>
    show I (if dueB (z.2.2.2.2.2.1 k) (z.1 0) = 1 then moveF n k (stepM k z) else z)
    by_cases e : dueB (z.2.2.2.2.2.1 k) (z.1 0) = 1
    · rw [if_pos e]
      exact ih (stepM_ok h hk (dueB_ne e)) (by rw [stepM_g]; exact hk) (hI.2.1 z k h hk e hz)
    · rw [if_neg e]; exact hz
theorem TkI.mvA {I : St → Prop} (hI : TkI I) {n : Nat} {z : St} (h : StOk z) (hn : (n : Int) ≤ z.1 6) (hz : I z) : I (moveA n z) := by
  induction n with
  | zero => exact hz
  | succ n ih =>
    obtain ⟨a, b⟩ := moveA_ok (n := n) h (by omega)
    exact hI.mv a (by rw [b]; omega) (ih (by omega))
theorem HrI.hrN {I : St → Prop} (hI : HrI I) {z : St} {x : Nte} (h : StOk z) (hx : NtI z.1 x) (hz : I z) : StOk (ofHx z (hearN x (hxOf z))) ∧ I (ofHx z (hearN x (hxOf z))) := by
  have hN := hearN_ok h.hx hx
  refine ⟨ofHx_ok2 h hN.1 hN.2, ?_⟩
  have hx2 := hx.2
  unfold hearN
  by_cases e : x.2.1 = -1
  · rw [if_pos e]
    refine hI.1 z x.2.2 h ?_ hz
    rcases hx2 with q | ⟨q, -⟩ <;> omega
  · rw [if_neg e]
    have hb : (28 ≤ x.2.1 ∧ x.2.1 ≤ 1500) ∧ -1500 ≤ x.2.2 ∧ x.2.2 < z.1 7 ∨ x.2.1 = -1 := by
      have h7 := h.1.2.2.2.2.2.2.2
      rcases hx2 with q | ⟨q, q2⟩
      · exact Or.inr q.1
      · exact Or.inl ⟨q, by omega, by omega⟩
    obtain ⟨hb1, hb2, hb3⟩ := hb.resolve_right e
    have h1 := hI.2.1 z x h hx hb1 hb2 hz
    by_cases e2 : 0 ≤ x.2.2 ∧ noteS x.2.1 x.2.2 ((hxOf z).2.2.1 x.2.2.toNat 3) ((hxOf z).2.2.1 x.2.2.toNat 5) (hxOf z).1 = 1
    · rw [if_pos e2]
      obtain ⟨a, b⟩ := noteF1_ok (x := x) h.hx hb1 hb2
      have b : ∀ j : Nat, j ≠ 3 → j ≠ 5 → (noteF1 x (hxOf z)).1 j = z.1 j := b
      have h2 : StOk (ofHx z (noteF1 x (hxOf z))) := ofHx_ok2 h a (fun j j3 _ j5 => b j j3 j5)
      have e3 := e2.2
      unfold noteS at e3
      by_cases e4 : x.2.1 < (hxOf z).1 3 ∧ iI ((hxOf z).2.2.1 x.2.2.toNat 3) < iI 3 ∧ (hxOf z).2.2.1 x.2.2.toNat 5 = 0
      · exact hI.2.2.1 (ofHx z (noteF1 x (hxOf z))) x.2.2.toNat h2 (by
          show ((x.2.2.toNat : Nat) : Int) < (noteF1 x (hxOf z)).1 7
          rw [b 7 (by decide) (by decide)]; show ((x.2.2.toNat : Nat) : Int) < z.1 7; omega) e4.2.2 e4.2.1 h1
      · rw [if_neg e4] at e3; exact absurd e3 (by decide)
    · rw [if_neg e2]; exact h1
theorem HrI.hrL {I : St → Prop} (hI : HrI I) {t : Int} {l : List Nte} {z : St} (h : StOk z) (hl : ∀ x ∈ l, NtI z.1 x) (hz : I z) : I (ofHx z (hearL t l (hxOf z))) := by
  induction l generalizing z with
  | nil => exact hz
  | cons x l ih =>
    show I (ofHx z (hearL t l (if x.1 ≤ t then hearN x (hxOf z) else hxOf z)))
    by_cases e : x.1 ≤ t
    · rw [if_pos e]
      obtain ⟨a, b⟩ := hI.hrN h (hl x List.mem_cons_self) hz
      have hg := (hearN_ok h.hx (hl x List.mem_cons_self)).2
      exact ih (z := ofHx z (hearN x (hxOf z))) a (fun y hy => hg.nt (hl y (List.mem_cons_of_mem _ hy))) b
    · rw [if_neg e]; exact ih h (fun y hy => hl y (List.mem_cons_of_mem _ hy)) hz
theorem HrI.hr {I : St → Prop} (hI : HrI I) {z : St} (h : StOk z) (hz : I z) : I (hearF z) := by
  have h1 := hI.hrL (t := z.1 0) h h.2.2.2.2.2 hz
  have h2 := hearL_ok (t := z.1 0) h.hx h.2.2.2.2.2
  exact hI.2.2.2 (ofHx z (hearL (z.1 0) z.2.2.2.2.2.2.1 (hxOf z))) (keptL (z.1 0) z.2.2.2.2.2.2.1) (ofHx_ok2 h h2.1 h2.2) (fun x hx => (List.mem_filter.mp hx).1) h1
theorem TkI.ag {I : St → Prop} (hI : TkI I) {n : Nat} {z : St} (h : StOk z) (hn : n ≤ 4) (hz : I z) : I (ageF n z) := by
  induction n with
  | zero => exact hz
  | succ n ih =>
    have h1 := ih (by omega)
    have h2 := ageF_ok (n := n) h (by omega)
    unfold ageF
    by_cases e : (ageF n z).2.2.2.1 n 0 ≠ -1 ∧ (ageF n z).1 1 ≤ (ageF n z).1 0 - (ageF n z).2.2.2.1 n 1
    · rw [if_pos e]; exact hI.2.2.2.2.2.2 (ageF n z) n h2.1 (by omega) e.1 h1
    · rw [if_neg e]; exact h1
theorem TkI.tick {I : St → Prop} (hI : TkI I) {z : St} (h : StOk z) (hz : I z) : I (tickF z) := by
  have h1 := t0F_ok h
  have h6 := h.1.2.2.2.2.2.2.1
  have hn : (((z.1 6).toNat : Nat) : Int) ≤ (t0F z).1 6 := by show _ ≤ upz z.1 0 (z.1 0 + 1) 6; rw [upz_ne _ _ (by decide)]; omega
  have h2 := moveA_ok (n := (z.1 6).toNat) h1 hn
  have h3 := hearF_ok h2.1
  exact hI.ag h3.1 (Nat.le_refl 4) (hI.hI.hr h2.1 (hI.mvA h1 hn (hI.1 z h hz)))
def TkJ (I : St → Prop) : Prop :=
  (∀ (z : St) (k : Nat), StOk z → (k : Int) < z.1 6 → dueB (z.2.2.2.2.2.1 k) (z.1 0) = 1 → I z → I (stepM k z))
  ∧ HrI I
  ∧ (∀ (z : St) (n : Nat), StOk z → n < 4 → z.2.2.2.1 n 0 ≠ -1 → I z → I (age1 n z))
theorem TkJ.mvA {I : St → Prop} (hI : TkJ I) {n : Nat} {z : St} (h : StOk z) (hn : (n : Int) ≤ z.1 6) (hz : I z) : I (moveA n z) := by
  have mv : ∀ (m k : Nat) (y : St), StOk y → (k : Int) < y.1 6 → I y → I (moveF m k y) := by
    intro m
    induction m with
    | zero => intro k y _ _ hy; exact hy
    | succ m ih =>
      intro k y hy hk hiy
      show I (if dueB (y.2.2.2.2.2.1 k) (y.1 0) = 1 then moveF m k (stepM k y) else y)
      by_cases e : dueB (y.2.2.2.2.2.1 k) (y.1 0) = 1
      · rw [if_pos e]
        exact ih k _ (stepM_ok hy hk (dueB_ne e)) (by rw [stepM_g]; exact hk) (hI.1 y k hy hk e hiy)
      · rw [if_neg e]; exact hiy
  induction n with
  | zero => exact hz
  | succ n ih =>
    obtain ⟨a, b⟩ := moveA_ok (n := n) h (by omega)
    exact mv 300 n _ a (by rw [b]; omega) (ih (by omega))
theorem TkJ.ag {I : St → Prop} (hI : TkJ I) {n : Nat} {z : St} (h : StOk z) (hn : n ≤ 4) (hz : I z) : I (ageF n z) := by
  induction n with
  | zero => exact hz
  | succ n ih =>
    have h1 := ih (by omega)
    have h2 := ageF_ok (n := n) h (by omega)
    unfold ageF
    by_cases e : (ageF n z).2.2.2.1 n 0 ≠ -1 ∧ (ageF n z).1 1 ≤ (ageF n z).1 0 - (ageF n z).2.2.2.1 n 1
    · rw [if_pos e]; exact hI.2.2 (ageF n z) n h2.1 (by omega) e.1 h1
    · rw [if_neg e]; exact h1
theorem TkJ.tick {I : St → Prop} (hI : TkJ I) {z : St} (h : StOk z) (hz : I (t0F z)) : I (tickF z) := by
  have h1 := t0F_ok h
  have h6 := h.1.2.2.2.2.2.2.1
  have hn : (((z.1 6).toNat : Nat) : Int) ≤ (t0F z).1 6 := by show _ ≤ upz z.1 0 (z.1 0 + 1) 6; rw [upz_ne _ _ (by decide)]; omega
  have h2 := moveA_ok (n := (z.1 6).toNat) h1 hn
  have h3 := hearF_ok h2.1
  exact hI.ag h3.1 (Nat.le_refl 4) (hI.2.1.hr h2.1 (hI.mvA h1 hn hz))
theorem TkI.tj {I : St → Prop} (h : TkI I) : TkJ I := ⟨h.2.1, h.hI, h.2.2.2.2.2.2⟩
theorem TkI.ticks {I : St → Prop} (hI : TkI I) (n : Nat) {z : St} (h : StOk z) (hz : I z) : I (tickN n z) := by
  induction n generalizing z with
  | zero => exact hz
  | succ n ih => exact ih (tickF_ok h).1 (hI.tick h hz)
