/-! a tick -/
def t0F (z : St) : St := (upz z.1 0 (z.1 0 + 1), z.2)
def moveA : Nat → St → St
  | 0, z => z
  | n + 1, z => moveF 300 n (moveA n z)
def hxF (z : St) : HX := hearL (z.1 0) z.2.2.2.2.2.2.1 (z.1, z.2.1, z.2.2.1, z.2.2.2.2.2.1, z.2.2.2.2.2.2.2)
def hearF (z : St) : St := ((hxF z).1, (hxF z).2.1, (hxF z).2.2.1, z.2.2.2.1, z.2.2.2.2.1, (hxF z).2.2.2.1, keptL (z.1 0) z.2.2.2.2.2.2.1, (hxF z).2.2.2.2)
def ageF : Nat → St → St
  | 0, z => z
  | n + 1, z => if (ageF n z).2.2.2.1 n 0 ≠ -1 ∧ (ageF n z).1 1 ≤ (ageF n z).1 0 - (ageF n z).2.2.2.1 n 1 then
      ((ageF n z).1, (ageF n z).2.1, setR (ageF n z).2.2.1 ((ageF n z).2.2.2.1 n 0).toNat (closeR ((ageF n z).2.2.1 ((ageF n z).2.2.2.1 n 0).toNat) 3 ((ageF n z).1 0) 1), setR (ageF n z).2.2.2.1 n (upz ((ageF n z).2.2.2.1 n) 0 (-1)), (ageF n z).2.2.2.2)
    else ageF n z
def tickF (z : St) : St := ageF 4 (hearF (moveA (z.1 6).toNat (t0F z)))
theorem t0F_ok {z : St} (h : StOk z) : StOk (t0F z) := by
  obtain ⟨h1, h2, h3, h4, h5, h6⟩ := h
  obtain ⟨w0, w1, w2, w3, w4, w5, w6, w7⟩ := h1
  have hg : ∀ j : Nat, j ≠ 0 → upz z.1 0 (z.1 0 + 1) j = z.1 j := fun j hj => upz_ne _ _ hj
  have h0 : upz z.1 0 (z.1 0 + 1) 0 = z.1 0 + 1 := upz_k _ _ _
  refine ⟨?_, h2.g (hg 6 (by decide)), h3.g (hg 7 (by decide)), fun i hi => ?_, h5.mono (fun x hx => ?_), fun x hx => ?_⟩
  · show GOk (upz z.1 0 (z.1 0 + 1))
    unfold GOk
    rw [h0, hg 1 (by decide), hg 2 (by decide), hg 3 (by decide), hg 4 (by decide), hg 5 (by decide), hg 6 (by decide), hg 7 (by decide)]
    exact ⟨by omega, w1, w2, w3, w4, w5, w6, w7⟩
  · have := h4 i hi
    show (-1 ≤ z.2.2.2.1 i 0 ∧ z.2.2.2.1 i 0 < upz z.1 0 (z.1 0 + 1) 7) ∧ 0 ≤ z.2.2.2.1 i 1 ∧ z.2.2.2.1 i 1 ≤ upz z.1 0 (z.1 0 + 1) 0
    rw [h0, hg 7 (by decide)]; omega
  · obtain ⟨a, b⟩ := hx
    unfold PkIn
    show (0 ≤ x.1 ∧ x.1 ≤ upz z.1 0 (z.1 0 + 1) 0 + 50) ∧ (_ ∨ (0 ≤ x.2.1 ∧ x.2.1 < upz z.1 0 (z.1 0 + 1) 7 ∧ _))
    rw [h0, hg 7 (by decide)]
    exact ⟨by omega, b⟩
  · obtain ⟨a, b⟩ := h6 x hx
    unfold NtI
    show (0 ≤ x.1 ∧ x.1 ≤ upz z.1 0 (z.1 0 + 1) 0 + 300) ∧ (_ ∨ (_ ∧ (_ ∨ (0 ≤ x.2.2 ∧ x.2.2 < upz z.1 0 (z.1 0 + 1) 7))))
    rw [h0, hg 7 (by decide)]
    exact ⟨by omega, b⟩
theorem moveA_ok {n : Nat} {z : St} (h : StOk z) (hn : (n : Int) ≤ z.1 6) : StOk (moveA n z) ∧ (moveA n z).1 = z.1 := by
  induction n with
  | zero => exact ⟨h, rfl⟩
  | succ n ih =>
    obtain ⟨a, b⟩ := ih (by omega)
    obtain ⟨c, d⟩ := moveF_ok (n := 300) (k := n) a (by rw [b]; omega)
    exact ⟨c, d.trans b⟩
theorem StOk.hx {z : St} (h : StOk z) : HOk (z.1, z.2.1, z.2.2.1, z.2.2.2.2.2.1, z.2.2.2.2.2.2.2) := ⟨h.1, h.2.1, h.2.2.1, h.2.2.2.2.1⟩
theorem hearF_ok {z : St} (h : StOk z) : StOk (hearF z) ∧ GSame z.1 (hearF z).1 := by
  obtain ⟨a, b⟩ := hearL_ok (t := z.1 0) h.hx h.2.2.2.2.2
  obtain ⟨c1, c2, c3, c4⟩ := a
  have hb : GSame z.1 (hxF z).1 := b
  refine ⟨⟨c1, c2, c3, fun i hi => ?_, c4, fun x hx => ?_⟩, hb⟩
  · have := h.2.2.2.1 i hi
    show (-1 ≤ z.2.2.2.1 i 0 ∧ z.2.2.2.1 i 0 < (hxF z).1 7) ∧ 0 ≤ z.2.2.2.1 i 1 ∧ z.2.2.2.1 i 1 ≤ (hxF z).1 0
    rw [hb 0 (by decide) (by decide) (by decide), hb 7 (by decide) (by decide) (by decide)]; exact this
  · exact hb.nt (h.2.2.2.2.2 x (List.mem_filter.mp hx).1)
theorem soonL_all {L : List Nte} {t : Int} (h : t < soonL L) : ∀ x ∈ L, t < x.1 := by
  induction L with
  | nil => intro x hx; simp at hx
  | cons y l ih =>
    have h : t < min y.1 (soonL l) := h
    intro x hx
    rcases List.mem_cons.mp hx with e | e
    · rw [e]; omega
    · exact ih (by omega) x e
theorem hearL_none {L : List Nte} {t : Int} {q : HX} (h : ∀ x ∈ L, t < x.1) : hearL t L q = q := by
  induction L with
  | nil => rfl
  | cons y l ih =>
    show hearL t l (if y.1 ≤ t then hearN y q else q) = q
    have := h y List.mem_cons_self
    rw [if_neg (by omega)]
    exact ih (fun x hx => h x (List.mem_cons_of_mem _ hx))
theorem keptL_all {L : List Nte} {t : Int} (h : ∀ x ∈ L, t < x.1) : keptL t L = L := List.filter_eq_self.mpr (fun x hx => by simpa using h x hx)
theorem hearF_none {z : St} (h : z.1 0 < soonL z.2.2.2.2.2.2.1) : hearF z = z := by
  have ha := soonL_all h
  have h1 : hxF z = (z.1, z.2.1, z.2.2.1, z.2.2.2.2.2.1, z.2.2.2.2.2.2.2) := hearL_none ha
  unfold hearF
  rw [h1, keptL_all ha]
theorem ageF_ok {n : Nat} {z : St} (h : StOk z) (hn : n ≤ 4) : StOk (ageF n z) ∧ (ageF n z).1 = z.1 := by
  induction n with
  | zero => exact ⟨h, rfl⟩
  | succ n ih =>
    obtain ⟨a, b⟩ := ih (by omega)
    obtain ⟨y, hy⟩ : ∃ y : St, ageF n z = y := ⟨_, rfl⟩
    unfold ageF
    rw [hy] at a b ⊢
    split
    · obtain ⟨h1, h2, h3, h4, h5, h6⟩ := a
      have hs := DgSame.close y.2.2.1 (y.2.2.2.1 n 0).toNat (x := 3) (y.1 0) 1 (by decide)
      have hx := h4 n (by omega)
      exact ⟨⟨h1, h2, h3.same hs, h4.set n ⟨by rw [upz_k]; omega, by rw [upz_ne _ _ (by decide)]; exact hx.2⟩, h5.mono (fun x => PkIn.same hs), h6⟩, b⟩
    · exact ⟨a, b⟩
theorem tickF_ok {z : St} (h : StOk z) : StOk (tickF z) ∧ (tickF z).1 0 = z.1 0 + 1 := by
  have h1 := t0F_ok h
  have h6 := h.1.2.2.2.2.2.2.1
  have h2 := moveA_ok (n := (z.1 6).toNat) h1 (by show _ ≤ upz z.1 0 (z.1 0 + 1) 6; rw [upz_ne _ _ (by decide)]; omega)
  have h3 := hearF_ok h2.1
  have h4 := ageF_ok (n := 4) h3.1 (Nat.le_refl _)
  refine ⟨h4.1, ?_⟩
  show (ageF 4 (hearF (moveA (z.1 6).toNat (t0F z)))).1 0 = _
  rw [h4.2, h3.2 0 (by decide) (by decide) (by decide), h2.2]
  exact upz_k z.1 0 (z.1 0 + 1)
