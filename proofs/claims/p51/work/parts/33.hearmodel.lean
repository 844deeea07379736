abbrev HX := (Nat → Int) × (Nat → Nat → Int) × (Nat → Nat → Int) × (Nat → List Pkt) × (Nat → Int)
def noteF1 (x : Nte) (q : HX) : HX := (noteG x.2.1 x.2.2 q.1, q.2.1, q.2.2.1, q.2.2.2.1, upz q.2.2.2.2 8 (q.2.2.2.2 8 + 1))
def agF (d : Nat) (q : HX) : HX := ((transF 5 d (q.2.2.1 d, q.1, q.2.1 0, q.2.2.2.1, q.2.2.2.2)).2.1, setR q.2.1 0 (transF 5 d (q.2.2.1 d, q.1, q.2.1 0, q.2.2.2.1, q.2.2.2.2)).2.2.1, setR q.2.2.1 d (transF 5 d (q.2.2.1 d, q.1, q.2.1 0, q.2.2.2.1, q.2.2.2.2)).1, (transF 5 d (q.2.2.1 d, q.1, q.2.1 0, q.2.2.2.1, q.2.2.2.2)).2.2.2.1, (transF 5 d (q.2.2.1 d, q.1, q.2.1 0, q.2.2.2.1, q.2.2.2.2)).2.2.2.2)
def ansF (b : Int) (q : HX) : HX := (upz q.1 4 (max (q.1 4) b), q.2.1, q.2.2.1, q.2.2.2.1, upz q.2.2.2.2 9 (q.2.2.2.2 9 + 1))
def hearN (x : Nte) (q : HX) : HX :=
  if x.2.1 = -1 then ansF x.2.2 q
  else if 0 ≤ x.2.2 ∧ noteS x.2.1 x.2.2 (q.2.2.1 x.2.2.toNat 3) (q.2.2.1 x.2.2.toNat 5) q.1 = 1 then agF x.2.2.toNat (noteF1 x q) else noteF1 x q
def hearL (t : Int) : List Nte → HX → HX
  | [], q => q
  | x :: l, q => hearL t l (if x.1 ≤ t then hearN x q else q)
def keptL (t : Int) (L : List Nte) : List Nte := L.filter (fun x => decide (t < x.1))
theorem hearL_app (t : Int) (l : List Nte) (x : Nte) (q : HX) : hearL t (l ++ [x]) q = if x.1 ≤ t then hearN x (hearL t l q) else hearL t l q := by
  induction l generalizing q with
  | nil => rfl
  | cons y l ih => exact ih _
theorem keptL_app (t : Int) (l : List Nte) (x : Nte) : keptL t (l ++ [x]) = if x.1 ≤ t then keptL t l else keptL t l ++ [x] := by
  unfold keptL
  rw [List.filter_append]
  by_cases h : x.1 ≤ t
  · rw [if_pos h]
    have : List.filter (fun x => decide (t < x.1)) [x] = [] := by
      rw [List.filter_cons_of_neg (by simp; omega)]; rfl
    rw [this, List.append_nil]
  · rw [if_neg h]
    have : List.filter (fun x => decide (t < x.1)) [x] = [x] := by
      rw [List.filter_cons_of_pos (by simp; omega)]; rfl
    rw [this]
theorem keptL_le (t : Int) (L : List Nte) : (keptL t L).length ≤ L.length := List.length_filter_le _ _
def HOk (q : HX) : Prop := GOk q.1 ∧ LkOk q.1 q.2.1 ∧ DgOk q.1 q.2.2.1 ∧ AllP (PkIn q.1 q.2.2.1) q.2.2.2.1
theorem PkIn.gd {g h : Nat → Int} {Dg Eg : Nat → Nat → Int} (h0 : h 0 = g 0) (h7 : h 7 = g 7) (hD : ∀ e : Nat, Eg e 0 = Dg e 0) {x : Pkt} (q : PkIn g Dg x) : PkIn h Eg x := by
  unfold PkIn at q ⊢
  rw [h0, h7, hD]; exact q
theorem LkOk.g {g h : Nat → Int} {Lk : Nat → Nat → Int} (q : LkOk g Lk) (h6 : h 6 = g 6) : LkOk h Lk := fun k hk => q k (by rw [← h6]; exact hk)
theorem DgOk.g {g h : Nat → Int} {Dg : Nat → Nat → Int} (q : DgOk g Dg) (h7 : h 7 = g 7) : DgOk h Dg := fun d hd => q d (by rw [← h7]; exact hd)
theorem HOk.tok {q : HX} (h : HOk q) {d : Nat} (hd : (d : Int) < q.1 7) : TOk d (q.2.2.1 d, q.1, q.2.1 0, q.2.2.2.1, q.2.2.2.2) := by
  obtain ⟨h1, h2, h3, h4⟩ := h
  obtain ⟨w0, w1, w2, w3, w4, w5, w6, w7⟩ := h1
  obtain ⟨a1, a2, a3, a4⟩ := h3 d hd
  have hl := h2 0 (by show (0 : Int) < q.1 6; omega)
  exact ⟨a3, a1, a4, w3, w6, ⟨hd, w7.2⟩, hl.1, hl.2.2⟩
theorem agF_ok {q : HX} (h : HOk q) {d : Nat} (hd : (d : Int) < q.1 7) : HOk (agF d q) ∧ (∀ j : Nat, j ≠ 3 → j ≠ 5 → (agF d q).1 j = q.1 j) ∧ (∀ e j : Nat, j ≠ 3 → (agF d q).2.2.1 e j = q.2.2.1 e j) := by
  have hT := h.tok hd
  obtain ⟨h1, h2, h3, h4⟩ := h
  have hw := h1
  obtain ⟨w0, w1, w2, w3, w4, w5, w6, w7⟩ := hw
  have hl := h2 0 (by show (0 : Int) < q.1 6; omega)
  have hA : TA q.1 q.2.2.1 d (transF 5 d (q.2.2.1 d, q.1, q.2.1 0, q.2.2.2.1, q.2.2.2.2)) := TA.trans ⟨h4, rfl, rfl, hl.2.1⟩ hT w0 hd
  have hO := hT.trans (n := 5)
  have hG := TG.ofTrans 5 d (q.2.2.1 d, q.1, q.2.1 0, q.2.2.2.1, q.2.2.2.2)
  have hR : ∀ j : Nat, j ≠ 3 → (transF 5 d (q.2.2.1 d, q.1, q.2.1 0, q.2.2.2.1, q.2.2.2.2)).1 j = q.2.2.1 d j := fun j hj => transF_row hj 5 d _
  have hD : ∀ e j : Nat, j ≠ 3 → (agF d q).2.2.1 e j = q.2.2.1 e j := by
    intro e j hj
    show setR q.2.2.1 d (transF 5 d (q.2.2.1 d, q.1, q.2.1 0, q.2.2.2.1, q.2.2.2.2)).1 e j = q.2.2.1 e j
    by_cases e1 : e = d
    · subst e1; rw [setR_k]; exact hR j hj
    · rw [setR_ne _ _ e1]
  have hg : ∀ j : Nat, j ≠ 3 → j ≠ 5 → (agF d q).1 j = q.1 j := hG.1
  have h5 := hG.2.2 ⟨w5.2, w5.1⟩
  have h33 : 28 ≤ (agF d q).1 3 ∧ (agF d q).1 3 ≤ 1500 := hO.2.2.2.1
  refine ⟨⟨?_, ?_, ?_, ?_⟩, hg, hD⟩
  · unfold GOk
    rw [hg 0 (by decide) (by decide), hg 1 (by decide) (by decide), hg 2 (by decide) (by decide), hg 4 (by decide) (by decide), hg 6 (by decide) (by decide), hg 7 (by decide) (by decide)]
    exact ⟨w0, w1, w2, h33, w4, ⟨h5.2, h5.1⟩, w6, w7⟩
  · exact LkOk.g (h2.set (k := 0) (r := (transF 5 d (q.2.2.1 d, q.1, q.2.1 0, q.2.2.2.1, q.2.2.2.2)).2.2.1) hG.2.1) (hg 6 (by decide) (by decide))
  · intro e he
    rw [hg 7 (by decide) (by decide)] at he
    rw [hD e 0 (by decide), hD e 1 (by decide), hD e 2 (by decide), hD e 5 (by decide)]
    exact h3 e he
  · exact hA.1.mono (fun x hx => PkIn.gd (hg 0 (by decide) (by decide)) (hg 7 (by decide) (by decide)) (fun e => hD e 0 (by decide)) hx)
theorem noteG_5 (z ab : Int) (g : Nat → Int) (h1 : -1 ≤ g 5 ∧ g 5 ≤ 1500) (h2 : -1500 ≤ ab) : -1 ≤ noteG z ab g 5 ∧ noteG z ab g 5 ≤ 1500 := by
  obtain ⟨r, hr⟩ : ∃ r : Nat → Int, r = (if z < g 3 then upz g 3 z else g) := ⟨_, rfl⟩
  have h5 : r 5 = g 5 := by
    rw [hr]
    split
    · exact upz_ne _ _ (by decide)
    · rfl
  unfold noteG
  rw [← hr]
  split
  · split
    · rw [upz_k]; omega
    · omega
  · omega
theorem noteF1_ok {q : HX} {x : Nte} (h : HOk q) (hx : 28 ≤ x.2.1 ∧ x.2.1 ≤ 1500) (h2 : -1500 ≤ x.2.2) : HOk (noteF1 x q) ∧ ∀ j : Nat, j ≠ 3 → j ≠ 5 → (noteF1 x q).1 j = q.1 j := by
  obtain ⟨h1, h3, h4, h5⟩ := h
  obtain ⟨w0, w1, w2, w3, w4, w5, w6, w7⟩ := h1
  have hg : ∀ j : Nat, j ≠ 3 → j ≠ 5 → noteG x.2.1 x.2.2 q.1 j = q.1 j := fun j a b => noteG_j _ _ _ a b
  refine ⟨⟨?_, h3.g (hg 6 (by decide) (by decide)), h4.g (hg 7 (by decide) (by decide)), h5.mono (fun y hy => PkIn.gd (hg 0 (by decide) (by decide)) (hg 7 (by decide) (by decide)) (fun _ => rfl) hy)⟩, hg⟩
  show GOk (noteG x.2.1 x.2.2 q.1)
  unfold GOk
  rw [hg 0 (by decide) (by decide), hg 1 (by decide) (by decide), hg 2 (by decide) (by decide), hg 4 (by decide) (by decide), hg 6 (by decide) (by decide), hg 7 (by decide) (by decide), noteG_3]
  exact ⟨w0, w1, w2, by omega, w4, noteG_5 _ _ _ w5 h2, w6, w7⟩
theorem ansF_ok {q : HX} {b : Int} (h : HOk q) (hb : 28 ≤ b ∧ b ≤ 1500) : HOk (ansF b q) ∧ ∀ j : Nat, j ≠ 4 → (ansF b q).1 j = q.1 j := by
  obtain ⟨h1, h3, h4, h5⟩ := h
  obtain ⟨w0, w1, w2, w3, w4, w5, w6, w7⟩ := h1
  have hg : ∀ j : Nat, j ≠ 4 → upz q.1 4 (max (q.1 4) b) j = q.1 j := fun j a => upz_ne _ _ a
  refine ⟨⟨?_, h3.g (hg 6 (by decide)), h4.g (hg 7 (by decide)), h5.mono (fun y hy => PkIn.gd (hg 0 (by decide)) (hg 7 (by decide)) (fun _ => rfl) hy)⟩, hg⟩
  show GOk (upz q.1 4 (max (q.1 4) b))
  unfold GOk
  rw [hg 0 (by decide), hg 1 (by decide), hg 2 (by decide), hg 3 (by decide), hg 5 (by decide), hg 6 (by decide), hg 7 (by decide), upz_k]
  exact ⟨w0, w1, w2, w3, by omega, w5, w6, w7⟩
/-- what all notes leave as it is -/
def GSame (g h : Nat → Int) : Prop := ∀ j : Nat, j ≠ 3 → j ≠ 4 → j ≠ 5 → h j = g j
theorem hearN_ok {q : HX} {x : Nte} (h : HOk q) (hx : NtI q.1 x) : HOk (hearN x q) ∧ GSame q.1 (hearN x q).1 := by
  obtain ⟨-, hx⟩ := hx
  unfold hearN
  split
  · rename_i e
    rcases hx with hx | ⟨hx, -⟩
    · obtain ⟨a, b⟩ := ansF_ok h hx.2
      exact ⟨a, fun j _ j4 _ => b j j4⟩
    · omega
  · rename_i e
    rcases hx with hx | ⟨hx, hy⟩
    · exact absurd hx.1 e
    · obtain ⟨a, b⟩ := noteF1_ok (x := x) h hx (by omega)
      split
      · rename_i e2
        have h7 : ((x.2.2.toNat : Nat) : Int) < (noteF1 x q).1 7 := by
          rw [b 7 (by decide) (by decide)]
          rcases hy with hy | hy <;> omega
        obtain ⟨c, d, -⟩ := agF_ok a h7
        exact ⟨c, fun j j3 _ j5 => (d j j3 j5).trans (b j j3 j5)⟩
      · exact ⟨a, fun j j3 _ j5 => b j j3 j5⟩
theorem GSame.nt {g h : Nat → Int} (k : GSame g h) {x : Nte} (hx : NtI g x) : NtI h x := by
  unfold NtI at hx ⊢
  rw [k 0 (by decide) (by decide) (by decide), k 7 (by decide) (by decide) (by decide)]; exact hx
theorem GSame.refl (g : Nat → Int) : GSame g g := fun _ _ _ _ => rfl
theorem GSame.trans {g h k : Nat → Int} (a : GSame g h) (b : GSame h k) : GSame g k := fun j j3 j4 j5 => (b j j3 j4 j5).trans (a j j3 j4 j5)
theorem hearL_ok {q : HX} {l : List Nte} {t : Int} (h : HOk q) (hl : ∀ x ∈ l, NtI q.1 x) : HOk (hearL t l q) ∧ GSame q.1 (hearL t l q).1 := by
  induction l generalizing q with
  | nil => exact ⟨h, GSame.refl _⟩
  | cons x l ih =>
    show HOk (hearL t l (if x.1 ≤ t then hearN x q else q)) ∧ GSame q.1 (hearL t l (if x.1 ≤ t then hearN x q else q)).1
    split
    · obtain ⟨a, b⟩ := hearN_ok h (hl x List.mem_cons_self)
      obtain ⟨c, d⟩ := ih a (fun y hy => b.nt (hl y (List.mem_cons_of_mem _ hy)))
      exact ⟨c, b.trans d⟩
    · exact ih h (fun y hy => hl y (List.mem_cons_of_mem _ hy))
