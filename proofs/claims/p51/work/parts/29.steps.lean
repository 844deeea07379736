/-! what a piece that comes leaves as it was; the steps of a tick -/
theorem closeR_j (k : Nat → Int) (x y z : Int) {j : Nat} (h : j < 5) : closeR k x y z j = k j := by
  unfold closeR
  rw [upz_ne _ _ (by omega), upz_ne _ _ (by omega), upz_ne _ _ (by omega)]
theorem closeR_5 (k : Nat → Int) (x y z : Int) : closeR k x y z 5 = x := by
  unfold closeR
  rw [upz_ne _ _ (by decide), upz_ne _ _ (by decide), upz_k]
def DgSame (Dg Eg : Nat → Nat → Int) : Prop := (∀ e j : Nat, j < 5 → Eg e j = Dg e j) ∧ ∀ e : Nat, (0 ≤ Dg e 5 ∧ Dg e 5 ≤ 3) → 0 ≤ Eg e 5 ∧ Eg e 5 ≤ 3
theorem DgSame.refl (Dg : Nat → Nat → Int) : DgSame Dg Dg := ⟨fun _ _ _ => rfl, fun _ h => h⟩
theorem DgSame.trans {A B C : Nat → Nat → Int} (h : DgSame A B) (k : DgSame B C) : DgSame A C := ⟨fun e j hj => (k.1 e j hj).trans (h.1 e j hj), fun e he => k.2 e (h.2 e he)⟩
theorem DgSame.close (Dg : Nat → Nat → Int) (d : Nat) {x : Int} (t rs : Int) (hx : 0 ≤ x ∧ x ≤ 3) : DgSame Dg (setR Dg d (closeR (Dg d) x t rs)) := by
  refine ⟨fun e j hj => ?_, fun e he => ?_⟩
  · by_cases q : e = d
    · subst q; rw [setR_k, closeR_j _ _ _ _ hj]
    · rw [setR_ne _ _ q]
  · by_cases q : e = d
    · subst q; rw [setR_k, closeR_5]; exact hx
    · rw [setR_ne _ _ q]; exact he
theorem hfF_same (t d : Int) (x : RX) : DgSame x.1 (hfF t d x).1 := by
  unfold hfF
  split
  · show DgSame x.1 (if x.2.1 (fstJ x.2.1) 0 = -1 then x.1 else setR x.1 (x.2.1 (fstJ x.2.1) 0).toNat (closeR (x.1 (x.2.1 (fstJ x.2.1) 0).toNat) 3 t 2))
    split
    · exact DgSame.refl _
    · exact DgSame.close _ _ _ _ (by decide)
  · exact DgSame.refl _
theorem fateF_in (r d : Nat → Int) (V : Int → Int) : 0 ≤ fateF r d V ∧ fateF r d V ≤ 3 := by
  unfold fateF
  generalize (if r 2 = d 0 then ownF V d (r 2).toNat else 0) = q
  split <;> decide
theorem takeF_same (g : Nat → Int) (d o nb : Nat) (fill il : Int) (j : Nat) (y : RY) : DgSame y.1 (takeF g d o nb fill il j y).1 := by
  unfold takeF
  split
  · split
    · exact DgSame.close _ _ _ _ (by decide)
    · split
      · exact DgSame.close _ _ _ _ (fateF_in _ _ _)
      · exact DgSame.refl _
  · exact DgSame.close _ _ _ _ (by decide)
theorem recvF_same (g : Nat → Int) (d o nb : Nat) (fill il : Int) (y : RY) : DgSame y.1 (recvF g d o nb fill il y).1 := by
  unfold recvF
  split
  · exact (hfF_same (g 0) d (y.1, y.2.1, y.2.2.1)).trans (takeF_same _ _ _ _ _ _ _ _)
  · exact DgSame.refl _
theorem HpG.set {g : Nat → Int} {Hp : Nat → Nat → Int} (h : HpG g Hp) (j : Nat) {r : Nat → Int} (hr : (-1 ≤ r 0 ∧ r 0 < g 7) ∧ 0 ≤ r 1 ∧ r 1 ≤ g 0) : HpG g (setR Hp j r) := by
  intro i hi
  by_cases e : i = j
  · subst e; rw [setR_k]; exact hr
  · rw [setR_ne _ _ e]; exact h i hi
theorem row1F_j (r : Nat → Int) {j : Nat} (h : j < 2) : row1F r j = r j := upz_ne _ _ (by omega)
theorem rowT_j (V : Int → Int) (o nb : Nat) (il : Int) (r : Nat → Int) {j : Nat} (h : j < 2) : rowT V o nb il r j = r j := by
  have h2 : row2F ((o + nb : Nat) : Int) il (row1F r) j = r j := by
    unfold row2F
    split
    · exact row1F_j r h
    · rw [upz_ne _ _ (by omega)]; exact row1F_j r h
  unfold rowT row3F
  rw [upz_ne _ _ (by omega), upz_ne _ _ (by omega), upz_ne _ _ (by omega), h2]
theorem hfF_hp {g : Nat → Int} {d : Nat} {x : RX} (h : HpG g x.2.1) (h0 : 0 ≤ g 0) (hd : (d : Int) < g 7) : HpG g (hfF (g 0) d x).2.1 := by
  unfold hfF
  split
  · exact h.set _ ⟨⟨by show -1 ≤ (d : Int); omega, hd⟩, h0, Int.le_refl _⟩
  · exact h
theorem takeF_hp {g : Nat → Int} {d o nb : Nat} {fill il : Int} {j : Nat} {y : RY} (h : HpG g y.2.1) (hj : j < 4) (h7 : 0 ≤ g 7) : HpG g (takeF g d o nb fill il j y).2.1 := by
  have hx := h j hj
  have h1 : ∀ r : Nat → Int, (∀ i : Nat, i < 2 → r i = y.2.1 j i) → HpG g (setR y.2.1 j r) := fun r hr => h.set j (by rw [hr 0 (by decide), hr 1 (by decide)]; exact hx)
  have h2 : ∀ r : Nat → Int, (∀ i : Nat, i < 2 → r i = y.2.1 j i) → HpG g (setR y.2.1 j (upz r 0 (-1))) := fun r hr => h.set j ⟨by rw [upz_k]; omega, by rw [upz_ne _ _ (by decide), hr 1 (by decide)]; exact hx.2⟩
  have hT := fun i (hi : i < 2) => rowT_j (y.2.2.1 j) o nb il (y.2.1 j) hi
  unfold takeF
  split
  · split
    · exact h2 _ hT
    · split
      · exact h2 _ hT
      · exact h1 _ hT
  · exact h2 _ (fun i hi => row1F_j _ hi)
theorem recvF_hp {g : Nat → Int} {d o nb : Nat} {fill il : Int} {y : RY} (h : HpG g y.2.1) (h0 : 0 ≤ g 0) (h7 : 0 ≤ g 7) (hd : (d : Int) < g 7) : HpG g (recvF g d o nb fill il y).2.1 := by
  unfold recvF
  split
  · exact takeF_hp (y := (_, _, _, _)) (hfF_hp (x := (y.1, y.2.1, y.2.2.1)) h h0 hd) (hfJ_lt _ _) h7
  · exact h
theorem DgOk.same {g : Nat → Int} {Dg Eg : Nat → Nat → Int} (h : DgOk g Dg) (k : DgSame Dg Eg) : DgOk g Eg := by
  intro d hd
  obtain ⟨a1, a2, a3, a4⟩ := h d hd
  rw [k.1 d 0 (by decide), k.1 d 1 (by decide), k.1 d 2 (by decide)]
  exact ⟨a1, a2, a3, k.2 d a4⟩
theorem PkIn.same {g : Nat → Int} {Dg Eg : Nat → Nat → Int} (k : DgSame Dg Eg) {x : Pkt} (h : PkIn g Dg x) : PkIn g Eg x := by
  refine ⟨h.1, h.2.elim Or.inl (fun q => Or.inr ?_)⟩
  rw [k.1 _ 0 (by decide)]; exact q
def dueB (l : List Pkt) (t : Int) : Int := if l = [] then 0 else if (hdP l).1 ≤ t then 1 else 0
def lastB (Dg : Nat → Nat → Int) (x : Pkt) : Int := if x.2.2.1 + x.2.2.2 - 20 < Dg x.2.1.toNat 0 then 0 else 1
/-- the first packet of the link k comes to the link's end -/
def stepM (k : Nat) (z : St) : St :=
  if (k : Int) + 1 < z.1 6 then
    (z.1, (putK (z.1 0) (k + 1) (hdP (z.2.2.2.2.2.1 k)).2.1 (firmI z.2.2.1 (hdP (z.2.2.2.2.2.1 k)).2.1) (hdP (z.2.2.2.2.2.1 k)).2.2.1 (hdP (z.2.2.2.2.2.1 k)).2.2.2 (z.2.1, updL z.2.2.2.2.2.1 k (z.2.2.2.2.2.1 k).tail, z.2.2.2.2.2.2.1, upz z.2.2.2.2.2.2.2 12 (z.2.2.2.2.2.2.2 12 + 1))).1, z.2.2.1, z.2.2.2.1, z.2.2.2.2.1,
      (putK (z.1 0) (k + 1) (hdP (z.2.2.2.2.2.1 k)).2.1 (firmI z.2.2.1 (hdP (z.2.2.2.2.2.1 k)).2.1) (hdP (z.2.2.2.2.2.1 k)).2.2.1 (hdP (z.2.2.2.2.2.1 k)).2.2.2 (z.2.1, updL z.2.2.2.2.2.1 k (z.2.2.2.2.2.1 k).tail, z.2.2.2.2.2.2.1, upz z.2.2.2.2.2.2.2 12 (z.2.2.2.2.2.2.2 12 + 1))).2)
  else if (hdP (z.2.2.2.2.2.1 k)).2.1 = -1 then
    (z.1, z.2.1, z.2.2.1, z.2.2.2.1, z.2.2.2.2.1, updL z.2.2.2.2.2.1 k (z.2.2.2.2.2.1 k).tail, putN z.2.2.2.2.2.2.1 (z.1 0 + dlyI z.2.1 (z.1 6).toNat, -1, (hdP (z.2.2.2.2.2.1 k)).2.2.2), upz z.2.2.2.2.2.2.2 12 (z.2.2.2.2.2.2.2 12 + 1))
  else
    (z.1, z.2.1, (recvF z.1 (hdP (z.2.2.2.2.2.1 k)).2.1.toNat (hdP (z.2.2.2.2.2.1 k)).2.2.1.toNat ((hdP (z.2.2.2.2.2.1 k)).2.2.2 - 20).toNat (-1) (lastB z.2.2.1 (hdP (z.2.2.2.2.2.1 k))) (z.2.2.1, z.2.2.2.1, z.2.2.2.2.1, upz z.2.2.2.2.2.2.2 12 (z.2.2.2.2.2.2.2 12 + 1))).1,
      (recvF z.1 (hdP (z.2.2.2.2.2.1 k)).2.1.toNat (hdP (z.2.2.2.2.2.1 k)).2.2.1.toNat ((hdP (z.2.2.2.2.2.1 k)).2.2.2 - 20).toNat (-1) (lastB z.2.2.1 (hdP (z.2.2.2.2.2.1 k))) (z.2.2.1, z.2.2.2.1, z.2.2.2.2.1, upz z.2.2.2.2.2.2.2 12 (z.2.2.2.2.2.2.2 12 + 1))).2.1,
      (recvF z.1 (hdP (z.2.2.2.2.2.1 k)).2.1.toNat (hdP (z.2.2.2.2.2.1 k)).2.2.1.toNat ((hdP (z.2.2.2.2.2.1 k)).2.2.2 - 20).toNat (-1) (lastB z.2.2.1 (hdP (z.2.2.2.2.2.1 k))) (z.2.2.1, z.2.2.2.1, z.2.2.2.2.1, upz z.2.2.2.2.2.2.2 12 (z.2.2.2.2.2.2.2 12 + 1))).2.2.1,
      updL z.2.2.2.2.2.1 k (z.2.2.2.2.2.1 k).tail, z.2.2.2.2.2.2.1,
      (recvF z.1 (hdP (z.2.2.2.2.2.1 k)).2.1.toNat (hdP (z.2.2.2.2.2.1 k)).2.2.1.toNat ((hdP (z.2.2.2.2.2.1 k)).2.2.2 - 20).toNat (-1) (lastB z.2.2.1 (hdP (z.2.2.2.2.2.1 k))) (z.2.2.1, z.2.2.2.1, z.2.2.2.2.1, upz z.2.2.2.2.2.2.2 12 (z.2.2.2.2.2.2.2 12 + 1))).2.2.2)
def moveF : Nat → Nat → St → St
  | 0, _, z => z
  | n + 1, k, z => if dueB (z.2.2.2.2.2.1 k) (z.1 0) = 1 then moveF n k (stepM k z) else z
theorem stepM_g (k : Nat) (z : St) : (stepM k z).1 = z.1 := by
  unfold stepM
  split
  · rfl
  · split <;> rfl
theorem stepM_ok {k : Nat} {z : St} (h : StOk z) (hk : (k : Int) < z.1 6) (hd : z.2.2.2.2.2.1 k ≠ []) : StOk (stepM k z) := by
  obtain ⟨h1, h2, h3, h4, h5, h6⟩ := h
  have hk6 : k < 6 := by have := h1.2.2.2.2.2.2.1.2; omega
  have hx : PkIn z.1 z.2.2.1 (hdP (z.2.2.2.2.2.1 k)) := by
    have := h5 k hk6
    cases e : z.2.2.2.2.2.1 k with
    | nil => exact absurd e hd
    | cons x t => rw [e] at this; exact this x List.mem_cons_self
  have ht := h5.tail k
  have h8 : ∀ w : Int, (0 ≤ w ∧ w < z.1 7) → z.2.2.1 w.toNat 0 ≤ 1000 := fun w hw => (h3 w.toNat (by omega)).1.2
  unfold stepM
  split
  · obtain ⟨a1, a2, a3⟩ := putK_ok (Dg := z.2.2.1) (wh := (hdP (z.2.2.2.2.2.1 k)).2.1) (og := (hdP (z.2.2.2.2.2.1 k)).2.2.1) (bt := (hdP (z.2.2.2.2.2.1 k)).2.2.2) (k := k + 1) (y := (z.2.1, updL z.2.2.2.2.2.1 k (z.2.2.2.2.2.1 k).tail, z.2.2.2.2.2.2.1, upz z.2.2.2.2.2.2.2 12 (z.2.2.2.2.2.2.2 12 + 1))) h1 h2 ht h6 (by omega)
      (hx.2.elim Or.inl (fun q => Or.inr ⟨q.1, q.2.1, q.2.2.1, q.2.2.2.1, q.2.2.2.2, h8 _ ⟨q.1, q.2.1⟩⟩))
    exact ⟨h1, a1, h3, h4, a2, a3⟩
  · split
    · rename_i hp
      refine ⟨h1, h2, h3, h4, ht, fun x hx2 => ?_⟩
      rcases putN_mem hx2 with q | q
      · exact h6 x q
      · have hdl := dlyI_in (Lk := z.2.1) (n := (z.1 6).toNat) (fun i hi => h2.dl i (by omega))
        have hg6 := h1.2.2.2.2.2.2.1
        have h0 := h1.1
        rw [q]
        refine ⟨⟨by show 0 ≤ z.1 0 + dlyI z.2.1 (z.1 6).toNat; omega, by show z.1 0 + dlyI z.2.1 (z.1 6).toNat ≤ z.1 0 + 300; omega⟩, Or.inl ⟨rfl, ?_⟩⟩
        rcases hx.2 with q2 | q2
        · exact ⟨q2.2.2.1, q2.2.2.2⟩
        · have := q2.1; omega
    · have hs := recvF_same z.1 (hdP (z.2.2.2.2.2.1 k)).2.1.toNat (hdP (z.2.2.2.2.2.1 k)).2.2.1.toNat ((hdP (z.2.2.2.2.2.1 k)).2.2.2 - 20).toNat (-1) (lastB z.2.2.1 (hdP (z.2.2.2.2.2.1 k))) (z.2.2.1, z.2.2.2.1, z.2.2.2.2.1, upz z.2.2.2.2.2.2.2 12 (z.2.2.2.2.2.2.2 12 + 1))
      rename_i hp
      have hw : 0 ≤ (hdP (z.2.2.2.2.2.1 k)).2.1 ∧ (hdP (z.2.2.2.2.2.1 k)).2.1 < z.1 7 := by
        rcases hx.2 with q2 | q2
        · exact absurd q2.1 hp
        · exact ⟨q2.1, q2.2.1⟩
      have hw2 : (((hdP (z.2.2.2.2.2.1 k)).2.1.toNat : Nat) : Int) < z.1 7 := by omega
      exact ⟨h1, h2, h3.same hs, recvF_hp (g := z.1) (y := (z.2.2.1, z.2.2.2.1, z.2.2.2.2.1, _)) h4 h1.1 h1.2.2.2.2.2.2.2.1 hw2, ht.mono (fun x => PkIn.same hs), h6⟩
