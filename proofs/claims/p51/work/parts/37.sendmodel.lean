/-! datagrams that are sent, probes, what is asked of a state -/
def fcnt (Dg : Nat → Nat → Int) (f : Int) : Nat → Int
  | 0 => 0
  | n + 1 => fcnt Dg f n + (if Dg n 5 = f then 1 else 0)
theorem fcnt_le (Dg : Nat → Nat → Int) (f : Int) (n : Nat) : 0 ≤ fcnt Dg f n ∧ fcnt Dg f n ≤ n := by
  induction n with
  | zero => exact ⟨Int.le_refl _, Int.le_refl _⟩
  | succ n ih => show 0 ≤ fcnt Dg f n + (if Dg n 5 = f then 1 else 0) ∧ fcnt Dg f n + (if Dg n 5 = f then 1 else 0) ≤ ((n + 1 : Nat) : Int); split <;> omega
def quietI (P : Nat → List Pkt) (L : List Nte) (Hp : Nat → Nat → Int) : Int := if totQ P 6 = 0 ∧ L.length = 0 ∧ hcnt Hp 4 = 0 then 1 else 0
def dgNew (len sd fi t : Int) : Nat → Int := vec [len, sd, fi, 0, t, 0, -1, 0]
def lkNew (a b c : Int) : Nat → Int := vec [a, b, c, 0, 0, 0, 0, 0]
def sndP (n : Nat) (len sd fi : Int) (q : HX) : HX := (upz q.1 7 (q.1 7 + 1), q.2.1, setR q.2.2.1 n (dgNew len sd fi (q.1 0)), q.2.2.2.1, q.2.2.2.2)
def sndF (n : Nat) (len sd fi : Int) (q : HX) : HX := agF n (sndP n len sd fi q)
def prF (bt : Int) (q : HX) : HX := ((putPr bt (q.1, q.2.1 0, q.2.2.2.1, q.2.2.2.2)).1, setR q.2.1 0 (putPr bt (q.1, q.2.1 0, q.2.2.2.1, q.2.2.2.2)).2.1, q.2.2.1, (putPr bt (q.1, q.2.1 0, q.2.2.2.1, q.2.2.2.2)).2.2.1, (putPr bt (q.1, q.2.1 0, q.2.2.2.1, q.2.2.2.2)).2.2.2)
theorem sndP_ok {q : HX} {n : Nat} {len sd fi : Int} (h : HOk q) (hn : q.1 7 = n) (h40 : n < 40) (h1 : 1 ≤ len ∧ len ≤ 1000) (h2 : 0 ≤ sd ∧ sd ≤ 255) (h3 : fi = 0 ∨ fi = 1) : HOk (sndP n len sd fi q) ∧ (n : Int) < (sndP n len sd fi q).1 7 ∧ ∀ j : Nat, j ≠ 7 → (sndP n len sd fi q).1 j = q.1 j := by
  obtain ⟨a1, a2, a3, a4⟩ := h
  obtain ⟨w0, w1, w2, w3, w4, w5, w6, w7⟩ := a1
  have hg : ∀ j : Nat, j ≠ 7 → upz q.1 7 (q.1 7 + 1) j = q.1 j := fun j hj => upz_ne _ _ hj
  have h7 : upz q.1 7 (q.1 7 + 1) 7 = q.1 7 + 1 := upz_k _ _ _
  refine ⟨⟨?_, a2.g (hg 6 (by decide)), fun d hd => ?_, a4.mono (fun x hx => ?_)⟩, ?_, hg⟩
  · show GOk (upz q.1 7 (q.1 7 + 1))
    unfold GOk
    rw [h7, hg 0 (by decide), hg 1 (by decide), hg 2 (by decide), hg 3 (by decide), hg 4 (by decide), hg 5 (by decide), hg 6 (by decide)]
    exact ⟨w0, w1, w2, w3, w4, w5, w6, by omega⟩
  · have hd : (d : Int) < upz q.1 7 (q.1 7 + 1) 7 := hd
    rw [h7] at hd
    show (1 ≤ setR q.2.2.1 n (dgNew len sd fi (q.1 0)) d 0 ∧ setR q.2.2.1 n (dgNew len sd fi (q.1 0)) d 0 ≤ 1000) ∧ (0 ≤ setR q.2.2.1 n (dgNew len sd fi (q.1 0)) d 1 ∧ setR q.2.2.1 n (dgNew len sd fi (q.1 0)) d 1 ≤ 255) ∧ (setR q.2.2.1 n (dgNew len sd fi (q.1 0)) d 2 = 0 ∨ setR q.2.2.1 n (dgNew len sd fi (q.1 0)) d 2 = 1) ∧ (0 ≤ setR q.2.2.1 n (dgNew len sd fi (q.1 0)) d 5 ∧ setR q.2.2.1 n (dgNew len sd fi (q.1 0)) d 5 ≤ 3)
    by_cases e : d = n
    · subst e
      rw [setR_k]
      exact ⟨h1, h2, h3, (by decide : (0 : Int) ≤ 0 ∧ (0 : Int) ≤ 3)⟩
    · rw [setR_ne _ _ e]
      exact a3 d (by omega)
  · obtain ⟨b1, b2⟩ := hx
    unfold PkIn
    show (0 ≤ x.1 ∧ x.1 ≤ upz q.1 7 (q.1 7 + 1) 0 + 50) ∧ (_ ∨ (0 ≤ x.2.1 ∧ x.2.1 < upz q.1 7 (q.1 7 + 1) 7 ∧ 0 ≤ x.2.2.1 ∧ 21 ≤ x.2.2.2 ∧ x.2.2.1 + x.2.2.2 - 20 ≤ setR q.2.2.1 n (dgNew len sd fi (q.1 0)) x.2.1.toNat 0))
    rw [h7, hg 0 (by decide)]
    refine ⟨b1, b2.elim Or.inl (fun b => Or.inr ?_)⟩
    rw [setR_ne _ _ (show x.2.1.toNat ≠ n by omega)]
    exact ⟨b.1, by omega, b.2.2.1, b.2.2.2.1, b.2.2.2.2⟩
  · show (n : Int) < upz q.1 7 (q.1 7 + 1) 7
    rw [h7]; omega
theorem prF_ok {q : HX} {bt : Int} (h : HOk q) (hb : 28 ≤ bt ∧ bt ≤ 1500) : HOk (prF bt q) ∧ ∀ j : Nat, j ≠ 3 → j ≠ 5 → (prF bt q).1 j = q.1 j := by
  obtain ⟨a1, a2, a3, a4⟩ := h
  have hw := a1
  obtain ⟨w0, w1, w2, w3, w4, w5, w6, w7⟩ := hw
  have hl := a2 0 (by show (0 : Int) < q.1 6; omega)
  obtain ⟨y, hy⟩ : ∃ y : PX, putPr bt (q.1, q.2.1 0, q.2.2.2.1, q.2.2.2.2) = y := ⟨_, rfl⟩
  have key : (∀ j : Nat, j ≠ 3 → j ≠ 5 → y.1 j = q.1 j) ∧ (28 ≤ y.1 3 ∧ y.1 3 ≤ 1500) ∧ (-1 ≤ y.1 5 ∧ y.1 5 ≤ 1500) ∧ (∀ j : Nat, j < 3 → y.2.1 j = q.2.1 0 j) ∧ AllP (PkIn q.1 q.2.2.1) y.2.2.1 := by
    rw [← hy]
    unfold putPr
    split
    · refine ⟨fun j a b => noteG_j (q.2.1 0 0) (-bt) q.1 a b, ?_, noteG_5 (q.2.1 0 0) (-bt) q.1 w5 (by omega), fun j hj => (show upz (q.2.1 0) 6 _ j = q.2.1 0 j from upz_ne _ _ (by omega)), a4⟩
      show 28 ≤ noteG (q.2.1 0 0) (-bt) q.1 3 ∧ noteG (q.2.1 0 0) (-bt) q.1 3 ≤ 1500
      rw [noteG_3]
      have := hl.1
      omega
    · rename_i hc
      have hc : ¬ q.2.1 0 0 < bt := hc
      exact ⟨fun j a b => rfl, w3, w5, fun j hj => fwdF_row (q.1 0) 0 (-1) (-1) bt (q.2.1 0, q.2.2.2.1, q.2.2.2.2) hj, AllP.fwd (x := (q.2.1 0, q.2.2.2.1, q.2.2.2.2)) a4 w0 hl.1 hl.2.1 (Or.inl ⟨rfl, rfl, hb.1, by show bt ≤ q.2.1 0 0; omega⟩) (by omega)⟩
  obtain ⟨k1, k2, k3, k4, k5⟩ := key
  unfold prF
  rw [hy]
  refine ⟨⟨?_, ?_, ?_, ?_⟩, k1⟩
  · show GOk y.1
    unfold GOk
    rw [k1 0 (by decide) (by decide), k1 1 (by decide) (by decide), k1 2 (by decide) (by decide), k1 4 (by decide) (by decide), k1 6 (by decide) (by decide), k1 7 (by decide) (by decide)]
    exact ⟨w0, w1, w2, k2, w4, k3, w6, w7⟩
  · exact LkOk.g (a2.set (k := 0) (r := y.2.1) k4) (k1 6 (by decide) (by decide))
  · exact a3.g (k1 7 (by decide) (by decide))
  · exact k5.mono (fun x hx => PkIn.gd (k1 0 (by decide) (by decide)) (k1 7 (by decide) (by decide)) (fun _ => rfl) hx)
