/-! the acts over rows beyond the counts -/
theorem upz_same (g : Nat → Int) (j : Nat) : upz g j (g j) = g := by
  funext i
  by_cases e : i = j
  · rw [e, upz_k]
  · rw [upz_ne _ _ e]
theorem mixR_new {α : Type} {A B : Nat → α} {n : Nat} (r : α) : setR (mixR A B n) n r = mixR (setR A n r) B (n + 1) := by
  funext j
  by_cases e : j = n
  · rw [e, setR_k, mixR_lt (Nat.lt_succ_self n), setR_k]
  · rw [setR_ne _ _ e]
    unfold mixR
    by_cases q : j < n
    · rw [if_pos q, if_pos (by omega), setR_ne _ _ e]
    · rw [if_neg q, if_neg (by omega)]
theorem EqS.life {z w : St} (h : EqS z w) (v : Int) : EqS (lifeF v z) (lifeF v w) := by
  obtain ⟨a1, a2, a3, a4, a5⟩ := h
  exact ⟨by show upz w.1 1 v = upz z.1 1 v; rw [a1], a2, a3, a4, a5⟩
theorem EqS.poli {z w : St} (h : EqS z w) (v : Int) : EqS (poliF v z) (poliF v w) := by
  obtain ⟨a1, a2, a3, a4, a5⟩ := h
  exact ⟨by show upz w.1 2 v = upz z.1 2 v; rw [a1], a2, a3, a4, a5⟩
theorem EqS.forg {z w : St} (h : EqS z w) (hz : StOk z) : EqS (forgF z) (forgF w) := by
  obtain ⟨a1, a2, a3, a4, a5⟩ := h
  have h6 := hz.1.2.2.2.2.2.2.1
  exact ⟨by show upz (upz (upz w.1 3 (w.2.1 0 0)) 4 27) 5 (-1) = upz (upz (upz z.1 3 (z.2.1 0 0)) 4 27) 5 (-1); rw [a1, a2 0 (by show (0 : Int) < z.1 6; omega)], a2, a3, a4, a5⟩
theorem EqS.link {z w : St} (h : EqS z w) {k : Nat} (hk : (k : Int) < z.1 6) (j : Nat) (v : Int) : EqS (linkF k j v z) (linkF k j v w) := by
  obtain ⟨a1, a2, a3, a4, a5⟩ := h
  refine ⟨a1, fun i hi => ?_, a3, a4, a5⟩
  show setR w.2.1 k (upz (w.2.1 k) j v) i = setR z.2.1 k (upz (z.2.1 k) j v) i
  by_cases e : i = k
  · rw [e, setR_k, setR_k, a2 k hk]
  · rw [setR_ne _ _ e, setR_ne _ _ e]; exact a2 i hi
theorem EqS.prob {z w : St} (h : EqS z w) (hz : StOk z) {b : Int} (hb : 28 ≤ b ∧ b ≤ 1500) : EqS (probF b z) (probF b w) := by
  have h6 := hz.1.2.2.2.2.2.2.1
  have hg := (probF_ok hz hb).2
  rw [Jx_of h hz]
  obtain ⟨X, Y, W, e⟩ : ∃ X Y W : Nat → Nat → Int, Jx w.2.1 w.2.2.1 w.2.2.2.1 z = Jx X Y W z := ⟨_, _, _, rfl⟩
  rw [e]
  have h0 : 0 < (z.1 6).toNat := by omega
  have e2 : probF b (Jx X Y W z) = Jx X Y W (probF b z) := by
    have g6 : (prF b (hxOf z)).1 6 = z.1 6 := hg 6 (by decide) (by decide)
    have g7 : (prF b (hxOf z)).1 7 = z.1 7 := hg 7 (by decide) (by decide)
    show ofHx (Jx X Y W z) (prF b (z.1, mixR z.2.1 X (z.1 6).toNat, mixR z.2.2.1 Y (z.1 7).toNat, z.2.2.2.2.2.1, z.2.2.2.2.2.2.2)) = ((prF b (hxOf z)).1, mixR (prF b (hxOf z)).2.1 X ((prF b (hxOf z)).1 6).toNat, mixR (prF b (hxOf z)).2.2.1 Y ((prF b (hxOf z)).1 7).toNat, mixR z.2.2.2.1 W 4, z.2.2.2.2.1, (prF b (hxOf z)).2.2.2.1, z.2.2.2.2.2.2.1, (prF b (hxOf z)).2.2.2.2)
    rw [g6, g7]
    unfold prF
    simp only [mixR_lt h0, mixR_set h0]
    rfl
  rw [e2]; exact Jx_eq _ _ _
theorem agJ {X Y W : Nat → Nat → Int} {z : St} (hz : StOk z) {d : Nat} (hd : (d : Int) < z.1 7) : ofHx (Jx X Y W z) (agF d (hxOf (Jx X Y W z))) = Jx X Y W (ofHx z (agF d (hxOf z))) := by
  have h6 := hz.1.2.2.2.2.2.2.1
  have hg := (agF_ok hz.hx hd).2.1
  have g6 : (agF d (hxOf z)).1 6 = z.1 6 := hg 6 (by decide) (by decide)
  have g7 : (agF d (hxOf z)).1 7 = z.1 7 := hg 7 (by decide) (by decide)
  have e : agF d (hxOf (Jx X Y W z)) = ((agF d (hxOf z)).1, mixR (agF d (hxOf z)).2.1 X (z.1 6).toNat, mixR (agF d (hxOf z)).2.2.1 Y (z.1 7).toNat, (agF d (hxOf z)).2.2.2) := agF_mix (q := hxOf z) (show d < (z.1 7).toNat by omega) (by omega)
  rw [e]
  show ((agF d (hxOf z)).1, mixR (agF d (hxOf z)).2.1 X (z.1 6).toNat, mixR (agF d (hxOf z)).2.2.1 Y (z.1 7).toNat, mixR z.2.2.2.1 W 4, z.2.2.2.2.1, (agF d (hxOf z)).2.2.2.1, z.2.2.2.2.2.2.1, (agF d (hxOf z)).2.2.2.2) = ((agF d (hxOf z)).1, mixR (agF d (hxOf z)).2.1 X ((agF d (hxOf z)).1 6).toNat, mixR (agF d (hxOf z)).2.2.1 Y ((agF d (hxOf z)).1 7).toNat, mixR z.2.2.2.1 W 4, z.2.2.2.2.1, (agF d (hxOf z)).2.2.2.1, z.2.2.2.2.2.2.1, (agF d (hxOf z)).2.2.2.2)
  rw [g6, g7]
theorem EqS.again {z w : St} (h : EqS z w) (hz : StOk z) {d : Nat} (hd : (d : Int) < z.1 7) : EqS (againF d z) (againF d w) := by
  rw [Jx_of h hz]
  show EqS (ofHx z (agF d (hxOf z))) (ofHx (Jx w.2.1 w.2.2.1 w.2.2.2.1 z) (agF d (hxOf (Jx w.2.1 w.2.2.1 w.2.2.2.1 z))))
  rw [agJ hz hd]; exact Jx_eq _ _ _
theorem EqS.send {z w : St} (h : EqS z w) (hz : StOk z) {n : Nat} {len sd fi : Int} (hn : z.1 7 = n) (h40 : n < 40) (h1 : 1 ≤ len ∧ len ≤ 1000) (h2 : 0 ≤ sd ∧ sd ≤ 255) (h3 : fi = 0 ∨ fi = 1) : EqS (sendF n len sd fi z) (sendF n len sd fi w) := by
  have h6 := hz.1.2.2.2.2.2.2.1
  obtain ⟨s1, s2, s3⟩ := sndP_ok hz.hx hn h40 h1 h2 h3
  have s3 : ∀ j : Nat, j ≠ 7 → (sndP n len sd fi (hxOf z)).1 j = z.1 j := s3
  have s7 : (sndP n len sd fi (hxOf z)).1 7 = (n : Int) + 1 := by show upz z.1 7 (z.1 7 + 1) 7 = _; rw [upz_k, hn]
  have hg : ∀ j : Nat, j ≠ 3 → j ≠ 5 → (agF n (sndP n len sd fi (hxOf z))).1 j = (sndP n len sd fi (hxOf z)).1 j := (agF_ok s1 s2).2.1
  rw [Jx_of h hz]
  obtain ⟨X, Y, W, e⟩ : ∃ X Y W : Nat → Nat → Int, Jx w.2.1 w.2.2.1 w.2.2.2.1 z = Jx X Y W z := ⟨_, _, _, rfl⟩
  rw [e]
  have hn7 : (z.1 7).toNat = n := by omega
  have e1 : sndP n len sd fi (hxOf (Jx X Y W z)) = ((sndP n len sd fi (hxOf z)).1, mixR (sndP n len sd fi (hxOf z)).2.1 X (z.1 6).toNat, mixR (sndP n len sd fi (hxOf z)).2.2.1 Y (n + 1), (sndP n len sd fi (hxOf z)).2.2.2) := by
    show (upz z.1 7 (z.1 7 + 1), mixR z.2.1 X (z.1 6).toNat, setR (mixR z.2.2.1 Y (z.1 7).toNat) n (dgNew len sd fi (z.1 0)), z.2.2.2.2.2.1, z.2.2.2.2.2.2.2) = _
    rw [hn7, mixR_new]; rfl
  have e2 : sendF n len sd fi (Jx X Y W z) = Jx X Y W (sendF n len sd fi z) := by
    show ofHx (Jx X Y W z) (agF n (sndP n len sd fi (hxOf (Jx X Y W z)))) = Jx X Y W (ofHx z (agF n (sndP n len sd fi (hxOf z))))
    rw [e1, agF_mix (q := sndP n len sd fi (hxOf z)) (show n < n + 1 by omega) (by omega)]
    obtain ⟨q, hq⟩ : ∃ q : HX, agF n (sndP n len sd fi (hxOf z)) = q := ⟨_, rfl⟩
    have g6 := hg 6 (by decide) (by decide)
    have g7 := hg 7 (by decide) (by decide)
    rw [s3 6 (by decide)] at g6
    rw [s7] at g7
    rw [hq] at g6 g7 ⊢
    show (q.1, mixR q.2.1 X (z.1 6).toNat, mixR q.2.2.1 Y (n + 1), mixR z.2.2.2.1 W 4, z.2.2.2.2.1, q.2.2.2.1, z.2.2.2.2.2.2.1, q.2.2.2.2) = (q.1, mixR q.2.1 X (q.1 6).toNat, mixR q.2.2.1 Y (q.1 7).toNat, mixR z.2.2.2.1 W 4, z.2.2.2.2.1, q.2.2.2.1, z.2.2.2.2.2.2.1, q.2.2.2.2)
    rw [g6, g7, show ((n : Int) + 1).toNat = n + 1 by omega]
  rw [e2]; exact Jx_eq _ _ _
theorem EqS.fake {z w : St} (h : EqS z w) (hz : StOk z) {d ofs nb : Nat} {fill il : Int} (hd : (d : Int) < z.1 7) : EqS (fakeF d ofs nb fill il z) (fakeF d ofs nb fill il w) := by
  have h7 := hz.1.2.2.2.2.2.2.2
  rw [Jx_of h hz]
  obtain ⟨X, Y, W, e⟩ : ∃ X Y W : Nat → Nat → Int, Jx w.2.1 w.2.2.1 w.2.2.2.1 z = Jx X Y W z := ⟨_, _, _, rfl⟩
  rw [e]
  have e2 : fakeF d ofs nb fill il (Jx X Y W z) = Jx X Y W (fakeF d ofs nb fill il z) := by
    unfold fakeF
    show (z.1, mixR z.2.1 X (z.1 6).toNat, (recvF z.1 d ofs nb fill il (mixR z.2.2.1 Y (z.1 7).toNat, mixR z.2.2.2.1 W 4, z.2.2.2.2.1, _)).1, (recvF z.1 d ofs nb fill il (mixR z.2.2.1 Y (z.1 7).toNat, mixR z.2.2.2.1 W 4, z.2.2.2.2.1, _)).2.1, (recvF z.1 d ofs nb fill il (mixR z.2.2.1 Y (z.1 7).toNat, mixR z.2.2.2.1 W 4, z.2.2.2.2.1, _)).2.2.1, _, _, (recvF z.1 d ofs nb fill il (mixR z.2.2.1 Y (z.1 7).toNat, mixR z.2.2.2.1 W 4, z.2.2.2.2.1, _)).2.2.2) = _
    rw [recvF_mix (show d < (z.1 7).toNat by omega) (fun i hi => by have := (hz.2.2.2.1 i hi).1; omega)]; rfl
  rw [e2]; exact Jx_eq _ _ _
/-! the questions -/
theorem itN_eq {f g : Nat → Int64 → Int64} {a : Int64} {n : Nat} (h : ∀ k : Nat, k < n → ∀ b : Int64, f k b = g k b) : itN f a n = itN g a n := by
  induction n with
  | zero => rw [itN_0, itN_0]
  | succ n ih => rw [itN_s, itN_s, ih (fun k hk => h k (by omega)), h n (by omega)]
theorem hofI_eq {H G : Nat → Nat → Int} (h : ∀ i : Nat, i < 4 → G i = H i) (d : Int) (m : Nat) (hm : m ≤ 4) : hofI G d m = hofI H d m := by
  induction m with
  | zero => rfl
  | succ m ih =>
    show (if hofI G d m = -1 then (if G m 0 = d then (m : Int) else -1) else hofI G d m) = (if hofI H d m = -1 then (if H m 0 = d then (m : Int) else -1) else hofI H d m)
    rw [ih (by omega), h m (by omega)]
theorem hcnt_eq {H G : Nat → Nat → Int} (h : ∀ i : Nat, i < 4 → G i = H i) (m : Nat) (hm : m ≤ 4) : hcnt G m = hcnt H m := by
  induction m with
  | zero => rfl
  | succ m ih =>
    show hcnt G m + (if G m 0 = -1 then 0 else 1) = hcnt H m + (if H m 0 = -1 then 0 else 1)
    rw [ih (by omega), h m (by omega)]
theorem EqS.hof {z w : St} (h : EqS z w) (d : Nat) : hofZ w d = hofZ z d := hofI_eq h.2.2.2.1 d 4 (Nat.le_refl 4)
theorem EqS.hn {z w : St} (h : EqS z w) (hz : StOk z) : hdN w = hdN z := by
  have h7 := hz.1.2.2.2.2.2.2.2
  unfold hdN
  rw [h.1, fcnt_eq (D := z.2.2.1) (E := w.2.2.1) (fun d hd => by rw [h.2.2.1 d (by omega)]), fcnt_eq (D := z.2.2.1) (E := w.2.2.1) (fun d hd => by rw [h.2.2.1 d (by omega)])]
theorem EqS.qu {z w : St} (h : EqS z w) : quZ w = quZ z := by
  obtain ⟨a1, a2, a3, a4, a5⟩ := h
  unfold quZ quietI
  rw [a5, hcnt_eq a4 4 (Nat.le_refl 4)]
theorem EqS.siz {z w : St} (h : EqS z w) (hz : StOk z) (bk : Int) : sizV w bk = sizV z bk := by
  have h7 := hz.1.2.2.2.2.2.2.2
  obtain ⟨a1, a2, a3, a4, a5⟩ := h
  have hf : ∀ f : Int, fcnt w.2.2.1 f (z.1 7).toNat = fcnt z.2.2.1 f (z.1 7).toNat := fun f => fcnt_eq (fun d hd => by rw [a3 d (by omega)])
  unfold sizV
  rw [a1, a5, hcnt_eq a4 4 (Nat.le_refl 4), hf, hf, hf, hf]
theorem siz_bk (z : St) (a b : Int) {k : Nat} (hk : k < 15) : sizV z a k = sizV z b k := by
  obtain ⟨l, hl, e⟩ : ∃ l : List Int, l.length = 15 ∧ ∀ c : Int, sizV z c = vec (l ++ [c]) := ⟨[z.1 6, z.1 7, z.1 0, z.1 1, z.1 2, z.1 3, z.1 4, z.1 5, totQ z.2.2.2.2.2.1 6, (z.2.2.2.2.2.2.1.length : Int) - ansL z.2.2.2.2.2.2.1, ansL z.2.2.2.2.2.2.1, hcnt z.2.2.2.1 4, fcnt z.2.2.1 0 (z.1 7).toNat, fcnt z.2.2.1 1 (z.1 7).toNat + fcnt z.2.2.1 2 (z.1 7).toNat, fcnt z.2.2.1 3 (z.1 7).toNat], rfl, fun _ => rfl⟩
  rw [e a, e b]
  unfold vec
  show (l ++ [a]).getD k 0 = (l ++ [b]).getD k 0
  rw [List.getD_eq_getElem?_getD, List.getD_eq_getElem?_getD, List.getElem?_append_left (by omega), List.getElem?_append_left (by omega)]
theorem EqS.lnk {z w : St} (h : EqS z w) {k : Nat} (hk : (k : Int) < z.1 6) : lnkV w k = lnkV z k := by
  unfold lnkV
  rw [h.2.1 k hk, h.2.2.2.2]
theorem EqS.dat {z w : St} (h : EqS z w) {d : Nat} (hd : (d : Int) < z.1 7) : datV w d = datV z d := by
  unfold datV
  rw [h.2.2.1 d hd, h.2.2.2.2]
theorem hof_in (z : St) (d : Nat) : -1 ≤ hofZ z d ∧ hofZ z d < 4 := by
  have q := hofI_in z.2.2.2.1 d 4
  have q2 : hofZ z d = hofI z.2.2.2.1 d 4 := rfl
  omega
theorem EqS.hep {z w : St} (h : EqS z w) (d k : Nat) : hepV w d k = hepV z d k := by
  have hi := hof_in z d
  unfold hepV
  rw [h.hof d]
  by_cases e : hofZ z d = -1
  · rw [if_pos e, if_pos e]
  · rw [if_neg e, if_neg e, h.2.2.2.1 (hofZ z d).toNat (by omega), h.2.2.2.2]
theorem EqS.hby {z w : St} (h : EqS z w) (d : Nat) (x : Int) : hbyV w d x = hbyV z d x := by
  unfold hbyV
  rw [h.hof d, h.2.2.2.2]
theorem EqS.pak {z w : St} (h : EqS z w) (hz : StOk z) {i : Nat} (hi : i < totQ z.2.2.2.2.2.1 6) : pakV w i = pakV z i := by
  obtain ⟨a, b, c, d⟩ := pktX_in (P := z.2.2.2.2.2.1) (ix := i) hi
  have hx := (hz.2.2.2.2.1 _ (by omega) _ d).2
  have hm : moreI w.2.2.1 (pktX z.2.2.2.2.2.1 i) = moreI z.2.2.1 (pktX z.2.2.2.2.2.1 i) := by
    unfold moreI
    by_cases e : (pktX z.2.2.2.2.2.1 i).2.1 < 0
    · rw [if_pos e, if_pos e]
    · rw [if_neg e, if_neg e, h.2.2.1 (pktX z.2.2.2.2.2.1 i).2.1.toNat (by omega)]
  have hf : firmI w.2.2.1 (pktX z.2.2.2.2.2.1 i).2.1 = firmI z.2.2.1 (pktX z.2.2.2.2.2.1 i).2.1 := by
    unfold firmI
    by_cases e : (pktX z.2.2.2.2.2.1 i).2.1 < 0
    · rw [if_pos e, if_pos e]
    · rw [if_neg e, if_neg e, h.2.2.1 (pktX z.2.2.2.2.2.1 i).2.1.toNat (by omega)]
  unfold pakV pktV
  rw [h.2.2.2.2, hm, hf]
theorem EqS.sum {z w : St} (h : EqS z w) (hz : StOk z) (a b : Int) : sumF w a = sumF z b := by
  have h6 := hz.1.2.2.2.2.2.2.1
  have h7 := hz.1.2.2.2.2.2.2.2
  have e1 : sumA w a = sumA z b := itN_eq (fun k hk c => by rw [h.siz hz, siz_bk z a b hk])
  have e2 : sumB w a = sumB z b := by
    unfold sumB
    rw [e1, h.2.2.2.2]
  have e3 : sumC w a = sumC z b := by
    unfold sumC
    rw [e2, h.1]
    refine itN_eq (fun k hk c => ?_)
    unfold smL
    rw [h.lnk (by omega)]
  have e4 : sumD w a = sumD z b := by
    unfold sumD
    rw [e3, h.1]
    refine itN_eq (fun d hd c => ?_)
    unfold smD smD2 smD1
    rw [h.dat (by omega), itN_eq (f := fun k a => h31 a (hepV w d k)) (g := fun k a => h31 a (hepV z d k)) (fun k _ c => by rw [h.hep]), itN_eq (f := fun k a => h31 a (hbyV w d ((7 * k : Nat) : Int))) (g := fun k a => h31 a (hbyV z d ((7 * k : Nat) : Int))) (fun k _ c => by rw [h.hby])]
  unfold sumF
  rw [e4, h.2.2.2.2]
  refine itN_eq (fun i hi c => ?_)
  unfold smP
  rw [h.pak hz (by omega)]
