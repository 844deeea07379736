/-! in what order packets stand -/
theorem ltot_3 (z : St) (n : Nat) : ltot z 3 n = lsum z.2.1 3 n ∧ ltot z 5 n = lsum z.2.1 4 n ∧ ltot z 6 n = lsum z.2.1 5 n ∧ ltot z 7 n = lsum z.2.1 6 n ∧ ltot z 4 n = totQ z.2.2.2.2.2.1 n := by
  induction n with
  | zero => exact ⟨rfl, rfl, rfl, rfl, rfl⟩
  | succ n ih =>
    obtain ⟨a, b, c, d, e⟩ := ih
    refine ⟨?_, ?_, ?_, ?_, ?_⟩
    · show ltot z 3 n + z.2.1 n 3 = lsum z.2.1 3 n + z.2.1 n 3; rw [a]
    · show ltot z 5 n + z.2.1 n 4 = lsum z.2.1 4 n + z.2.1 n 4; rw [b]
    · show ltot z 6 n + z.2.1 n 5 = lsum z.2.1 5 n + z.2.1 n 5; rw [c]
    · show ltot z 7 n + z.2.1 n 6 = lsum z.2.1 6 n + z.2.1 n 6; rw [d]
    · show ltot z 4 n + ((z.2.2.2.2.2.1 n).length : Int) = ((totQ z.2.2.2.2.2.1 n + (z.2.2.2.2.2.1 n).length : Nat) : Int); rw [e]; omega
theorem totQ_pad {P : Nat → List Pkt} {n m : Nat} (h : ∀ k : Nat, n ≤ k → k < m → P k = []) (hn : n ≤ m) : totQ P m = totQ P n := by
  induction m with
  | zero => rw [show n = 0 by omega]
  | succ m ih =>
    by_cases e : n = m + 1
    · rw [e]
    · show totQ P m + (P m).length = totQ P n
      rw [ih (fun k a b => h k a (by omega)) (by omega), h m (by omega) (by omega)]; rfl
theorem soo_min (Q : Nat → List Pkt) (n : Nat) : sooP Q n ≠ -1 → ∀ k : Nat, k < n → Q k ≠ [] → (hdP (Q (sooP Q n).toNat)).1 ≤ (hdP (Q k)).1 := by
  induction n with
  | zero => intro h; exact absurd rfl h
  | succ n ih =>
    intro h k hk hq
    have hin := sooP_in Q n
    unfold sooP at h ⊢
    by_cases e : Q n = []
    · rw [if_pos e] at h ⊢
      by_cases e2 : k = n
      · rw [e2] at hq; exact absurd e hq
      · exact ih h k (by omega) hq
    · rw [if_neg e] at h ⊢
      by_cases e3 : sooP Q n = -1 ∨ (hdP (Q n)).1 < (hdP (Q (sooP Q n).toNat)).1
      · rw [if_pos e3, Int.toNat_natCast]
        by_cases e2 : k = n
        · rw [e2]; exact Int.le_refl _
        · rcases e3 with q | q
          · exact absurd (hin.2.2.2 q k (by omega)) hq
          · by_cases q2 : sooP Q n = -1
            · exact absurd (hin.2.2.2 q2 k (by omega)) hq
            · have := ih q2 k (by omega) hq; omega
      · rw [if_neg e3]
        by_cases e2 : k = n
        · rw [e2]; omega
        · exact ih (fun q => e3 (Or.inl q)) k (by omega) hq
def SrtQ (Q : Nat → List Pkt) : Prop := ∀ k : Nat, k < 6 → (Q k).Pairwise (fun a b => a.1 ≤ b.1)
theorem SrtQ.step {Q : Nat → List Pkt} (h : SrtQ Q) : SrtQ (stepQ Q) := by
  unfold stepQ
  by_cases e : sooP Q 6 = -1
  · rw [if_pos e]; exact h
  · rw [if_neg e]
    intro k hk
    by_cases q : k = (sooP Q 6).toNat
    · rw [← q, updL_k]; exact (h k hk).sublist (List.tail_sublist _)
    · rw [updL_ne _ _ q]; exact h k hk
theorem SrtQ.nth {Q : Nat → List Pkt} (h : SrtQ Q) (n : Nat) : SrtQ (nthQ Q n) := by
  induction n with
  | zero => exact h
  | succ n ih => exact ih.step
theorem hd_tail {l : List Pkt} (h : l.Pairwise (fun a b => a.1 ≤ b.1)) (h2 : l.tail ≠ []) : (hdP l).1 ≤ (hdP l.tail).1 := by
  cases l with
  | nil => exact absurd rfl h2
  | cons x t => exact (List.pairwise_cons.mp h).1 _ (hdP_mem h2)
theorem SrtQ.min {Q : Nat → List Pkt} (h : SrtQ Q) (h1 : sooP Q 6 ≠ -1) (h2 : sooP (stepQ Q) 6 ≠ -1) : (hdP (Q (sooP Q 6).toNat)).1 ≤ (hdP (stepQ Q (sooP (stepQ Q) 6).toNat)).1 := by
  obtain ⟨i, hi⟩ : ∃ i : Nat, (sooP (stepQ Q) 6).toNat = i := ⟨_, rfl⟩
  have hin := sooP_in (stepQ Q) 6
  have hi6 : i < 6 := by omega
  have hne := hin.2.2.1 h2
  rw [hi] at hne ⊢
  have hs : stepQ Q = updL Q (sooP Q 6).toNat (Q (sooP Q 6).toNat).tail := if_neg h1
  rw [hs] at hne ⊢
  by_cases q : i = (sooP Q 6).toNat
  · rw [← q] at hne ⊢
    rw [updL_k] at hne ⊢
    exact hd_tail (h i hi6) hne
  · rw [updL_ne _ _ q] at hne ⊢
    exact soo_min Q 6 h1 i hi6 hne
theorem pak_min {z : St} (h : ∀ k : Nat, k < 6 → (z.2.2.2.2.2.1 k).Pairwise (fun a b => a.1 ≤ b.1)) {k : Nat} (h1 : 1 ≤ k) (h2 : k < totQ z.2.2.2.2.2.1 6) : pakV z (k - 1) 1 ≤ pakV z k 1 := by
  obtain ⟨m, rfl⟩ : ∃ m : Nat, k = m + 1 := ⟨k - 1, by omega⟩
  have ha := pktX_in (P := z.2.2.2.2.2.1) (ix := m) (by omega)
  have hb := pktX_in (P := z.2.2.2.2.2.1) (ix := m + 1) h2
  exact (SrtQ.nth (Q := z.2.2.2.2.2.1) h m).min ha.1 hb.1
theorem pak_late {z : St} (h : ∀ k : Nat, k < 6 → ∀ p ∈ z.2.2.2.2.2.1 k, z.1 0 < p.1) {k : Nat} (h2 : k < totQ z.2.2.2.2.2.1 6) : z.1 0 < pakV z k 1 := by
  obtain ⟨a, b, c, d⟩ := pktX_in (P := z.2.2.2.2.2.1) (ix := k) h2
  exact h _ (by omega) _ d
/-! behind a tick every packet is still on its way -/
def PoL (z : St) : Prop := ∀ k : Nat, k < 6 → ∀ p ∈ z.2.2.2.2.2.1 k, z.1 0 < p.1
theorem stepM_P {z : St} (hOK : StOk z) {k : Nat} (hk : (k : Int) < z.1 6) (hP : z.2.2.2.2.2.1 k ≠ []) : (∀ j : Nat, j ≠ k → j ≠ k + 1 → (stepM k z).2.2.2.2.2.1 j = z.2.2.2.2.2.1 j) ∧ (stepM k z).2.2.2.2.2.1 k = (z.2.2.2.2.2.1 k).tail := by
  have h6 := hOK.1.2.2.2.2.2.2.1
  have hin := hd_in hOK (k := k) (by omega) hP
  unfold stepM
  by_cases e : (k : Int) + 1 < z.1 6
  · rw [if_pos e]
    have hl := hOK.2.1 (k + 1) (by omega)
    obtain ⟨r, h1, h2, h3⟩ := putK_Dl (t := z.1 0) (k := k + 1) (by omega) (wh := (hdP (z.2.2.2.2.2.1 k)).2.1) (fi := firmI z.2.2.1 (hdP (z.2.2.2.2.2.1 k)).2.1) (og := (hdP (z.2.2.2.2.2.1 k)).2.2.1) (bt := (hdP (z.2.2.2.2.2.1 k)).2.2.2) (y := (z.2.1, updL z.2.2.2.2.2.1 k (z.2.2.2.2.2.1 k).tail, z.2.2.2.2.2.2.1, upz z.2.2.2.2.2.2.2 12 (z.2.2.2.2.2.2.2 12 + 1))) hl.1 hin.2
    obtain ⟨-, -, -, -, -, -, l, -, hl2⟩ := h2
    have hl2 : (putK (z.1 0) (k + 1) (hdP (z.2.2.2.2.2.1 k)).2.1 (firmI z.2.2.1 (hdP (z.2.2.2.2.2.1 k)).2.1) (hdP (z.2.2.2.2.2.1 k)).2.2.1 (hdP (z.2.2.2.2.2.1 k)).2.2.2 (z.2.1, updL z.2.2.2.2.2.1 k (z.2.2.2.2.2.1 k).tail, z.2.2.2.2.2.2.1, upz z.2.2.2.2.2.2.2 12 (z.2.2.2.2.2.2.2 12 + 1))).2.1 = updL (updL z.2.2.2.2.2.1 k (z.2.2.2.2.2.1 k).tail) (k + 1) (updL z.2.2.2.2.2.1 k (z.2.2.2.2.2.1 k).tail (k + 1) ++ l) := hl2
    refine ⟨fun j h1 h2 => ?_, ?_⟩
    · show (putK _ _ _ _ _ _ _).2.1 j = _
      rw [hl2, updL_ne _ _ h2, updL_ne _ _ h1]
    · show (putK _ _ _ _ _ _ _).2.1 k = _
      rw [hl2, updL_ne _ _ (by omega), updL_k]
  · rw [if_neg e]
    by_cases e2 : (hdP (z.2.2.2.2.2.1 k)).2.1 = -1
    · rw [if_pos e2]
      exact ⟨fun j h1 h2 => updL_ne _ _ h1, updL_k _ _ _⟩
    · rw [if_neg e2]
      exact ⟨fun j h1 h2 => updL_ne _ _ h1, updL_k _ _ _⟩
theorem late_all {l : List Pkt} {t : Int} (h : l.Pairwise (fun a b => a.1 ≤ b.1)) (h2 : ¬ dueB l t = 1) : ∀ p ∈ l, t < p.1 := by
  intro p hp
  cases l with
  | nil => exact absurd hp List.not_mem_nil
  | cons x s =>
    unfold dueB at h2
    rw [if_neg (by simp)] at h2
    have hx : t < x.1 := by
      by_cases q : x.1 ≤ t
      · exact absurd (if_pos q) h2
      · omega
    rcases List.mem_cons.mp hp with e | e
    · rw [e]; exact hx
    · have := (List.pairwise_cons.mp h).1 p e; omega
theorem moveF_late {T : Int} {n k : Nat} {z : St} (hOK : StOk z) (h : LnI T z) (hk : (k : Int) < z.1 6) (hn : (z.2.2.2.2.2.1 k).length ≤ n) : (∀ p ∈ (moveF n k z).2.2.2.2.2.1 k, z.1 0 < p.1) ∧ ∀ j : Nat, j < k → (moveF n k z).2.2.2.2.2.1 j = z.2.2.2.2.2.1 j := by
  have h6 := hOK.1.2.2.2.2.2.2.1
  induction n generalizing z with
  | zero =>
    refine ⟨fun p hp => ?_, fun _ _ => rfl⟩
    have hp : p ∈ z.2.2.2.2.2.1 k := hp
    rw [List.eq_nil_of_length_eq_zero (by omega : (z.2.2.2.2.2.1 k).length = 0)] at hp
    exact absurd hp List.not_mem_nil
  | succ n ih =>
    show (∀ p ∈ (if dueB (z.2.2.2.2.2.1 k) (z.1 0) = 1 then moveF n k (stepM k z) else z).2.2.2.2.2.1 k, z.1 0 < p.1) ∧ ∀ j : Nat, j < k → (if dueB (z.2.2.2.2.2.1 k) (z.1 0) = 1 then moveF n k (stepM k z) else z).2.2.2.2.2.1 j = z.2.2.2.2.2.1 j
    by_cases e : dueB (z.2.2.2.2.2.1 k) (z.1 0) = 1
    · rw [if_pos e]
      have hne := dueB_ne e
      obtain ⟨s1, s2⟩ := stepM_P hOK hk hne
      have hg := stepM_g k z
      have hlen : ((stepM k z).2.2.2.2.2.1 k).length ≤ n := by rw [s2, List.length_tail]; omega
      obtain ⟨a, b⟩ := ih (stepM_ok hOK hk hne) (h.step hOK hk hne).1 (by rw [hg]; exact hk) hlen (by rw [hg]; exact h6)
      rw [hg] at a
      exact ⟨a, fun j hj => (b j hj).trans (s1 j (by omega) (by omega))⟩
    · rw [if_neg e]
      exact ⟨late_all (h.2.1 k (by omega)).1 e, fun _ _ => rfl⟩
theorem tot_len (P : Nat → List Pkt) {k n : Nat} (h : k < n) : (P k).length ≤ totQ P n := by
  induction n with
  | zero => omega
  | succ n ih =>
    show (P k).length ≤ totQ P n + (P n).length
    by_cases e : k = n
    · rw [e]; omega
    · have := ih (by omega); omega
theorem moveA_late {T : Int} (hT : 3 ≤ T) (hT2 : T < 1000000) {n : Nat} {z : St} (hOK : StOk z) (h : LnI T z) (hn : (n : Int) ≤ z.1 6) : ∀ k : Nat, k < n → ∀ p ∈ (moveA n z).2.2.2.2.2.1 k, z.1 0 < p.1 := by
  have h6 := hOK.1.2.2.2.2.2.2.1
  induction n with
  | zero => intro k hk; omega
  | succ n ih =>
    obtain ⟨a, b⟩ := moveA_ok (n := n) hOK (by omega)
    have hl := (LnI.tk hT hT2).mvA (n := n) hOK (by omega) h
    have hlen := tot_len (moveA n z).2.2.2.2.2.1 (k := n) (n := 6) (by omega)
    have ht := hl.1.2.2.1
    obtain ⟨c, d⟩ := moveF_late (n := 300) (k := n) a hl (by rw [b]; omega) (by omega)
    rw [b] at c
    intro k hk p hp
    have hp : p ∈ (moveF 300 n (moveA n z)).2.2.2.2.2.1 k := hp
    by_cases e : k = n
    · rw [e] at hp; exact c p hp
    · rw [d k (by omega)] at hp
      exact ih (by omega) k (by omega) p hp
theorem PoL.ag {T : Int} {z : St} (h : PoL z) (hl : LnI T z) (hOK : StOk z) {d : Nat} (hd : (d : Int) < z.1 7) (hT2 : T < 1000000) : PoL (ofHx z (agF d (hxOf z))) := by
  have h6 := hOK.1.2.2.2.2.2.2.1
  have hk := hOK.hx.tok hd
  obtain ⟨⟨hD, -⟩, -⟩ := TD.ofTrans 5 d hk (by show 0 ≤ z.2.2.1 d 3 ∧ z.2.2.1 d 3 < 1000000; have := hl.2.2 d hd; omega)
  obtain ⟨-, -, -, -, -, -, l, h1, h2⟩ := hD
  have hg := (agF_ok hOK.hx hd).2.1 0 (by decide) (by decide)
  have hg : (agF d (hxOf z)).1 0 = z.1 0 := hg
  have h1 : ∀ p ∈ l, p.1 = z.1 0 + z.2.1 0 1 := h1
  have h2 : (agF d (hxOf z)).2.2.2.1 = updL z.2.2.2.2.2.1 0 (z.2.2.2.2.2.1 0 ++ l) := h2
  have h01 := (hOK.2.1 0 (by show (0 : Int) < z.1 6; omega)).2.1
  intro k hk6 p hp
  show (agF d (hxOf z)).1 0 < p.1
  rw [hg]
  have hp : p ∈ (agF d (hxOf z)).2.2.2.1 k := hp
  rw [h2] at hp
  by_cases e : k = 0
  · subst e
    rw [updL_k] at hp
    rcases List.mem_append.mp hp with q | q
    · exact h 0 hk6 p q
    · rw [h1 p q]; omega
  · rw [updL_ne _ _ e] at hp; exact h k hk6 p hp
theorem PoL.hr {T : Int} (hT : 3 ≤ T) (hT2 : T < 1000000) : HrI (fun z => PoL z ∧ LnI T z) := by
  have hI := (LnI.tk hT hT2).hI
  refine ⟨fun z b hOK hb h => ⟨?_, hI.1 z b hOK hb h.2⟩, fun z x hOK hx h1 h2 h => ⟨?_, hI.2.1 z x hOK hx h1 h2 h.2⟩, fun z d hOK hd hf ht h => ⟨h.1.ag h.2 hOK hd hT2, hI.2.2.1 z d hOK hd hf ht h.2⟩, fun z L hOK hL h => ⟨h.1, hI.2.2.2 z L hOK hL h.2⟩⟩
  · intro k hk p hp
    show upz z.1 4 (max (z.1 4) b) 0 < p.1
    rw [upz_ne _ _ (by decide)]; exact h.1 k hk p hp
  · intro k hk p hp
    show noteG x.2.1 x.2.2 z.1 0 < p.1
    rw [noteG_j _ _ _ (by decide) (by decide)]; exact h.1 k hk p hp
theorem ageF_P (n : Nat) (z : St) : (ageF n z).2.2.2.2.2.1 = z.2.2.2.2.2.1 ∧ (ageF n z).1 = z.1 := by
  induction n with
  | zero => exact ⟨rfl, rfl⟩
  | succ n ih =>
    unfold ageF
    split
    · exact ih
    · exact ih
theorem PoL.tick {T : Int} (hT : 3 ≤ T) (hT2 : T < 1000000) {z : St} (hOK : StOk z) (h : LnI T z) : PoL (tickF z) := by
  have h1 := t0F_ok hOK
  have h6 := hOK.1.2.2.2.2.2.2.1
  have hn : (((z.1 6).toNat : Nat) : Int) ≤ (t0F z).1 6 := by show _ ≤ upz z.1 0 (z.1 0 + 1) 6; rw [upz_ne _ _ (by decide)]; omega
  have h2 := moveA_ok (n := (z.1 6).toNat) h1 hn
  have hl0 := (LnI.tk hT hT2).1 z hOK h
  have hl := (LnI.tk hT hT2).mvA (n := (z.1 6).toNat) h1 hn hl0
  have hm := moveA_late hT hT2 (n := (z.1 6).toNat) h1 hl0 hn
  have hp : PoL (moveA (z.1 6).toNat (t0F z)) := by
    intro k hk p hp
    rw [h2.2]
    by_cases e : k < (z.1 6).toNat
    · exact hm k e p hp
    · have he := hl.1.2.2.2.1 k (by rw [h2.2]; show (upz z.1 0 (z.1 0 + 1) 6).toNat ≤ k; rw [upz_ne _ _ (by decide)]; omega) hk
      rw [he] at hp
      exact absurd hp List.not_mem_nil
  have hh := (PoL.hr hT hT2).hr h2.1 ⟨hp, hl⟩
  obtain ⟨ha, hb⟩ := ageF_P 4 (hearF (moveA (z.1 6).toNat (t0F z)))
  intro k hk p hp
  have hp : p ∈ (ageF 4 (hearF (moveA (z.1 6).toNat (t0F z)))).2.2.2.2.2.1 k := hp
  show (ageF 4 (hearF (moveA (z.1 6).toNat (t0F z)))).1 0 < p.1
  rw [ha] at hp
  rw [hb]
  exact hh.1 k hk p hp
