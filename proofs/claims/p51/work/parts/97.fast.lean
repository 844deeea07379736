/-! what stands fast of a state, tick by tick -/
def ryOf (z : St) : RY := (z.2.2.1, z.2.2.2.1, z.2.2.2.2.1, z.2.2.2.2.2.2.2)
def KI (hon : Bool) (T : Int) (z : St) : Prop := LnI T z ∧ RI hon (z.1 0) (z.1 7) 4 (ryOf z) ∧ (hon = true → z.2.2.2.2.2.2.2 10 = 0) ∧ (∀ d : Nat, (d : Int) < z.1 7 → 1 ≤ z.2.2.1 d 3) ∧ z.2.2.2.2.2.2.2 5 ≤ z.2.2.2.2.2.2.2 12 + z.2.2.2.2.2.2.2 10 ∧ z.2.2.2.2.2.2.2 10 ≤ T
theorem KI.recv {hon : Bool} {T : Int} {z : St} (h : KI hon T z) (hOK : StOk z) {d o nb : Nat} {fill il : Int} (hd : (d : Int) < z.1 7) (hnb : 1 ≤ nb) (hla : o + nb ≤ 1192) (hil : il = 0 ∨ il = 1) (hfl : -1 ≤ fill ∧ fill ≤ 255) (hh : hon = true → fill = -1 ∧ ((o + nb : Nat) : Int) ≤ z.2.2.1 d 0 ∧ il = (if ((o + nb : Nat) : Int) < z.2.2.1 d 0 then 0 else 1)) (h5 : z.2.2.2.2.2.2.2 5 + 1 ≤ z.2.2.2.2.2.2.2 12 + z.2.2.2.2.2.2.2 10) :
    KI hon T (z.1, z.2.1, (recvF z.1 d o nb fill il (ryOf z)).1, (recvF z.1 d o nb fill il (ryOf z)).2.1, (recvF z.1 d o nb fill il (ryOf z)).2.2.1, z.2.2.2.2.2.1, z.2.2.2.2.2.2.1, (recvF z.1 d o nb fill il (ryOf z)).2.2.2) := by
  obtain ⟨h1, h2, h3, h4, h6, h7⟩ := h
  obtain ⟨r1, r2, r3⟩ := recvF_A z.1 d o nb fill il (ryOf z)
  have r10 := r1 10 (by decide) (by decide) (by decide) (by decide)
  have r12 := r1 12 (by decide) (by decide) (by decide) (by decide)
  have r2 : (recvF z.1 d o nb fill il (ryOf z)).2.2.2 5 = z.2.2.2.2.2.2.2 5 + 1 := r2
  have r10 : (recvF z.1 d o nb fill il (ryOf z)).2.2.2 10 = z.2.2.2.2.2.2.2 10 := r10
  have r12 : (recvF z.1 d o nb fill il (ryOf z)).2.2.2 12 = z.2.2.2.2.2.2.2 12 := r12
  have hs := recvF_same z.1 d o nb fill il (ryOf z)
  refine ⟨h1.recv, h2.recv hOK.1.1 hd hnb hla hil hfl hh, fun q => ?_, fun e he => ?_, ?_, ?_⟩
  · show (recvF z.1 d o nb fill il (ryOf z)).2.2.2 10 = 0
    rw [r10]; exact h3 q
  · show 1 ≤ (recvF z.1 d o nb fill il (ryOf z)).1 e 3
    rw [hs.1 e 3 (by decide)]; exact h4 e he
  · show (recvF z.1 d o nb fill il (ryOf z)).2.2.2 5 ≤ (recvF z.1 d o nb fill il (ryOf z)).2.2.2 12 + (recvF z.1 d o nb fill il (ryOf z)).2.2.2 10
    omega
  · show (recvF z.1 d o nb fill il (ryOf z)).2.2.2 10 ≤ T
    omega
theorem KI.step {hon : Bool} {T : Int} {z : St} (h : KI hon T z) (hOK : StOk z) {k : Nat} (hk : (k : Int) < z.1 6) (hP : z.2.2.2.2.2.1 k ≠ []) : KI hon T (stepM k z) := by
  have hL := (h.1.step hOK hk hP).1
  have h6 := hOK.1.2.2.2.2.2.2.1
  have hin := hd_in hOK (k := k) (by omega) hP
  have hpop : KI hon T (popZ k z) := by
    obtain ⟨h1, h2, h3, h4, h6, h7⟩ := h
    refine ⟨h1.pop (by omega) hP, h2.acc rfl, h3, h4, ?_, h7⟩
    show z.2.2.2.2.2.2.2 5 ≤ z.2.2.2.2.2.2.2 12 + 1 + z.2.2.2.2.2.2.2 10
    omega
  unfold stepM at hL ⊢
  by_cases e : (k : Int) + 1 < z.1 6
  · rw [if_pos e] at hL ⊢
    have hl := hOK.2.1 (k + 1) (by omega)
    obtain ⟨r, h1, h2, h3⟩ := putK_Dl (t := z.1 0) (k := k + 1) (by omega) (wh := (hdP (z.2.2.2.2.2.1 k)).2.1) (fi := firmI z.2.2.1 (hdP (z.2.2.2.2.2.1 k)).2.1) (og := (hdP (z.2.2.2.2.2.1 k)).2.2.1) (bt := (hdP (z.2.2.2.2.2.1 k)).2.2.2) (y := (z.2.1, updL z.2.2.2.2.2.1 k (z.2.2.2.2.2.1 k).tail, z.2.2.2.2.2.2.1, upz z.2.2.2.2.2.2.2 12 (z.2.2.2.2.2.2.2 12 + 1))) hl.1 hin.2
    obtain ⟨-, -, -, hi, -⟩ := h2
    have i5 := hi 5 (Or.inl rfl)
    have i10 := hi 10 (Or.inr (Or.inr (Or.inr (Or.inl rfl))))
    have i11 := hi 11 (Or.inr (Or.inr (Or.inr (Or.inr (Or.inl rfl)))))
    have i12 := hi 12 (Or.inr (Or.inr (Or.inr (Or.inr (Or.inr rfl)))))
    obtain ⟨p1, p2, p3, p4, p5, p6⟩ := hpop
    refine ⟨hL, p2.acc i11, fun q => i10.trans (p3 q), p4, ?_, ?_⟩
    · exact (show _ ≤ _ from by rw [i5, i12, i10]; exact p5)
    · exact (show _ ≤ _ from by rw [i10]; exact p6)
  · rw [if_neg e] at hL ⊢
    by_cases e2 : (hdP (z.2.2.2.2.2.1 k)).2.1 = -1
    · rw [if_pos e2]
      exact ⟨hpop.1, hpop.2.1, hpop.2.2.1, hpop.2.2.2.1, hpop.2.2.2.2.1, hpop.2.2.2.2.2⟩
    · rw [if_neg e2]
      rcases hin.1.2 with ⟨q, -⟩ | ⟨q1, q2, q3, q4, q5⟩
      · exact absurd q e2
      · obtain ⟨w, hw⟩ : ∃ w : Nat, (hdP (z.2.2.2.2.2.1 k)).2.1 = w := ⟨(hdP (z.2.2.2.2.2.1 k)).2.1.toNat, by omega⟩
        have hlen := (hOK.2.2.1 w (by omega)).1
        have hw2 : (hdP (z.2.2.2.2.2.1 k)).2.1.toNat = w := by omega
        rw [hw2] at q5
        have hsum : (((hdP (z.2.2.2.2.2.1 k)).2.2.1.toNat + ((hdP (z.2.2.2.2.2.1 k)).2.2.2 - 20).toNat : Nat) : Int) = (hdP (z.2.2.2.2.2.1 k)).2.2.1 + (hdP (z.2.2.2.2.2.1 k)).2.2.2 - 20 := by omega
        have hlb : lastB z.2.2.1 (hdP (z.2.2.2.2.2.1 k)) = if (hdP (z.2.2.2.2.2.1 k)).2.2.1 + (hdP (z.2.2.2.2.2.1 k)).2.2.2 - 20 < z.2.2.1 w 0 then 0 else 1 := by unfold lastB; rw [hw2]
        rw [hw2]
        have h5 := h.2.2.2.2.1
        exact hpop.recv (o := (hdP (z.2.2.2.2.2.1 k)).2.2.1.toNat) (nb := ((hdP (z.2.2.2.2.2.1 k)).2.2.2 - 20).toNat) (fill := -1) (il := lastB z.2.2.1 (hdP (z.2.2.2.2.2.1 k))) ⟨hOK.1, hOK.2.1, hOK.2.2.1, hOK.2.2.2.1, hOK.2.2.2.2.1.tail k, hOK.2.2.2.2.2⟩ (by show (w : Int) < z.1 7; omega) (by omega) (by omega) (by rw [hlb]; split; (· exact Or.inl rfl); (· exact Or.inr rfl)) (by decide) (fun _ => ⟨rfl, by rw [hsum]; exact q5, by rw [hsum, hlb]; rfl⟩) (by show z.2.2.2.2.2.2.2 5 + 1 ≤ z.2.2.2.2.2.2.2 12 + 1 + z.2.2.2.2.2.2.2 10; omega)
theorem KI.ag0 {hon : Bool} {T : Int} {z : St} (h1 : LnI T z) (h2 : RI hon (z.1 0) (z.1 7) 4 (ryOf z)) (h33 : hon = true → z.2.2.2.2.2.2.2 10 = 0) (h6 : z.2.2.2.2.2.2.2 5 ≤ z.2.2.2.2.2.2.2 12 + z.2.2.2.2.2.2.2 10) (h7 : z.2.2.2.2.2.2.2 10 ≤ T) (hOK : StOk z) {d : Nat} (h4 : ∀ e : Nat, e ≠ d → (e : Int) < z.1 7 → 1 ≤ z.2.2.1 e 3) (hd : (d : Int) < z.1 7) (h3 : z.2.2.1 d 3 + 1 ≤ T) (hT : 3 ≤ T) (hT2 : T < 1000000) : KI hon T (ofHx z (agF d (hxOf z))) := by
  obtain ⟨g1, g2, g3, g4⟩ := h1.ag hOK hd h3 hT hT2
  obtain ⟨a1, a2, a3⟩ := agF_ok hOK.hx hd
  have a2 : ∀ j : Nat, j ≠ 3 → j ≠ 5 → (agF d (hxOf z)).1 j = z.1 j := a2
  have a3 : ∀ e j : Nat, j ≠ 3 → (agF d (hxOf z)).2.2.1 e j = z.2.2.1 e j := a3
  have hk := hOK.hx.tok hd
  obtain ⟨⟨hD, -⟩, -⟩ := TD.ofTrans 5 d hk (by show 0 ≤ z.2.2.1 d 3 ∧ z.2.2.1 d 3 < 1000000; have := h1.2.2 d hd; omega)
  obtain ⟨-, -, -, hi, -⟩ := hD
  have i5 : (agF d (hxOf z)).2.2.2.2 5 = z.2.2.2.2.2.2.2 5 := hi 5 (Or.inl rfl)
  have i10 : (agF d (hxOf z)).2.2.2.2 10 = z.2.2.2.2.2.2.2 10 := hi 10 (Or.inr (Or.inr (Or.inr (Or.inl rfl))))
  have i11 : (agF d (hxOf z)).2.2.2.2 11 = z.2.2.2.2.2.2.2 11 := hi 11 (Or.inr (Or.inr (Or.inr (Or.inr (Or.inl rfl)))))
  have i12 : (agF d (hxOf z)).2.2.2.2 12 = z.2.2.2.2.2.2.2 12 := hi 12 (Or.inr (Or.inr (Or.inr (Or.inr (Or.inr rfl)))))
  refine ⟨g1, ?_, fun q => i10.trans (h33 q), fun e he => ?_, ?_, ?_⟩
  · show RI hon ((agF d (hxOf z)).1 0) ((agF d (hxOf z)).1 7) 4 ((agF d (hxOf z)).2.2.1, z.2.2.2.1, z.2.2.2.2.1, (agF d (hxOf z)).2.2.2.2)
    rw [a2 0 (by decide) (by decide), a2 7 (by decide) (by decide)]
    exact (h2.col (Dg := (agF d (hxOf z)).2.2.1) a3).acc i11
  · have he : (e : Int) < (agF d (hxOf z)).1 7 := he
    rw [a2 7 (by decide) (by decide)] at he
    by_cases q : e = d
    · rw [q]; have := h1.2.2 d hd; omega
    · rw [g4 e q]; exact h4 e q he
  · show (agF d (hxOf z)).2.2.2.2 5 ≤ (agF d (hxOf z)).2.2.2.2 12 + (agF d (hxOf z)).2.2.2.2 10
    omega
  · show (agF d (hxOf z)).2.2.2.2 10 ≤ T
    omega
theorem KI.ag {hon : Bool} {T : Int} {z : St} (h : KI hon T z) (hOK : StOk z) {d : Nat} (hd : (d : Int) < z.1 7) (h3 : z.2.2.1 d 3 + 1 ≤ T) (hT : 3 ≤ T) (hT2 : T < 1000000) : KI hon T (ofHx z (agF d (hxOf z))) := KI.ag0 h.1 h.2.1 h.2.2.1 h.2.2.2.2.1 h.2.2.2.2.2 hOK (fun e _ he => h.2.2.2.1 e he) hd h3 hT hT2
theorem KI.tk {hon : Bool} {T : Int} (hT : 3 ≤ T) (hT2 : T < 1000000) : TkI (KI hon T) := by
  have hL := LnI.tk hT hT2
  refine ⟨fun z hOK h => ?_, fun z k hOK hk hd h => h.step hOK hk (dueB_ne hd), fun z b hOK hb h => ?_, fun z x hOK hx h1 h2 h => ?_, fun z d hOK hd hf ht h => ?_, fun z L hOK hL h => h, fun z n hOK hn h0 h => ?_⟩
  · obtain ⟨h1, h2, h3, h4, h6, h7⟩ := h
    refine ⟨hL.1 z hOK h1, ?_, h3, fun d hd => h4 d ?_, h6, h7⟩
    · show RI hon (upz z.1 0 (z.1 0 + 1) 0) (upz z.1 0 (z.1 0 + 1) 7) 4 (ryOf z)
      rw [upz_k, upz_ne _ _ (by decide)]
      exact h2.late (by omega)
    · have hd : (d : Int) < upz z.1 0 (z.1 0 + 1) 7 := hd
      rw [upz_ne _ _ (by decide)] at hd; exact hd
  · obtain ⟨h1, h2, h3, h4, h6, h7⟩ := h
    refine ⟨hL.2.2.1 z b hOK hb h1, ?_, h3, fun d hd => h4 d ?_, h6, h7⟩
    · show RI hon (upz z.1 4 (max (z.1 4) b) 0) (upz z.1 4 (max (z.1 4) b) 7) 4 _
      rw [upz_ne _ _ (by decide), upz_ne _ _ (by decide)]
      exact h2.acc (y := ryOf z) rfl
    · have hd : (d : Int) < upz z.1 4 (max (z.1 4) b) 7 := hd
      rw [upz_ne _ _ (by decide)] at hd; exact hd
  · have hg : ∀ j : Nat, j ≠ 3 → j ≠ 5 → noteG x.2.1 x.2.2 z.1 j = z.1 j := fun j a b => noteG_j _ _ _ a b
    have hl2 := hL.2.2.2.1 z x hOK hx h1 h2 h.1
    obtain ⟨-, h22, h3, h4, h6, h7⟩ := h
    refine ⟨hl2, ?_, h3, fun d hd => h4 d ?_, h6, h7⟩
    · show RI hon (noteG x.2.1 x.2.2 z.1 0) (noteG x.2.1 x.2.2 z.1 7) 4 _
      rw [hg 0 (by decide) (by decide), hg 7 (by decide) (by decide)]
      exact h22.acc (y := ryOf z) rfl
    · have hd : (d : Int) < noteG x.2.1 x.2.2 z.1 7 := hd
      rw [hg 7 (by decide) (by decide)] at hd; exact hd
  · have h8 := h.1.2.2 d hd
    have ht := (iI_lt (a := z.2.2.1 d 3) (b := 3) (by omega) (by omega) (by decide) (by decide)).mp ht
    exact h.ag hOK hd (by omega) hT hT2
  · have hl2 := hL.2.2.2.2.2.2 z n hOK hn h0 h.1
    obtain ⟨-, h22, h3, h4, h6, h7⟩ := h
    obtain ⟨w, hw⟩ : ∃ w : Nat, z.2.2.2.1 n 0 = w := ⟨(z.2.2.2.1 n 0).toNat, by have := (hOK.2.2.2.1 n hn).1; omega⟩
    have hc := h22.close hOK.1.1 hn hw (x := 3) (c := 1) (Or.inr (Or.inr rfl)) ⟨fun _ => by decide, fun _ => rfl⟩ (by decide) (fun _ => by decide) (r := upz (z.2.2.2.1 n) 0 (-1)) (upz_k _ _ _) (z.2.2.2.2.1 n) (A' := z.2.2.2.2.2.2.2) (by rw [if_neg (by decide)]; show z.2.2.2.2.2.2.2 11 + 0 ≤ _; omega) (by rw [if_pos rfl]; show _ ≤ z.2.2.2.2.2.2.2 11 + 0; omega) (k' := 4) (fun _ _ q => q)
    have hV : setR z.2.2.2.2.1 n (z.2.2.2.2.1 n) = z.2.2.2.2.1 := by
      funext a
      by_cases q : a = n
      · rw [q, setR_k]
      · rw [setR_ne _ _ q]
    refine ⟨hl2, ?_, h3, fun d hd => ?_, h6, h7⟩
    · show RI hon (z.1 0) (z.1 7) 4 (setR z.2.2.1 (z.2.2.2.1 n 0).toNat (closeR (z.2.2.1 (z.2.2.2.1 n 0).toNat) 3 (z.1 0) 1), setR z.2.2.2.1 n (upz (z.2.2.2.1 n) 0 (-1)), z.2.2.2.2.1, z.2.2.2.2.2.2.2)
      rw [hw, Int.toNat_natCast]
      have hc : RI hon (z.1 0) (z.1 7) 4 (setR z.2.2.1 w (closeR (z.2.2.1 w) 3 (z.1 0) 1), setR z.2.2.2.1 n (upz (z.2.2.2.1 n) 0 (-1)), setR z.2.2.2.2.1 n (z.2.2.2.2.1 n), z.2.2.2.2.2.2.2) := hc
      rw [hV] at hc
      exact hc
    · show 1 ≤ setR z.2.2.1 (z.2.2.2.1 n 0).toNat _ d 3
      by_cases q : d = (z.2.2.2.1 n 0).toNat
      · rw [q, setR_k, closeR_j _ _ _ _ (by decide), ← q]; exact h4 d hd
      · rw [setR_ne _ _ q]; exact h4 d hd
/-! how many packets are carried -/
def trS (Dg : Nat → Nat → Int) : Nat → Int
  | 0 => 0
  | n + 1 => trS Dg n + Dg n 3
theorem trS_eq {D E : Nat → Nat → Int} {n : Nat} (h : ∀ d : Nat, d < n → E d 3 = D d 3) : trS E n = trS D n := by
  induction n with
  | zero => rfl
  | succ n ih =>
    show trS E n + E n 3 = trS D n + D n 3
    rw [ih (fun d hd => h d (by omega)), h n (by omega)]
theorem trS_set (D : Nat → Nat → Int) {d n : Nat} {E : Nat → Nat → Int} (hE : ∀ e : Nat, e ≠ d → E e = D e) (h : d < n) : trS E n = trS D n + (E d 3 - D d 3) := by
  induction n with
  | zero => omega
  | succ n ih =>
    show trS E n + E n 3 = trS D n + D n 3 + (E d 3 - D d 3)
    by_cases e : n = d
    · subst e
      rw [trS_eq (D := D) (E := E) (fun i hi => by rw [hE i (by omega)])]; omega
    · rw [hE n e, ih (by omega)]; omega
def phi (z : St) : Int := z.2.2.2.2.2.2.2 0 - 36000 * trS z.2.2.1 (z.1 7).toNat
theorem stepM_tr (k : Nat) (z : St) : trS (stepM k z).2.2.1 (z.1 7).toNat = trS z.2.2.1 (z.1 7).toNat := by
  refine trS_eq (fun d _ => ?_)
  unfold stepM
  split
  · rfl
  · split
    · rfl
    · exact (recvF_same _ _ _ _ _ _ _).1 d 3 (by decide)
theorem moveF_phi {T : Int} {n k : Nat} {z : St} (hOK : StOk z) (h : LnI T z) (hk : (k : Int) < z.1 6) : phi (moveF n k z) ≤ phi z + 188 * n := by
  induction n generalizing z with
  | zero => show phi z ≤ phi z + 188 * ((0 : Nat) : Int); omega
  | succ n ih =>
    show phi (if dueB (z.2.2.2.2.2.1 k) (z.1 0) = 1 then moveF n k (stepM k z) else z) ≤ _
    by_cases e : dueB (z.2.2.2.2.2.1 k) (z.1 0) = 1
    · rw [if_pos e]
      have hne := dueB_ne e
      obtain ⟨a, b⟩ := h.step hOK hk hne
      have hg := stepM_g k z
      have h1 := ih (stepM_ok hOK hk hne) a (by rw [hg]; exact hk)
      have h2 : phi (stepM k z) ≤ phi z + 188 := by
        unfold phi
        rw [hg, stepM_tr]; omega
      omega
    · rw [if_neg e]; omega
theorem moveA_phi {T : Int} (hT : 3 ≤ T) (hT2 : T < 1000000) {n : Nat} {z : St} (hOK : StOk z) (h : LnI T z) (hn : (n : Int) ≤ z.1 6) : phi (moveA n z) ≤ phi z + 56400 * n := by
  induction n with
  | zero => show phi z ≤ phi z + 56400 * ((0 : Nat) : Int); omega
  | succ n ih =>
    obtain ⟨a, b⟩ := moveA_ok (n := n) hOK (by omega)
    have hl := (LnI.tk hT hT2).mvA (n := n) hOK (by omega) h
    have h1 := ih (by omega)
    have h2 := moveF_phi (n := 300) (k := n) a hl (by rw [b]; omega)
    show phi (moveF 300 n (moveA n z)) ≤ _
    omega
theorem phi_hr {T C : Int} (hT : 3 ≤ T) (hT2 : T < 1000000) : HrI (fun z => LnI T z ∧ phi z ≤ C) := by
  have hI := (LnI.tk hT hT2).hI
  refine ⟨fun z b hOK hb h => ⟨hI.1 z b hOK hb h.1, ?_⟩, fun z x hOK hx h1 h2 h => ⟨hI.2.1 z x hOK hx h1 h2 h.1, ?_⟩, fun z d hOK hd hf ht h => ⟨hI.2.2.1 z d hOK hd hf ht h.1, ?_⟩, fun z L hOK hL h => h⟩
  · show z.2.2.2.2.2.2.2 0 - 36000 * trS z.2.2.1 (upz z.1 4 (max (z.1 4) b) 7).toNat ≤ C
    rw [upz_ne _ _ (by decide)]; exact h.2
  · show z.2.2.2.2.2.2.2 0 - 36000 * trS z.2.2.1 (noteG x.2.1 x.2.2 z.1 7).toNat ≤ C
    rw [noteG_j _ _ _ (by decide) (by decide)]; exact h.2
  · have h8 := h.1.2.2 d hd
    have ht := (iI_lt (a := z.2.2.1 d 3) (b := 3) (by omega) (by omega) (by decide) (by decide)).mp ht
    obtain ⟨g1, g2, g3, g4⟩ := h.1.ag hOK hd (by omega) hT hT2
    have g7 := (agF_ok hOK.hx hd).2.1 7 (by decide) (by decide)
    have g7 : (ofHx z (agF d (hxOf z))).1 7 = z.1 7 := g7
    have h2 : z.2.2.2.2.2.2.2 0 - 36000 * trS z.2.2.1 (z.1 7).toNat ≤ C := h.2
    show (ofHx z (agF d (hxOf z))).2.2.2.2.2.2.2 0 - 36000 * trS (ofHx z (agF d (hxOf z))).2.2.1 ((ofHx z (agF d (hxOf z))).1 7).toNat ≤ C
    rw [g7, trS_set z.2.2.1 (E := (ofHx z (agF d (hxOf z))).2.2.1) (d := d) g4 (by omega)]
    omega
theorem ageF_A (n : Nat) (z : St) : (ageF n z).2.2.2.2.2.2.2 = z.2.2.2.2.2.2.2 ∧ ∀ d : Nat, (ageF n z).2.2.1 d 3 = z.2.2.1 d 3 := by
  induction n with
  | zero => exact ⟨rfl, fun _ => rfl⟩
  | succ n ih =>
    unfold ageF
    split
    · refine ⟨ih.1, fun d => ?_⟩
      rw [← ih.2 d]
      show setR (ageF n z).2.2.1 ((ageF n z).2.2.2.1 n 0).toNat _ d 3 = _
      by_cases q : d = ((ageF n z).2.2.2.1 n 0).toNat
      · rw [q, setR_k, closeR_j _ _ _ _ (by decide)]
      · rw [setR_ne _ _ q]
    · exact ih
theorem tick_phi {T : Int} (hT : 3 ≤ T) (hT2 : T < 1000000) {z : St} (hOK : StOk z) (h : LnI T z) : phi (tickF z) ≤ phi z + 338400 := by
  have h1 := t0F_ok hOK
  have h6 := hOK.1.2.2.2.2.2.2.1
  have hn : (((z.1 6).toNat : Nat) : Int) ≤ (t0F z).1 6 := by show _ ≤ upz z.1 0 (z.1 0 + 1) 6; rw [upz_ne _ _ (by decide)]; omega
  have h2 := moveA_ok (n := (z.1 6).toNat) h1 hn
  have hl0 := (LnI.tk hT hT2).1 z hOK h
  have hl := (LnI.tk hT hT2).mvA (n := (z.1 6).toNat) h1 hn hl0
  have a1 := moveA_phi hT hT2 (n := (z.1 6).toNat) h1 hl0 hn
  have a0 : phi (t0F z) = phi z := by
    show z.2.2.2.2.2.2.2 0 - 36000 * trS z.2.2.1 (upz z.1 0 (z.1 0 + 1) 7).toNat = _
    rw [upz_ne _ _ (by decide)]; rfl
  have a2 := ((phi_hr (C := phi (moveA (z.1 6).toNat (t0F z))) hT hT2).hr h2.1 ⟨hl, Int.le_refl _⟩).2
  obtain ⟨b1, b2⟩ := ageF_A 4 (hearF (moveA (z.1 6).toNat (t0F z)))
  have b3 := (ageF_P 4 (hearF (moveA (z.1 6).toNat (t0F z)))).2
  have a3 : phi (tickF z) = phi (hearF (moveA (z.1 6).toNat (t0F z))) := by
    show (ageF 4 (hearF (moveA (z.1 6).toNat (t0F z)))).2.2.2.2.2.2.2 0 - 36000 * trS (ageF 4 (hearF (moveA (z.1 6).toNat (t0F z)))).2.2.1 ((ageF 4 (hearF (moveA (z.1 6).toNat (t0F z)))).1 7).toNat = _
    rw [b1, b3, trS_eq (fun d _ => b2 d)]; rfl
  omega
