/-! the acts keep what stands fast -/
theorem LnI.up {T U : Int} {z : St} (h : LnI T z) (hT : T ≤ U) : LnI U z := ⟨h.1, h.2.1, fun d hd => by have := h.2.2 d hd; omega⟩
theorem KI.up {hon : Bool} {T U : Int} {z : St} (h : KI hon T z) (hT : T ≤ U) : KI hon U z := ⟨h.1.up hT, h.2.1, h.2.2.1, h.2.2.2.1, h.2.2.2.2.1, Int.le_trans h.2.2.2.2.2 hT⟩
theorem LnI.g {T : Int} {z : St} (h : LnI T z) {g : Nat → Int} (h0 : g 0 = z.1 0) (h6 : g 6 = z.1 6) (h7 : g 7 = z.1 7) : LnI T (g, z.2) := by
  refine ⟨?_, ?_, fun d hd => h.2.2 d ?_⟩
  · show AcQ (g 6).toNat _ _ _
    rw [h6]; exact h.1
  · show PoQ (g 0) _ _
    rw [h0]; exact h.2.1
  · have hd : (d : Int) < g 7 := hd
    rw [h7] at hd; exact hd
theorem KI.g {hon : Bool} {T : Int} {z : St} (h : KI hon T z) {g : Nat → Int} (h0 : g 0 = z.1 0) (h6 : g 6 = z.1 6) (h7 : g 7 = z.1 7) : KI hon T (g, z.2) := by
  refine ⟨h.1.g h0 h6 h7, ?_, h.2.2.1, fun d hd => h.2.2.2.1 d ?_, h.2.2.2.2.1, h.2.2.2.2.2⟩
  · show RI hon (g 0) (g 7) 4 (ryOf z)
    rw [h0, h7]; exact h.2.1
  · have hd : (d : Int) < g 7 := hd
    rw [h7] at hd; exact hd
theorem KI.lk {hon : Bool} {T : Int} {z : St} (h : KI hon T z) {L : Nat → Nat → Int} (hL : ∀ i c : Nat, c ≠ 0 → c ≠ 2 → L i c = z.2.1 i c) : KI hon T (z.1, L, z.2.2) := by
  obtain ⟨⟨⟨⟨s3, s4, s5, s6⟩, hA⟩, hPo, hTr⟩, hK⟩ := h
  refine ⟨⟨⟨⟨?_, ?_, ?_, ?_⟩, hA⟩, fun k hk => ⟨(hPo k hk).1, fun p hp => ?_⟩, hTr⟩, hK⟩
  · rw [← s3]; exact lsum_eq (fun i _ => hL i 3 (by decide) (by decide))
  · rw [← s4]; exact lsum_eq (fun i _ => hL i 4 (by decide) (by decide))
  · rw [← s5]; exact lsum_eq (fun i _ => hL i 5 (by decide) (by decide))
  · rw [← s6]; exact lsum_eq (fun i _ => hL i 6 (by decide) (by decide))
  · show p.1 ≤ z.1 0 + L k 1
    rw [hL k 1 (by decide) (by decide)]; exact (hPo k hk).2 p hp
theorem phi_ag {T : Int} {z : St} (h : LnI T z) (hOK : StOk z) {d : Nat} (hd : (d : Int) < z.1 7) (h3 : z.2.2.1 d 3 + 1 ≤ T) (hT : 3 ≤ T) (hT2 : T < 1000000) : phi (ofHx z (agF d (hxOf z))) ≤ phi z := by
  obtain ⟨g1, g2, g3, g4⟩ := h.ag hOK hd h3 hT hT2
  have g7 := (agF_ok hOK.hx hd).2.1 7 (by decide) (by decide)
  have g7 : (ofHx z (agF d (hxOf z))).1 7 = z.1 7 := g7
  unfold phi
  rw [g7, trS_set z.2.2.1 (E := (ofHx z (agF d (hxOf z))).2.2.1) (d := d) g4 (by omega)]
  omega
def IV (hon : Bool) (T : Int) (z : St) : Prop := StOk z ∧ KI hon T z ∧ PoL z ∧ phi z ≤ 338400 * z.1 0 + 200 * T ∧ z.1 7 ≤ T ∧ 3 ≤ T ∧ T ≤ 100
theorem IV.up {hon : Bool} {T U : Int} {z : St} (h : IV hon T z) (hT : T ≤ U) (hU : U ≤ 100) : IV hon U z := by
  obtain ⟨a, b, c, d, e, f, g⟩ := h
  exact ⟨a, b.up hT, c, by omega, by omega, by omega, hU⟩
theorem IV.g {hon : Bool} {T : Int} {z : St} (h : IV hon T z) {g : Nat → Int} (h0 : g 0 = z.1 0) (h6 : g 6 = z.1 6) (h7 : g 7 = z.1 7) (hOK : StOk (g, z.2)) : IV hon T (g, z.2) := by
  obtain ⟨a, b, c, d, e, f, g2⟩ := h
  refine ⟨hOK, b.g h0 h6 h7, fun k hk p hp => ?_, ?_, ?_, f, g2⟩
  · show g 0 < p.1
    rw [h0]; exact c k hk p hp
  · show z.2.2.2.2.2.2.2 0 - 36000 * trS z.2.2.1 (g 7).toNat ≤ 338400 * g 0 + 200 * T
    rw [h0, h7]; exact d
  · show g 7 ≤ T
    rw [h7]; exact e
theorem IV.life {hon : Bool} {T v : Int} {z : St} (h : IV hon T z) (hv : 1 ≤ v ∧ v ≤ 200) : IV hon T (lifeF v z) := h.g (upz_ne _ _ (by decide)) (upz_ne _ _ (by decide)) (upz_ne _ _ (by decide)) (lifeF_ok h.1 hv)
theorem IV.poli {hon : Bool} {T v : Int} {z : St} (h : IV hon T z) (hv : 0 ≤ v ∧ v ≤ 2) : IV hon T (poliF v z) := h.g (upz_ne _ _ (by decide)) (upz_ne _ _ (by decide)) (upz_ne _ _ (by decide)) (poliF_ok h.1 hv)
theorem IV.forg {hon : Bool} {T : Int} {z : St} (h : IV hon T z) : IV hon T (forgF z) := by
  have e : ∀ j : Nat, j ≠ 3 → j ≠ 4 → j ≠ 5 → upz (upz (upz z.1 3 (z.2.1 0 0)) 4 27) 5 (-1) j = z.1 j := fun j a b c => by rw [upz_ne _ _ c, upz_ne _ _ b, upz_ne _ _ a]
  exact h.g (e 0 (by decide) (by decide) (by decide)) (e 6 (by decide) (by decide) (by decide)) (e 7 (by decide) (by decide) (by decide)) (forgF_ok h.1)
theorem IV.link {hon : Bool} {T v : Int} {z : St} {k j : Nat} (h : IV hon T z) (hv : (j = 0 ∧ 28 ≤ v ∧ v ≤ 1500) ∨ (j = 2 ∧ 0 ≤ v ∧ v ≤ 99)) : IV hon T (linkF k j v z) := by
  obtain ⟨a, b, c, d, e⟩ := h
  refine ⟨linkF_ok a hv, b.lk (fun i m h0 h2 => ?_), c, d, e⟩
  by_cases q : i = k
  · rw [q, setR_k, upz_ne _ _ (by omega)]
  · rw [setR_ne _ _ q]
theorem IV.prob {hon : Bool} {T b : Int} {z : St} (h : IV hon T z) (hb : 28 ≤ b ∧ b ≤ 1500) (hT : T + 1 ≤ 100) : IV hon (T + 1) (probF b z) := by
  obtain ⟨hOK, hK, hP, hp, h7, hT3, hT1⟩ := h
  obtain ⟨o1, o2⟩ := probF_ok hOK hb
  have hl := hOK.2.1 0 (by have := hOK.1.2.2.2.2.2.2.1; show (0 : Int) < z.1 6; omega)
  have h6 := hOK.1.2.2.2.2.2.2.1
  obtain ⟨hD, hA⟩ := putPr_Dl (bt := b) (y := (z.1, z.2.1 0, z.2.2.2.2.2.1, z.2.2.2.2.2.2.2)) hl.1.1 hl.1.2 (by omega)
  obtain ⟨q, hq⟩ : ∃ q : PX, putPr b (z.1, z.2.1 0, z.2.2.2.2.2.1, z.2.2.2.2.2.2.2) = q := ⟨_, rfl⟩
  have he : probF b z = (q.1, setR z.2.1 0 q.2.1, z.2.2.1, z.2.2.2.1, z.2.2.2.2.1, q.2.2.1, z.2.2.2.2.2.2.1, q.2.2.2) := by rw [← hq]; rfl
  rw [hq] at hD hA
  rw [he] at o1 o2 ⊢
  have hD : Dl (z.1 0) 0 (z.2.1 0, z.2.2.2.2.2.1, z.2.2.2.2.2.2.2) (q.2.1, q.2.2.1, q.2.2.2) := hD
  have hA : q.2.2.2 0 ≤ z.2.2.2.2.2.2.2 0 + 188 := hA
  have g0 : q.1 0 = z.1 0 := o2 0 (by decide) (by decide)
  have g6 : q.1 6 = z.1 6 := o2 6 (by decide) (by decide)
  have g7 : q.1 7 = z.1 7 := o2 7 (by decide) (by decide)
  have hD2 := hD
  obtain ⟨-, -, -, hi, -, -, l, hl1, hl2⟩ := hD2
  have i5 : q.2.2.2 5 = z.2.2.2.2.2.2.2 5 := hi 5 (Or.inl rfl)
  have i10 : q.2.2.2 10 = z.2.2.2.2.2.2.2 10 := hi 10 (Or.inr (Or.inr (Or.inr (Or.inl rfl))))
  have i11 : q.2.2.2 11 = z.2.2.2.2.2.2.2 11 := hi 11 (Or.inr (Or.inr (Or.inr (Or.inr (Or.inl rfl)))))
  have i12 : q.2.2.2 12 = z.2.2.2.2.2.2.2 12 := hi 12 (Or.inr (Or.inr (Or.inr (Or.inr (Or.inr rfl)))))
  have hl1 : ∀ p ∈ l, p.1 = z.1 0 + z.2.1 0 1 := hl1
  have hl2 : q.2.2.1 = updL z.2.2.2.2.2.1 0 (z.2.2.2.2.2.1 0 ++ l) := hl2
  obtain ⟨k1, k2, k3, k4, k5, k6⟩ := hK
  refine ⟨o1, ⟨⟨?_, ?_, fun d hd => ?_⟩, ?_, fun w => i10.trans (k3 w), fun d hd => ?_, ?_, ?_⟩, fun k hk p hp => ?_, ?_, ?_, by omega, hT⟩
  · show AcQ (q.1 6).toNat _ _ _
    rw [g6]; exact k1.1.dl (k := 0) (by omega) hD
  · show PoQ (q.1 0) _ _
    rw [g0]; exact k1.2.1.dl (k := 0) hD
  · have hd : (d : Int) < q.1 7 := hd
    rw [g7] at hd
    have := k1.2.2 d hd
    show 0 ≤ z.2.2.1 d 3 ∧ z.2.2.1 d 3 ≤ T + 1
    omega
  · show RI hon (q.1 0) (q.1 7) 4 (z.2.2.1, z.2.2.2.1, z.2.2.2.2.1, q.2.2.2)
    rw [g0, g7]; exact k2.acc i11
  · have hd : (d : Int) < q.1 7 := hd
    rw [g7] at hd; exact k4 d hd
  · show q.2.2.2 5 ≤ q.2.2.2 12 + q.2.2.2 10
    omega
  · show q.2.2.2 10 ≤ T + 1
    omega
  · show q.1 0 < p.1
    rw [g0]
    have hp : p ∈ q.2.2.1 k := hp
    rw [hl2] at hp
    by_cases e : k = 0
    · rw [e, updL_k] at hp
      rcases List.mem_append.mp hp with w | w
      · exact hP 0 (by decide) p w
      · rw [hl1 p w]; omega
    · rw [updL_ne _ _ e] at hp; exact hP k hk p hp
  · show q.2.2.2 0 - 36000 * trS z.2.2.1 (q.1 7).toNat ≤ 338400 * q.1 0 + 200 * (T + 1)
    rw [g7, g0]
    unfold phi at hp
    omega
  · show q.1 7 ≤ T + 1
    rw [g7]; omega
theorem IV.again {hon : Bool} {T : Int} {z : St} (h : IV hon T z) {d : Nat} (hd : (d : Int) < z.1 7) (hT : T + 1 ≤ 100) : IV hon (T + 1) (againF d z) := by
  obtain ⟨hOK, hK, hP, hp, h7, hT3, hT1⟩ := h
  obtain ⟨o1, o2⟩ := againF_ok hOK hd
  have k1 := (hK.1.2.2 d hd).2
  have hK2 := (hK.up (U := T + 1) (by omega)).ag hOK hd (by omega) (by omega) (by omega)
  have hph := phi_ag (hK.1.up (U := T + 1) (by omega)) hOK hd (by omega) (by omega) (by omega)
  have e0 : (ofHx z (agF d (hxOf z))).1 0 = z.1 0 := o2 0 (by decide) (by decide)
  have e7 : (ofHx z (agF d (hxOf z))).1 7 = z.1 7 := o2 7 (by decide) (by decide)
  refine ⟨o1, hK2, hP.ag hK.1 hOK hd (by omega), ?_, ?_, by omega, hT⟩
  · show phi (ofHx z (agF d (hxOf z))) ≤ 338400 * (ofHx z (agF d (hxOf z))).1 0 + 200 * (T + 1)
    rw [e0]; omega
  · show (ofHx z (agF d (hxOf z))).1 7 ≤ T + 1
    rw [e7]; omega
theorem RI.new {hon : Bool} {t : Int} {m : Nat} {y : RY} (h : RI hon t m 4 y) (ht : 0 ≤ t) {len sd fi : Int} (h1 : 1 ≤ len ∧ len ≤ 1000) : RI hon t ((m : Int) + 1) 4 (setR y.1 m (dgNew len sd fi t), y.2) := by
  have hm : ((m : Int) + 1).toNat = m + 1 := by omega
  have hm2 : ((m : Nat) : Int).toNat = m := by omega
  refine ⟨fun d hd => ?_, h.2.1, fun i hi => ?_, ?_⟩
  · dsimp only
    by_cases e : d = m
    · rw [e, setR_k]
      exact ⟨⟨h1, ⟨by show (0 : Int) ≤ 0; omega, by show (0 : Int) ≤ 3; omega⟩⟩, ⟨⟨fun _ => by show (-1 : Int) < 0; omega, fun _ => rfl⟩, ⟨by show (-1 : Int) ≤ -1; omega, by show (-1 : Int) ≤ t; omega⟩, ⟨fun q => absurd q (by show ¬ (0 : Int) = 3; decide), fun q => absurd q (by show ¬ (0 : Int) < 0; decide)⟩, ⟨by show (0 : Int) ≤ 0; omega, by show (0 : Int) ≤ 10; omega⟩⟩, fun q => absurd rfl q, fun _ => ⟨by show (0 : Int) ≠ 2; decide, by show (0 : Int) ≤ 2; decide⟩⟩
    · rw [setR_ne _ _ e]; exact h.1 d (by omega)
  · obtain ⟨a, b⟩ := h.2.2.1 i hi
    refine ⟨by dsimp only; omega, fun q => ?_⟩
    obtain ⟨b1, b2, b3⟩ := b q
    have q2 : y.2.1 i 0 ≠ -1 := q
    refine ⟨b1, b2, fun w => ?_⟩
    dsimp only
    rw [setR_ne _ _ (show (y.2.1 i 0).toNat ≠ m by omega)]
    exact b3 w
  · dsimp only
    obtain ⟨a, b⟩ := h.2.2.2
    rw [hm2] at a b
    rw [hm]
    unfold hndD at b ⊢
    have e1 : bytD (setR y.1 m (dgNew len sd fi t)) (m + 1) = bytD y.1 m := by
      show bytD (setR y.1 m (dgNew len sd fi t)) m + (if setR y.1 m (dgNew len sd fi t) m 5 = 1 then _ else 0) = _
      rw [bytD_eq (D := y.1) (E := setR y.1 m (dgNew len sd fi t)) (fun d hd => by rw [setR_ne _ _ (by omega)]; exact ⟨rfl, rfl⟩), setR_k]
      exact Int.add_zero _
    have e2 : ∀ f : Int, f ≠ 0 → fcnt (setR y.1 m (dgNew len sd fi t)) f (m + 1) = fcnt y.1 f m := fun f hf => by
      show fcnt (setR y.1 m (dgNew len sd fi t)) f m + (if setR y.1 m (dgNew len sd fi t) m 5 = f then 1 else 0) = _
      rw [fcnt_eq (D := y.1) (E := setR y.1 m (dgNew len sd fi t)) (fun d hd => by rw [setR_ne _ _ (by omega)]), setR_k, if_neg (by show ¬ (0 : Int) = f; omega)]
      exact Int.add_zero _
    rw [e1, e2 1 (by decide), e2 2 (by decide)]
    exact ⟨a, b⟩
theorem IV.send {hon : Bool} {T : Int} {z : St} (h : IV hon T z) {n : Nat} {len sd fi : Int} (hn : z.1 7 = n) (h40 : n < 40) (h1 : 1 ≤ len ∧ len ≤ 1000) (h2 : 0 ≤ sd ∧ sd ≤ 255) (h3 : fi = 0 ∨ fi = 1) (hT : T + 1 ≤ 100) : IV hon (T + 1) (sendF n len sd fi z) := by
  obtain ⟨hOK, hK, hP, hp, h7, hT3, hT1⟩ := h
  obtain ⟨o1, o2, o3⟩ := sendF_ok hOK hn h40 h1 h2 h3
  obtain ⟨s1, s2, s3⟩ := sndP_ok hOK.hx hn h40 h1 h2 h3
  obtain ⟨y, hy⟩ : ∃ y : St, y = ofHx z (sndP n len sd fi (hxOf z)) := ⟨_, rfl⟩
  have hy1 : y.1 = upz z.1 7 (z.1 7 + 1) := by rw [hy]; rfl
  have hy0 : y.1 0 = z.1 0 := by rw [hy1, upz_ne _ _ (by decide)]
  have hy6 : y.1 6 = z.1 6 := by rw [hy1, upz_ne _ _ (by decide)]
  have hy7 : y.1 7 = (n : Int) + 1 := by rw [hy1, upz_k, hn]
  have hyD : y.2.2.1 = setR z.2.2.1 n (dgNew len sd fi (z.1 0)) := by rw [hy]; rfl
  have hse : sendF n len sd fi z = ofHx y (agF n (hxOf y)) := by rw [hy]; rfl
  have hOKy : StOk y := by
    have e : y = (upz z.1 7 (z.1 7 + 1), z.2.1, setR z.2.2.1 n (dgNew len sd fi (z.1 0)), z.2.2.2.1, z.2.2.2.2.1, z.2.2.2.2.2.1, z.2.2.2.2.2.2.1, z.2.2.2.2.2.2.2) := by rw [hy]; rfl
    obtain ⟨c1, c2, c3, c4⟩ := s1
    rw [e]
    refine ⟨c1, c2, c3, fun i hi => ?_, c4, fun x hx => ?_⟩
    · have q := hOK.2.2.2.1 i hi
      show (-1 ≤ z.2.2.2.1 i 0 ∧ z.2.2.2.1 i 0 < upz z.1 7 (z.1 7 + 1) 7) ∧ 0 ≤ z.2.2.2.1 i 1 ∧ z.2.2.2.1 i 1 ≤ upz z.1 7 (z.1 7 + 1) 0
      rw [upz_k, upz_ne _ _ (by decide)]; omega
    · have q := hOK.2.2.2.2.2 x hx
      unfold NtI at q ⊢
      show (0 ≤ x.1 ∧ x.1 ≤ upz z.1 7 (z.1 7 + 1) 0 + 300) ∧ (_ ∨ (_ ∧ (_ ∨ (0 ≤ x.2.2 ∧ x.2.2 < upz z.1 7 (z.1 7 + 1) 7))))
      rw [upz_k, upz_ne _ _ (by decide)]; omega
  obtain ⟨k1, k2, k3, k4, k5, k6⟩ := hK
  have hLn : LnI (T + 1) y := by
    have e : y.2.1 = z.2.1 ∧ y.2.2.2.2.2.1 = z.2.2.2.2.2.1 ∧ y.2.2.2.2.2.2.2 = z.2.2.2.2.2.2.2 := by rw [hy]; exact ⟨rfl, rfl, rfl⟩
    refine ⟨?_, ?_, fun d hd => ?_⟩
    · rw [e.1, e.2.1, e.2.2, hy6]; exact k1.1
    · rw [e.1, e.2.1, hy0]; exact k1.2.1
    · rw [hyD]
      by_cases q : d = n
      · rw [q, setR_k]
        show (0 : Int) ≤ 0 ∧ (0 : Int) ≤ T + 1
        omega
      · rw [setR_ne _ _ q]
        have := k1.2.2 d (by omega)
        omega
  have hR : RI hon (y.1 0) (y.1 7) 4 (ryOf y) := by
    have e : ryOf y = (setR z.2.2.1 n (dgNew len sd fi (z.1 0)), (ryOf z).2) := by rw [hy]; rfl
    rw [e, hy0, hy7]
    rw [hn] at k2
    exact k2.new hOK.1.1 h1
  have hA : y.2.2.2.2.2.2.2 = z.2.2.2.2.2.2.2 := by rw [hy]; rfl
  have hPy : PoL y := by
    intro k hk p hp
    have e : y.2.2.2.2.2.1 = z.2.2.2.2.2.1 := by rw [hy]; rfl
    rw [e] at hp
    rw [hy0]; exact hP k hk p hp
  have hn3 : y.2.2.1 n 3 = 0 := by rw [hyD, setR_k]; rfl
  have hny : (n : Int) < y.1 7 := by omega
  have hK2 : KI hon (T + 1) (ofHx y (agF n (hxOf y))) := KI.ag0 hLn hR (fun w => by rw [hA]; exact k3 w) (by rw [hA]; exact k5) (by rw [hA]; omega) hOKy (fun e he1 he2 => by rw [hyD, setR_ne _ _ he1]; exact k4 e (by omega)) hny (by rw [hn3]; omega) (by omega) (by omega)
  have hph := phi_ag hLn hOKy hny (by rw [hn3]; omega) (by omega) (by omega)
  have hphy : phi y = phi z := by
    unfold phi
    rw [hA, hyD, hy7, hn, show ((n : Int) + 1).toNat = n + 1 by omega, show ((n : Nat) : Int).toNat = n by omega]
    have e : trS (setR z.2.2.1 n (dgNew len sd fi (z.1 0))) (n + 1) = trS z.2.2.1 n := by
      show trS (setR z.2.2.1 n (dgNew len sd fi (z.1 0))) n + setR z.2.2.1 n (dgNew len sd fi (z.1 0)) n 3 = _
      rw [trS_eq (D := z.2.2.1) (E := setR z.2.2.1 n (dgNew len sd fi (z.1 0))) (fun d hd => by rw [setR_ne _ _ (by omega)]), setR_k]
      exact Int.add_zero _
    rw [e]
  have e0 := o3 0 (by decide) (by decide) (by decide)
  rw [hse] at o1 o2 e0 ⊢
  refine ⟨o1, hK2, hPy.ag hLn hOKy hny (by omega), ?_, ?_, by omega, hT⟩
  · rw [e0]; omega
  · rw [o2]; omega
theorem IV.fake {T : Int} {z : St} (h : IV false T z) {d ofs nb : Nat} {fill il : Int} (hd : (d : Int) < z.1 7) (hnb : 1 ≤ nb) (hla : ofs + nb ≤ 1192) (hil : il = 0 ∨ il = 1) (hfl : -1 ≤ fill ∧ fill ≤ 255) (hT : T + 1 ≤ 100) : IV false (T + 1) (fakeF d ofs nb fill il z) := by
  obtain ⟨hOK, hK, hP, hp, h7, hT3, hT1⟩ := h
  obtain ⟨k1, k2, k3, k4, k5, k6⟩ := hK
  have o1 := fakeF_ok (ofs := ofs) (nb := nb) (fill := fill) (il := il) hOK hd
  obtain ⟨y, hy⟩ : ∃ y : RY, y = (z.2.2.1, z.2.2.2.1, z.2.2.2.2.1, upz z.2.2.2.2.2.2.2 10 (z.2.2.2.2.2.2.2 10 + 1)) := ⟨_, rfl⟩
  have hyA : y.2.2.2 = upz z.2.2.2.2.2.2.2 10 (z.2.2.2.2.2.2.2 10 + 1) := by rw [hy]
  have hyD : y.1 = z.2.2.1 := by rw [hy]
  have hRy : RI false (z.1 0) (z.1 7) 4 y := by rw [hy]; exact k2.acc rfl
  have hR := hRy.recv (g := z.1) (d := d) (o := ofs) (nb := nb) (fill := fill) (il := il) hOK.1.1 hd hnb hla hil hfl (fun w => absurd w (by decide))
  obtain ⟨r1, r5, r6⟩ := recvF_A z.1 d ofs nb fill il y
  have hs := (recvF_same z.1 d ofs nb fill il y).1
  obtain ⟨q, hq⟩ : ∃ q : RY, recvF z.1 d ofs nb fill il y = q := ⟨_, rfl⟩
  have he : fakeF d ofs nb fill il z = (z.1, z.2.1, q.1, q.2.1, q.2.2.1, z.2.2.2.2.2.1, z.2.2.2.2.2.2.1, q.2.2.2) := by rw [← hq, hy]; rfl
  rw [hq] at hR r1 r5 r6 hs
  rw [he] at o1 ⊢
  rw [hyA] at r1 r5 r6
  have c : ∀ i : Nat, i ≠ 5 → i ≠ 6 → i ≠ 7 → i ≠ 11 → i ≠ 10 → q.2.2.2 i = z.2.2.2.2.2.2.2 i := fun i a b c' d' e' => by rw [r1 i a b c' d', upz_ne _ _ e']
  have c10 : q.2.2.2 10 = z.2.2.2.2.2.2.2 10 + 1 := by rw [r1 10 (by decide) (by decide) (by decide) (by decide), upz_k]
  have c5 : q.2.2.2 5 = z.2.2.2.2.2.2.2 5 + 1 := by rw [r5, upz_ne _ _ (by decide)]
  have c6 : q.2.2.2 6 = z.2.2.2.2.2.2.2 6 ∨ q.2.2.2 6 = z.2.2.2.2.2.2.2 6 + 1 := by rw [upz_ne _ _ (by decide)] at r6; exact r6
  have c0 := c 0 (by decide) (by decide) (by decide) (by decide) (by decide)
  have c12 := c 12 (by decide) (by decide) (by decide) (by decide) (by decide)
  obtain ⟨b1, b2, b3, b4, b5, b6, b7, b8, b9⟩ := k1.1
  have hcol : ∀ e : Nat, q.1 e 3 = z.2.2.1 e 3 := fun e => by rw [hs e 3 (by decide), hyD]
  refine ⟨o1, ⟨⟨k1.1.acc ⟨c0, c 1 (by decide) (by decide) (by decide) (by decide) (by decide), c 2 (by decide) (by decide) (by decide) (by decide) (by decide), c 3 (by decide) (by decide) (by decide) (by decide) (by decide), c 4 (by decide) (by decide) (by decide) (by decide) (by decide), c12⟩ (by show 0 ≤ q.2.2.2 6 ∧ q.2.2.2 6 ≤ q.2.2.2 5 ∧ 0 ≤ q.2.2.2 10 ∧ q.2.2.2 10 ≤ q.2.2.2 5; omega), k1.2.1, fun e he => ?_⟩, hR, fun w => absurd w (by decide), fun e he => ?_, ?_, ?_⟩, hP, ?_, ?_, by omega, hT⟩
  · show 0 ≤ q.1 e 3 ∧ q.1 e 3 ≤ T + 1
    rw [hcol]
    have := k1.2.2 e he
    omega
  · show 1 ≤ q.1 e 3
    rw [hcol]; exact k4 e he
  · show q.2.2.2 5 ≤ q.2.2.2 12 + q.2.2.2 10
    omega
  · show q.2.2.2 10 ≤ T + 1
    omega
  · show q.2.2.2 0 - 36000 * trS q.1 (z.1 7).toNat ≤ 338400 * z.1 0 + 200 * (T + 1)
    rw [c0, trS_eq (D := z.2.2.1) (E := q.1) (fun e _ => hcol e)]
    unfold phi at hp
    omega
  · show z.1 7 ≤ T + 1
    omega
theorem IV.tick {hon : Bool} {T : Int} {z : St} (h : IV hon T z) : IV hon T (tickF z) := by
  obtain ⟨hOK, hK, hP, hp, h7, hT3, hT1⟩ := h
  obtain ⟨o1, o2⟩ := tickF_ok hOK
  have o7 := (tickN_ok (n := 1) hOK).2.2
  have o7 : (tickF z).1 7 = z.1 7 := o7
  have t := tick_phi hT3 (by omega) hOK hK.1
  exact ⟨o1, (KI.tk hT3 (by omega)).tick hOK hK, PoL.tick hT3 (by omega) hOK hK.1, by rw [o2]; omega, by rw [o7]; exact h7, hT3, hT1⟩
theorem IV.ticks {hon : Bool} {T : Int} (n : Nat) {z : St} (h : IV hon T z) : IV hon T (tickN n z) := by
  induction n generalizing z with
  | zero => exact h
  | succ n ih => exact ih h.tick
theorem trS_le {Dg : Nat → Nat → Int} {n : Nat} (h : ∀ d : Nat, d < n → Dg d 3 ≤ 20) : trS Dg n ≤ 20 * n := by
  induction n with
  | zero => exact Int.le_refl _
  | succ n ih =>
    have h1 := ih (fun d hd => h d (by omega))
    have h2 := h n (by omega)
    show trS Dg n + Dg n 3 ≤ 20 * ((n + 1 : Nat) : Int)
    omega
theorem IV.cnt {hon : Bool} {T : Int} {z : St} (h : IV hon T z) (hT : T ≤ 20) (h0 : z.1 0 ≤ 2000) : CntOk z := by
  obtain ⟨hOK, hK, hP, hp, h7, hT3, hT1⟩ := h
  have h70 := hOK.1.2.2.2.2.2.2.2
  refine CntOk_of hOK hK hP (by omega) (by omega) ?_
  have t := trS_le (Dg := z.2.2.1) (n := (z.1 7).toNat) (fun d hd => by have := hK.1.2.2 d (by omega); omega)
  unfold phi at hp
  omega
theorem IV.hon {T : Int} {z : St} (h : IV true T z) : (∀ d : Nat, (d : Int) < z.1 7 → z.2.2.1 d 5 ≠ 2 ∧ 0 ≤ z.2.2.1 d 7 ∧ z.2.2.1 d 7 ≤ 2) ∧ z.2.2.2.2.2.2.2 10 = 0 := by
  obtain ⟨hOK, hK, -⟩ := h
  refine ⟨fun d hd => ?_, hK.2.2.1 rfl⟩
  obtain ⟨-, ⟨-, -, -, a4⟩, -, a⟩ := hK.2.1.1 d hd
  have a4 : 0 ≤ z.2.2.1 d 7 ∧ z.2.2.1 d 7 ≤ 10 := a4
  obtain ⟨b1, b2⟩ := a rfl
  exact ⟨b1, a4.1, b2⟩
