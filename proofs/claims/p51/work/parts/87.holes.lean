/-! the holes of a heap, one after the other -/
def knN (V : Int → Int) : Nat → Int
  | 0 => 0
  | n + 1 => knN V n + knI V n
def HpWell (V : Int → Int) (en kn tp : Int) : Prop := 1 ≤ kn ∧ (0 < tp → V (tp - 1) ≠ -1) ∧ (en ≠ -1 → tp ≤ en ∧ 1 ≤ missI V 0 0 en.toNat)
theorem missA_s (V : Int → Int) (n : Nat) : missI V 0 0 (n + 1) = missI V 0 0 n + (1 - knI V n) := by
  show missI V 0 0 n + (if V n = -1 ∧ ((n : Int) < 0 ∨ (0 : Int) ≤ n) then 1 else 0) = _
  unfold knI
  by_cases h : V n = -1
  · rw [if_pos ⟨h, Or.inr (by omega)⟩, if_pos h]; omega
  · rw [if_neg (fun q => h q.1), if_neg h]; omega
theorem kn_miss (V : Int → Int) (n : Nat) : knN V n + missI V 0 0 n = n := by
  induction n with
  | zero => rfl
  | succ n ih => rw [missA_s]; show knN V n + knI V n + _ = _; omega
theorem knN_kcnt (V : Int → Int) (n : Nat) : kcnt V n = knN V n := by
  induction n with
  | zero => rfl
  | succ n ih => show kcnt V n + _ = knN V n + _; rw [ih]; rfl
theorem knN_le (V : Int → Int) (n : Nat) : 0 ≤ knN V n ∧ knN V n ≤ n := by
  induction n with
  | zero => exact ⟨Int.le_refl _, Int.le_refl _⟩
  | succ n ih => have q := knI_01 V n; show 0 ≤ knN V n + knI V n ∧ knN V n + knI V n ≤ _; omega
theorem knN_ext {V : Int → Int} {N M : Nat} (h : ∀ i : Nat, N ≤ i → V i = -1) (hNM : N ≤ M) : knN V M = knN V N := by
  induction M with
  | zero => rw [show N = 0 by omega]
  | succ M ih =>
    by_cases e : N = M + 1
    · rw [e]
    · show knN V M + knI V M = _
      rw [ih (by omega), knI_0.mpr (h M (by omega))]; omega
theorem missI_none (V : Int → Int) (n : Nat) (h : n ≤ 1000) : missI V 0 1000 n = 0 := by
  induction n with
  | zero => rfl
  | succ n ih =>
    show missI V 0 1000 n + (if V n = -1 ∧ ((n : Int) < 0 ∨ (1000 : Int) ≤ n) then 1 else 0) = 0
    rw [ih (by omega), if_neg (by omega)]; rfl
theorem cntH_mono {V : Int → Int} {i j : Nat} (h : i ≤ j) : cntH V i ≤ cntH V j := by
  induction j with
  | zero => rw [show i = 0 by omega]; exact Int.le_refl _
  | succ j ih =>
    by_cases e : i = j + 1
    · rw [e]; exact Int.le_refl _
    · have h1 := ih (by omega)
      have h2 := hsI_01 V j
      show _ ≤ cntH V j + hsI V j
      omega
theorem hsI_of {V : Int → Int} {i : Nat} (h : V i = -1) (h2 : i = 0 ∨ V ((i : Int) - 1) ≠ -1) : hsI V i = 1 := if_pos ⟨h, h2.imp (fun q => by omega) id⟩
theorem quiet_run {V : Int → Int} {p j : Nat} {h : Int} (hp : cntH V p = h) (hj : cntH V j = h) (h0 : p = 0 ∨ V p ≠ -1 ∨ p = j) (i : Nat) (hi : p ≤ i) (hij : i ≤ j) : missI V 0 0 i = missI V 0 0 p ∧ (i = p ∨ V ((i : Int) - 1) ≠ -1) := by
  induction i with
  | zero => exact ⟨by rw [show p = 0 by omega], Or.inl (by omega)⟩
  | succ i ih =>
    by_cases e : i + 1 = p
    · exact ⟨by rw [e], Or.inl e⟩
    · obtain ⟨a, b⟩ := ih (by omega) (by omega)
      have hk : V i ≠ -1 := by
        intro hv
        have hs : hsI V i = 1 := by
          refine hsI_of hv ?_
          rcases b with b | b
          · rcases h0 with q | q | q
            · exact Or.inl (b.trans q)
            · exact absurd (by rw [← b]; exact hv) q
            · omega
          · exact Or.inr b
        have h1 : cntH V (i + 1) = cntH V i + hsI V i := rfl
        have h2 := cntH_mono (V := V) (show i + 1 ≤ j by omega)
        have h3 := cntH_mono (V := V) (show p ≤ i by omega)
        omega
      refine ⟨?_, Or.inr ?_⟩
      · rw [missA_s, a, show knI V i = 1 from if_neg hk]; omega
      · rw [show ((i + 1 : Nat) : Int) - 1 = i by omega]; exact hk
theorem hole_run {V : Int → Int} {a b : Nat} (hab : a < b) (hv : ∀ j : Nat, a ≤ j → j < b → V j = -1) : cntH V b = cntH V (a + 1) ∧ missI V 0 0 b = missI V 0 0 a + ((b : Int) - a) := by
  induction b with
  | zero => omega
  | succ b ih =>
    by_cases e : a = b
    · refine ⟨by rw [e], ?_⟩
      rw [missA_s, ← e, knI_0.mpr (hv a (Nat.le_refl a) hab)]; omega
    · obtain ⟨h1, h2⟩ := ih (by omega) (fun j h1 h2 => hv j h1 (by omega))
      have hs : hsI V b = 0 := if_neg (fun q => by
        rcases q.2 with q2 | q2
        · omega
        · have h3 := hv (b - 1) (by omega) (by omega)
          rw [show ((b - 1 : Nat) : Int) = (b : Int) - 1 by omega] at h3
          exact q2 h3)
      refine ⟨?_, ?_⟩
      · show cntH V b + hsI V b = _; omega
      · rw [missA_s, h2, knI_0.mpr (hv b (by omega) (by omega))]; omega
theorem hstF_first (V : Int → Int) (ix d : Int) (k i : Nat) : (hstF V ix d k i = d ∧ ∀ j : Nat, i ≤ j → j < i + k → ¬ (hsI V j ≠ 0 ∧ cntH V j = ix)) ∨ ∃ j : Nat, hstF V ix d k i = j ∧ i ≤ j ∧ j < i + k ∧ hsI V j ≠ 0 ∧ cntH V j = ix := by
  induction k generalizing i with
  | zero => exact Or.inl ⟨rfl, fun j h1 h2 => by omega⟩
  | succ k ih =>
    unfold hstF
    by_cases h : hsI V i ≠ 0 ∧ cntH V i = ix
    · rw [if_pos h]; exact Or.inr ⟨i, rfl, Nat.le_refl i, by omega, h.1, h.2⟩
    · rw [if_neg h]
      rcases ih (i + 1) with ⟨a, b⟩ | ⟨j, a, b, c, e⟩
      · refine Or.inl ⟨a, fun j h1 h2 => ?_⟩
        by_cases q : j = i
        · rw [q]; exact h
        · exact b j (by omega) (by omega)
      · exact Or.inr ⟨j, a, by omega, by omega, e⟩
theorem heF_at (V : Int → Int) (k i : Nat) : ∃ b : Nat, heF V k i = b ∧ i ≤ b ∧ b ≤ i + k ∧ (∀ j : Nat, i ≤ j → j < b → V j = -1) ∧ (b = i + k ∨ V b ≠ -1) := by
  induction k generalizing i with
  | zero => exact ⟨i, rfl, Nat.le_refl i, Nat.le_refl i, fun j h1 h2 => by omega, Or.inl rfl⟩
  | succ k ih =>
    by_cases h : knI V i = 0
    · obtain ⟨b, h1, h2, h3, h4, h5⟩ := ih (i + 1)
      refine ⟨b, ?_, by omega, by omega, fun j g1 g2 => ?_, ?_⟩
      · show (if knI V i = 0 then heF V k (i + 1) else (i : Int)) = _
        rw [if_pos h]; exact h1
      · by_cases q : j = i
        · rw [q]; exact knI_0.mp h
        · exact h4 j (by omega) g2
      · rcases h5 with q | q
        · exact Or.inl (by omega)
        · exact Or.inr q
    · refine ⟨i, ?_, Nat.le_refl i, by omega, fun j h1 h2 => by omega, Or.inr (fun q => h (knI_0.mpr q))⟩
      show (if knI V i = 0 then heF V k (i + 1) else (i : Int)) = _
      rw [if_neg h]
theorem cntH_stay {V : Int → Int} {p N : Nat} {i : Int} (hp : cntH V p = i) (hq : ∀ j : Nat, p ≤ j → j < N → ¬ (hsI V j ≠ 0 ∧ cntH V j = i)) (n : Nat) (h1 : p ≤ n) (h2 : n ≤ N) : cntH V n = i := by
  induction n with
  | zero => rw [← show p = 0 by omega]; exact hp
  | succ n ih =>
    by_cases e : p = n + 1
    · rw [← e]; exact hp
    · have h3 := ih (by omega) (by omega)
      have h4 := hq n (by omega) (by omega)
      have h5 : hsI V n = 0 := by
        rcases hsI_01 V n with q | q
        · exact q
        · exact absurd ⟨by omega, h3⟩ h4
      show cntH V n + hsI V n = i
      omega
def HQI (V : Int → Int) (N i : Nat) (fr la : Int) : Prop := ∃ p : Nat, fr = p ∧ p ≤ N ∧ (cntH V p = i ∨ (p = N ∧ (i : Int) = cntH V N + 1)) ∧ la = missI V 0 0 p ∧ (p = 0 ∨ p = N ∨ V p ≠ -1)
theorem HQI.zero (V : Int → Int) (N : Nat) : HQI V N 0 0 0 := ⟨0, rfl, Nat.zero_le N, Or.inl rfl, rfl, Or.inl rfl⟩
theorem HQI.in {V : Int → Int} {N i : Nat} {fr la : Int} (h : HQI V N i fr la) : (0 ≤ fr ∧ fr ≤ N) ∧ 0 ≤ la ∧ la ≤ N := by
  obtain ⟨p, h1, h2, -, h3, -⟩ := h
  have q := missI_le V 0 0 p
  omega
theorem hosI_none {V : Int → Int} {en tp : Int} {i N : Nat} (hN : lhN en tp = N) (hi : cntH V N ≤ i) : hosI V en tp i = if en = -1 ∧ cntH V N = i then tp else -1 := by
  unfold hosI
  rw [hN]
  rcases hstF_first V i (if en = -1 ∧ cntH V N = (i : Int) then tp else -1) N 0 with ⟨q, -⟩ | ⟨j, h1, h2, h3, h4, h5⟩
  · exact q
  · exfalso
    have h6 : cntH V (j + 1) = cntH V j + hsI V j := rfl
    have h7 := cntH_mono (V := V) (show j + 1 ≤ N by omega)
    have h8 := hsI_01 V j
    omega
theorem hole_A {V : Int → Int} {en tp fr la : Int} {i N : Nat} (hN : lhN en tp = N) (h : HQI V N i fr la) (hi : (i : Int) < cntH V N) : ∃ a b : Nat, holI V en tp i 0 = a ∧ holI V en tp i 1 = b ∧ fr ≤ a ∧ a < b ∧ b ≤ N ∧ V a = -1 ∧ (0 < a → V ((a : Int) - 1) ≠ -1) ∧ HQI V N (i + 1) b (la + ((b : Int) - a)) := by
  obtain ⟨p, h1, hp, hc, h2, hb⟩ := h
  have hc : cntH V p = i := by
    rcases hc with q | ⟨-, q⟩
    · exact q
    · omega
  have hpN : p ≠ N := fun e => by rw [e] at hc; omega
  have hos : ∃ j : Nat, hosI V en tp i = j ∧ j < N ∧ hsI V j ≠ 0 ∧ cntH V j = i := by
    unfold hosI
    rw [hN]
    rcases hstF_first V i (if en = -1 ∧ cntH V N = (i : Int) then tp else -1) N 0 with ⟨-, q⟩ | ⟨j, h1, -, h3, h4, h5⟩
    · have h3 := cntH_stay hc (fun j g1 g2 => q j (by omega) (by omega)) N hp (Nat.le_refl N)
      omega
    · exact ⟨j, h1, by omega, h4, h5⟩
  obtain ⟨a, ha, haN, hs, hca⟩ := hos
  have hva : V a = -1 ∧ ((a : Int) = 0 ∨ V ((a : Int) - 1) ≠ -1) := by
    by_cases q : V a = -1 ∧ ((a : Int) = 0 ∨ V ((a : Int) - 1) ≠ -1)
    · exact q
    · exact absurd (if_neg q) hs
  have hca1 : cntH V (a + 1) = cntH V a + hsI V a := rfl
  have h01 := hsI_01 V a
  have hpa : p ≤ a := by
    by_cases q : p ≤ a
    · exact q
    · have h3 := cntH_mono (V := V) (show a + 1 ≤ p by omega)
      omega
  obtain ⟨hm, -⟩ := quiet_run hc hca (by
    rcases hb with q | q | q
    · exact Or.inl q
    · exact absurd q hpN
    · exact Or.inr (Or.inl q)) a hpa (Nat.le_refl a)
  obtain ⟨b, he, hb1, hb2, hb3, hb4⟩ := heF_at V (N - a) a
  have hab : a < b := by
    by_cases q : a = b
    · rcases hb4 with q2 | q2
      · omega
      · exact absurd (by rw [← q]; exact hva.1) q2
    · omega
  obtain ⟨hr1, hr2⟩ := hole_run hab hb3
  have g0 : holI V en tp i 0 = a := by unfold holI; rw [if_pos (Or.inl rfl)]; exact ha
  have g1 : holI V en tp i 1 = b := by
    unfold holI
    rw [if_neg (by rw [ha]; omega), ha, Int.toNat_natCast]
    unfold hoeI
    rw [hN, if_neg (by omega)]; exact he
  refine ⟨a, b, g0, g1, by omega, hab, by omega, hva.1, fun q => ?_, b, rfl, by omega, Or.inl (by rw [hr1, hca1, hca]; omega), by rw [hr2, hm, h2], ?_⟩
  · rcases hva.2 with z | z
    · omega
    · exact z
  · rcases hb4 with q | q
    · exact Or.inr (Or.inl (by omega))
    · exact Or.inr (Or.inr q)
theorem HQI.all {V : Int → Int} {N i : Nat} {fr la : Int} (h : HQI V N i fr la) (hi : (i : Int) = cntH V N ∨ (i : Int) = cntH V N + 1) : la = missI V 0 0 N := by
  obtain ⟨p, h1, hp, hc, h2, hb⟩ := h
  rcases hc with q | ⟨q, -⟩
  · have h3 := cntH_mono (V := V) hp
    have h4 : cntH V N = i := by omega
    have h5 := (quiet_run q h4 (by
      rcases hb with q | q | q
      · exact Or.inl q
      · exact Or.inr (Or.inr q)
      · exact Or.inr (Or.inl q)) N hp (Nat.le_refl N)).1
    rw [h2, h5]
  · rw [h2, q]
theorem hole_B {V : Int → Int} {en tp fr la : Int} {i N : Nat} (hN : lhN en tp = N) (h : HQI V N i fr la) (hen : en = -1) (hi : (i : Int) = cntH V N) (htp : tp = N) : holI V en tp i 0 = tp ∧ holI V en tp i 1 = -1 ∧ HQI V N (i + 1) tp la := by
  have h3 := h.all (Or.inl hi)
  have ho : hosI V en tp i = tp := by rw [hosI_none hN (by omega), if_pos ⟨hen, by omega⟩]
  refine ⟨by unfold holI; rw [if_pos (Or.inl rfl)]; exact ho, ?_, N, htp, Nat.le_refl N, Or.inr ⟨rfl, by omega⟩, h3, Or.inr (Or.inl rfl)⟩
  unfold holI
  rw [if_neg (by rw [ho]; omega), ho, htp, Int.toNat_natCast]
  unfold hoeI
  rw [← htp, hN, if_pos (Nat.le_refl N)]
theorem hole_C {V : Int → Int} {en tp fr la : Int} {i N : Nat} (hN : lhN en tp = N) (h : HQI V N i fr la) (hi : (en ≠ -1 ∧ (i : Int) = cntH V N) ∨ (en = -1 ∧ (i : Int) = cntH V N + 1)) : holI V en tp i 0 = -1 ∧ la = missI V 0 0 N := by
  refine ⟨?_, h.all (by omega)⟩
  unfold holI
  rw [if_pos (Or.inl rfl), hosI_none hN (by omega), if_neg (by omega)]
