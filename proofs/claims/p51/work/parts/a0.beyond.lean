/-! rows beyond the counts matter to nobody -/
theorem mixR_lt {α : Type} {A B : Nat → α} {n k : Nat} (h : k < n) : mixR A B n k = A k := if_pos h
theorem mixR_set {α : Type} {A B : Nat → α} {n k : Nat} (h : k < n) (r : α) : setR (mixR A B n) k r = mixR (setR A k r) B n := by
  funext j
  by_cases e : j = k
  · rw [e, setR_k, mixR_lt h, setR_k]
  · rw [setR_ne _ _ e]
    unfold mixR
    by_cases q : j < n
    · rw [if_pos q, if_pos q, setR_ne _ _ e]
    · rw [if_neg q, if_neg q]
def Jx (X Y W : Nat → Nat → Int) (z : St) : St := (z.1, mixR z.2.1 X (z.1 6).toNat, mixR z.2.2.1 Y (z.1 7).toNat, mixR z.2.2.2.1 W 4, z.2.2.2.2)
theorem Jx_of {z w : St} (h : EqS z w) (hz : StOk z) : w = Jx w.2.1 w.2.2.1 w.2.2.2.1 z := by
  obtain ⟨a1, a2, a3, a4, a5⟩ := h
  have h6 := hz.1.2.2.2.2.2.2.1
  have h7 := hz.1.2.2.2.2.2.2.2
  have e2 : w.2.1 = mixR z.2.1 w.2.1 (z.1 6).toNat := by
    funext k
    unfold mixR
    by_cases q : k < (z.1 6).toNat
    · rw [if_pos q]; exact a2 k (by omega)
    · rw [if_neg q]
  have e3 : w.2.2.1 = mixR z.2.2.1 w.2.2.1 (z.1 7).toNat := by
    funext k
    unfold mixR
    by_cases q : k < (z.1 7).toNat
    · rw [if_pos q]; exact a3 k (by omega)
    · rw [if_neg q]
  have e4 : w.2.2.2.1 = mixR z.2.2.2.1 w.2.2.2.1 4 := by
    funext k
    unfold mixR
    by_cases q : k < 4
    · rw [if_pos q]; exact a4 k q
    · rw [if_neg q]
  show (w.1, w.2.1, w.2.2.1, w.2.2.2.1, w.2.2.2.2) = (z.1, mixR z.2.1 w.2.1 (z.1 6).toNat, mixR z.2.2.1 w.2.2.1 (z.1 7).toNat, mixR z.2.2.2.1 w.2.2.2.1 4, z.2.2.2.2)
  rw [a1, ← e2, ← e3, ← e4, a5]
theorem Jx_eq (X Y W : Nat → Nat → Int) {z : St} : EqS z (Jx X Y W z) := ⟨rfl, fun k hk => if_pos (by omega), fun d hd => if_pos (by omega), fun i hi => if_pos hi, rfl⟩
theorem hofI_mix (H W : Nat → Nat → Int) (d : Int) (m : Nat) (hm : m ≤ 4) : hofI (mixR H W 4) d m = hofI H d m := by
  induction m with
  | zero => rfl
  | succ m ih =>
    show (if hofI (mixR H W 4) d m = -1 then (if mixR H W 4 m 0 = d then (m : Int) else -1) else hofI (mixR H W 4) d m) = (if hofI H d m = -1 then (if H m 0 = d then (m : Int) else -1) else hofI H d m)
    rw [ih (by omega), mixR_lt (show m < 4 by omega)]
theorem oldI_in (H : Nat → Nat → Int) (m : Nat) : oldI H m ≤ m - 1 := by
  induction m with
  | zero => exact Nat.le_refl 0
  | succ m ih =>
    unfold oldI
    split <;> omega
theorem oldI_mix (H W : Nat → Nat → Int) (m : Nat) (hm : m ≤ 4) : oldI (mixR H W 4) m = oldI H m := by
  induction m with
  | zero => rfl
  | succ m ih =>
    have h1 := oldI_in H m
    unfold oldI
    rw [ih (by omega), mixR_lt (show m < 4 by omega), mixR_lt (show oldI H m < 4 by omega)]
theorem fstJ_mix (H W : Nat → Nat → Int) : fstJ (mixR H W 4) = fstJ H := by
  unfold fstJ
  rw [hofI_mix H W (-1) 4 (Nat.le_refl 4), oldI_mix H W 4 (Nat.le_refl 4)]
theorem hfJ_mix (H W : Nat → Nat → Int) (d : Int) : hfJ (mixR H W 4) d = hfJ H d := by
  unfold hfJ
  rw [hofI_mix H W d 4 (Nat.le_refl 4), fstJ_mix]
theorem hfF_mix {t d : Int} {D H Y W : Nat → Nat → Int} {V : Nat → Int → Int} {n : Nat} (hn : ∀ i : Nat, i < 4 → -1 ≤ H i 0 ∧ H i 0 < n) : hfF t d (mixR D Y n, mixR H W 4, V) = (mixR (hfF t d (D, H, V)).1 Y n, mixR (hfF t d (D, H, V)).2.1 W 4, (hfF t d (D, H, V)).2.2) := by
  have hj := fstJ_lt H
  unfold hfF
  show (if hofI (mixR H W 4) d 4 = -1 then (if mixR H W 4 (fstJ (mixR H W 4)) 0 = -1 then mixR D Y n else setR (mixR D Y n) (mixR H W 4 (fstJ (mixR H W 4)) 0).toNat (closeR (mixR D Y n (mixR H W 4 (fstJ (mixR H W 4)) 0).toNat) 3 t 2), setR (mixR H W 4) (fstJ (mixR H W 4)) (begR d t), setR V (fstJ (mixR H W 4)) (fun _ => -1)) else (mixR D Y n, mixR H W 4, V)) = _
  rw [hofI_mix H W d 4 (Nat.le_refl 4), fstJ_mix, mixR_lt hj, mixR_set hj]
  by_cases e : hofI H d 4 = -1
  · rw [if_pos e]
    show _ = (mixR (if hofI H d 4 = -1 then (if H (fstJ H) 0 = -1 then D else setR D (H (fstJ H) 0).toNat (closeR (D (H (fstJ H) 0).toNat) 3 t 2), setR H (fstJ H) (begR d t), setR V (fstJ H) (fun _ => -1)) else (D, H, V)).1 Y n, mixR (if hofI H d 4 = -1 then (if H (fstJ H) 0 = -1 then D else setR D (H (fstJ H) 0).toNat (closeR (D (H (fstJ H) 0).toNat) 3 t 2), setR H (fstJ H) (begR d t), setR V (fstJ H) (fun _ => -1)) else (D, H, V)).2.1 W 4, (if hofI H d 4 = -1 then (if H (fstJ H) 0 = -1 then D else setR D (H (fstJ H) 0).toNat (closeR (D (H (fstJ H) 0).toNat) 3 t 2), setR H (fstJ H) (begR d t), setR V (fstJ H) (fun _ => -1)) else (D, H, V)).2.2)
    rw [if_pos e]
    by_cases e2 : H (fstJ H) 0 = -1
    · rw [if_pos e2, if_pos e2]
    · have h1 := hn (fstJ H) hj
      rw [if_neg e2, if_neg e2, mixR_set (show (H (fstJ H) 0).toNat < n by omega), mixR_lt (show (H (fstJ H) 0).toNat < n by omega)]
  · rw [if_neg e]
    show _ = (mixR (if hofI H d 4 = -1 then _ else (D, H, V)).1 Y n, mixR (if hofI H d 4 = -1 then _ else (D, H, V)).2.1 W 4, (if hofI H d 4 = -1 then _ else (D, H, V)).2.2)
    rw [if_neg e]
theorem takeF_mix {g : Nat → Int} {d o nb j : Nat} {fill il : Int} {D H Y W : Nat → Nat → Int} {V : Nat → Int → Int} {A : Nat → Int} {n : Nat} (hd : d < n) (hj : j < 4) : takeF g d o nb fill il j (mixR D Y n, mixR H W 4, V, A) = (mixR (takeF g d o nb fill il j (D, H, V, A)).1 Y n, mixR (takeF g d o nb fill il j (D, H, V, A)).2.1 W 4, (takeF g d o nb fill il j (D, H, V, A)).2.2) := by
  unfold takeF
  simp only [mixR_lt hd, mixR_lt hj, mixR_set hd, mixR_set hj]
  split
  · split
    · rfl
    · split <;> rfl
  · rfl
theorem recvF_mix {g : Nat → Int} {d o nb : Nat} {fill il : Int} {D H Y W : Nat → Nat → Int} {V : Nat → Int → Int} {A : Nat → Int} {n : Nat} (hd : d < n) (hn : ∀ i : Nat, i < 4 → -1 ≤ H i 0 ∧ H i 0 < n) : recvF g d o nb fill il (mixR D Y n, mixR H W 4, V, A) = (mixR (recvF g d o nb fill il (D, H, V, A)).1 Y n, mixR (recvF g d o nb fill il (D, H, V, A)).2.1 W 4, (recvF g d o nb fill il (D, H, V, A)).2.2) := by
  have hf := hfF_mix (t := g 0) (d := d) (D := D) (H := H) (Y := Y) (W := W) (V := V) hn
  have hJ := hfJ_lt H d
  unfold recvF
  show (if mixR D Y n d 5 = 0 then takeF g d o nb fill il (hfJ (mixR H W 4) d) ((hfF (g 0) d (mixR D Y n, mixR H W 4, V)).1, (hfF (g 0) d (mixR D Y n, mixR H W 4, V)).2.1, (hfF (g 0) d (mixR D Y n, mixR H W 4, V)).2.2, upz A 5 (A 5 + 1)) else (mixR D Y n, mixR H W 4, V, upz (upz A 5 (A 5 + 1)) 6 (upz A 5 (A 5 + 1) 6 + 1))) = _
  rw [mixR_lt hd, hf, hfJ_mix]
  by_cases e : D d 5 = 0
  · rw [if_pos e]
    show takeF g d o nb fill il (hfJ H d) (mixR (hfF (g 0) d (D, H, V)).1 Y n, mixR (hfF (g 0) d (D, H, V)).2.1 W 4, (hfF (g 0) d (D, H, V)).2.2, upz A 5 (A 5 + 1)) = _
    rw [takeF_mix hd hJ]
    show _ = (mixR (if D d 5 = 0 then takeF g d o nb fill il (hfJ H d) ((hfF (g 0) d (D, H, V)).1, (hfF (g 0) d (D, H, V)).2.1, (hfF (g 0) d (D, H, V)).2.2, upz A 5 (A 5 + 1)) else _).1 Y n, mixR (if D d 5 = 0 then takeF g d o nb fill il (hfJ H d) ((hfF (g 0) d (D, H, V)).1, (hfF (g 0) d (D, H, V)).2.1, (hfF (g 0) d (D, H, V)).2.2, upz A 5 (A 5 + 1)) else _).2.1 W 4, (if D d 5 = 0 then takeF g d o nb fill il (hfJ H d) ((hfF (g 0) d (D, H, V)).1, (hfF (g 0) d (D, H, V)).2.1, (hfF (g 0) d (D, H, V)).2.2, upz A 5 (A 5 + 1)) else _).2.2)
    rw [if_pos e]
  · rw [if_neg e]
    show _ = (mixR (if D d 5 = 0 then _ else (D, H, V, upz (upz A 5 (A 5 + 1)) 6 (upz A 5 (A 5 + 1) 6 + 1))).1 Y n, mixR (if D d 5 = 0 then _ else (D, H, V, upz (upz A 5 (A 5 + 1)) 6 (upz A 5 (A 5 + 1) 6 + 1))).2.1 W 4, (if D d 5 = 0 then _ else (D, H, V, upz (upz A 5 (A 5 + 1)) 6 (upz A 5 (A 5 + 1) 6 + 1))).2.2)
    rw [if_neg e]
theorem dlyI_mix {L X : Nat → Nat → Int} {n : Nat} (k : Nat) (h : k ≤ n) : dlyI (mixR L X n) k = dlyI L k := by
  induction k with
  | zero => rfl
  | succ k ih =>
    show dlyI (mixR L X n) k + mixR L X n k 1 = dlyI L k + L k 1
    rw [ih (by omega), mixR_lt (by omega)]
theorem putK_mix {t : Int} {k n : Nat} {wh fi og bt : Int} {L X : Nat → Nat → Int} {r : (Nat → List Pkt) × List Nte × (Nat → Int)} (hk : k < n) : putK t k wh fi og bt (mixR L X n, r) = (mixR (putK t k wh fi og bt (L, r)).1 X n, (putK t k wh fi og bt (L, r)).2) := by
  unfold putK
  simp only [mixR_lt hk, dlyI_mix k (Nat.le_of_lt hk), mixR_set hk]
  split <;> rfl
theorem stepM_mix {X Y W : Nat → Nat → Int} {z : St} (hz : StOk z) {k : Nat} (hk : (k : Int) < z.1 6) (hP : z.2.2.2.2.2.1 k ≠ []) : stepM k (Jx X Y W z) = Jx X Y W (stepM k z) := by
  have h6 := hz.1.2.2.2.2.2.2.1
  have h7 := hz.1.2.2.2.2.2.2.2
  have hin := (hd_in hz (k := k) (by omega) hP).1
  have hH : ∀ i : Nat, i < 4 → -1 ≤ z.2.2.2.1 i 0 ∧ z.2.2.2.1 i 0 < ((z.1 7).toNat : Nat) := fun i hi => by have := (hz.2.2.2.1 i hi).1; omega
  have hx : (hdP (z.2.2.2.2.2.1 k)).2.1 = -1 ∨ (hdP (z.2.2.2.2.2.1 k)).2.1.toNat < (z.1 7).toNat := by
    rcases hin.2 with ⟨q, -⟩ | ⟨q1, q2, -⟩
    · exact Or.inl q
    · exact Or.inr (by omega)
  have hfi : firmI (mixR z.2.2.1 Y (z.1 7).toNat) (hdP (z.2.2.2.2.2.1 k)).2.1 = firmI z.2.2.1 (hdP (z.2.2.2.2.2.1 k)).2.1 := by
    unfold firmI
    rcases hx with q | q
    · rw [q, if_pos (by decide), if_pos (by decide)]
    · rw [mixR_lt q]
  have hg : (stepM k z).1 = z.1 := stepM_g k z
  have hJ : Jx X Y W (stepM k z) = (z.1, mixR (stepM k z).2.1 X (z.1 6).toNat, mixR (stepM k z).2.2.1 Y (z.1 7).toNat, mixR (stepM k z).2.2.2.1 W 4, (stepM k z).2.2.2.2) := by unfold Jx; rw [hg]
  rw [hJ]
  by_cases e : (k : Int) + 1 < z.1 6
  · have hs : stepM k z = _ := if_pos e
    have hs2 : stepM k (Jx X Y W z) = _ := if_pos e
    rw [hs, hs2]
    dsimp only [Jx]
    rw [hfi, putK_mix (show k + 1 < (z.1 6).toNat by omega)]
  · by_cases e2 : (hdP (z.2.2.2.2.2.1 k)).2.1 = -1
    · have hs : stepM k z = _ := (if_neg e).trans (if_pos e2)
      have hs2 : stepM k (Jx X Y W z) = _ := (if_neg e).trans (if_pos e2)
      rw [hs, hs2]
      dsimp only [Jx]
      rw [dlyI_mix _ (Nat.le_refl _)]
    · have hd := hx.resolve_left e2
      have hl : lastB (mixR z.2.2.1 Y (z.1 7).toNat) (hdP (z.2.2.2.2.2.1 k)) = lastB z.2.2.1 (hdP (z.2.2.2.2.2.1 k)) := by unfold lastB; rw [mixR_lt hd]
      have hr := recvF_mix (g := z.1) (o := (hdP (z.2.2.2.2.2.1 k)).2.2.1.toNat) (nb := ((hdP (z.2.2.2.2.2.1 k)).2.2.2 - 20).toNat) (fill := -1) (il := lastB z.2.2.1 (hdP (z.2.2.2.2.2.1 k))) (D := z.2.2.1) (H := z.2.2.2.1) (Y := Y) (W := W) (V := z.2.2.2.2.1) (A := upz z.2.2.2.2.2.2.2 12 (z.2.2.2.2.2.2.2 12 + 1)) hd hH
      have hs : stepM k z = _ := (if_neg e).trans (if_neg e2)
      have hs2 : stepM k (Jx X Y W z) = _ := (if_neg e).trans (if_neg e2)
      rw [hs, hs2]
      dsimp only [Jx]
      rw [hl, hr]
theorem moveF_mix {X Y W : Nat → Nat → Int} {n k : Nat} {z : St} (hz : StOk z) (hk : (k : Int) < z.1 6) : moveF n k (Jx X Y W z) = Jx X Y W (moveF n k z) := by
  induction n generalizing z with
  | zero => rfl
  | succ n ih =>
    show (if dueB (z.2.2.2.2.2.1 k) (z.1 0) = 1 then moveF n k (stepM k (Jx X Y W z)) else Jx X Y W z) = Jx X Y W (if dueB (z.2.2.2.2.2.1 k) (z.1 0) = 1 then moveF n k (stepM k z) else z)
    by_cases e : dueB (z.2.2.2.2.2.1 k) (z.1 0) = 1
    · rw [if_pos e, if_pos e, stepM_mix hz hk (dueB_ne e)]
      exact ih (stepM_ok hz hk (dueB_ne e)) (by rw [stepM_g]; exact hk)
    · rw [if_neg e, if_neg e]
theorem moveA_mix {X Y W : Nat → Nat → Int} {n : Nat} {z : St} (hz : StOk z) (hn : (n : Int) ≤ z.1 6) : moveA n (Jx X Y W z) = Jx X Y W (moveA n z) := by
  induction n with
  | zero => rfl
  | succ n ih =>
    obtain ⟨a, b⟩ := moveA_ok (n := n) hz (by omega)
    show moveF 300 n (moveA n (Jx X Y W z)) = Jx X Y W (moveF 300 n (moveA n z))
    rw [ih (by omega), moveF_mix a (by rw [b]; omega)]
theorem agF_mix {X Y : Nat → Nat → Int} {q : HX} {d n6 n7 : Nat} (hd : d < n7) (h6 : 0 < n6) : agF d (q.1, mixR q.2.1 X n6, mixR q.2.2.1 Y n7, q.2.2.2) = ((agF d q).1, mixR (agF d q).2.1 X n6, mixR (agF d q).2.2.1 Y n7, (agF d q).2.2.2) := by
  unfold agF
  simp only [mixR_lt hd, mixR_lt h6, mixR_set hd, mixR_set h6]
theorem hearN_mix {X Y : Nat → Nat → Int} {q : HX} {x : Nte} {n6 n7 : Nat} (hx : x.2.1 = -1 ∨ x.2.2 < 0 ∨ x.2.2.toNat < n7) (h6 : 0 < n6) : hearN x (q.1, mixR q.2.1 X n6, mixR q.2.2.1 Y n7, q.2.2.2) = ((hearN x q).1, mixR (hearN x q).2.1 X n6, mixR (hearN x q).2.2.1 Y n7, (hearN x q).2.2.2) := by
  unfold hearN
  by_cases e : x.2.1 = -1
  · rw [if_pos e, if_pos e]; rfl
  · rw [if_neg e, if_neg e]
    by_cases e1 : 0 ≤ x.2.2
    · have hn : x.2.2.toNat < n7 := by
        rcases hx with q | q | q
        · exact absurd q e
        · omega
        · exact q
      show (if 0 ≤ x.2.2 ∧ noteS x.2.1 x.2.2 (mixR q.2.2.1 Y n7 x.2.2.toNat 3) (mixR q.2.2.1 Y n7 x.2.2.toNat 5) q.1 = 1 then agF x.2.2.toNat ((noteF1 x q).1, mixR (noteF1 x q).2.1 X n6, mixR (noteF1 x q).2.2.1 Y n7, (noteF1 x q).2.2.2) else ((noteF1 x q).1, mixR (noteF1 x q).2.1 X n6, mixR (noteF1 x q).2.2.1 Y n7, (noteF1 x q).2.2.2)) = _
      rw [mixR_lt hn]
      by_cases e2 : 0 ≤ x.2.2 ∧ noteS x.2.1 x.2.2 (q.2.2.1 x.2.2.toNat 3) (q.2.2.1 x.2.2.toNat 5) q.1 = 1
      · rw [if_pos e2, if_pos e2, agF_mix hn h6]
      · rw [if_neg e2, if_neg e2]
    · rw [if_neg (fun w => e1 w.1), if_neg (fun w => e1 w.1)]; rfl
theorem hearL_mix {X Y : Nat → Nat → Int} {t : Int} {l : List Nte} {q : HX} {n6 n7 : Nat} (hl : ∀ x ∈ l, x.2.1 = -1 ∨ x.2.2 < 0 ∨ x.2.2.toNat < n7) (h6 : 0 < n6) : hearL t l (q.1, mixR q.2.1 X n6, mixR q.2.2.1 Y n7, q.2.2.2) = ((hearL t l q).1, mixR (hearL t l q).2.1 X n6, mixR (hearL t l q).2.2.1 Y n7, (hearL t l q).2.2.2) := by
  induction l generalizing q with
  | nil => rfl
  | cons x l ih =>
    show hearL t l (if x.1 ≤ t then hearN x (q.1, mixR q.2.1 X n6, mixR q.2.2.1 Y n7, q.2.2.2) else (q.1, mixR q.2.1 X n6, mixR q.2.2.1 Y n7, q.2.2.2)) = ((hearL t l (if x.1 ≤ t then hearN x q else q)).1, mixR (hearL t l (if x.1 ≤ t then hearN x q else q)).2.1 X n6, mixR (hearL t l (if x.1 ≤ t then hearN x q else q)).2.2.1 Y n7, (hearL t l (if x.1 ≤ t then hearN x q else q)).2.2.2)
    by_cases e : x.1 ≤ t
    · rw [if_pos e, if_pos e, hearN_mix (hl x List.mem_cons_self) h6]
      exact ih (q := hearN x q) (fun y hy => hl y (List.mem_cons_of_mem _ hy))
    · rw [if_neg e, if_neg e]
      exact ih (q := q) (fun y hy => hl y (List.mem_cons_of_mem _ hy))
theorem hearF_mix {X Y W : Nat → Nat → Int} {z : St} (hz : StOk z) : hearF (Jx X Y W z) = Jx X Y W (hearF z) := by
  have h6 := hz.1.2.2.2.2.2.2.1
  have h7 := hz.1.2.2.2.2.2.2.2
  have hb := (hearF_ok hz).2
  have g6 : (hxF z).1 6 = z.1 6 := hb 6 (by decide) (by decide) (by decide)
  have g7 : (hxF z).1 7 = z.1 7 := hb 7 (by decide) (by decide) (by decide)
  have hl : hxF (Jx X Y W z) = ((hxF z).1, mixR (hxF z).2.1 X (z.1 6).toNat, mixR (hxF z).2.2.1 Y (z.1 7).toNat, (hxF z).2.2.2) := hearL_mix (q := (z.1, z.2.1, z.2.2.1, z.2.2.2.2.2.1, z.2.2.2.2.2.2.2)) (fun x hx => by
    rcases (hz.2.2.2.2.2 x hx).2 with ⟨q, -⟩ | ⟨-, q | q⟩
    · exact Or.inl q
    · exact Or.inr (Or.inl (by omega))
    · exact Or.inr (Or.inr (by omega))) (by omega)
  unfold hearF
  rw [hl]
  unfold Jx
  show _ = ((hxF z).1, mixR (hxF z).2.1 X ((hxF z).1 6).toNat, mixR (hxF z).2.2.1 Y ((hxF z).1 7).toNat, _)
  rw [g6, g7]
theorem ageF_mix {X Y W : Nat → Nat → Int} {n : Nat} {z : St} (hz : StOk z) (hn : n ≤ 4) : ageF n (Jx X Y W z) = Jx X Y W (ageF n z) := by
  induction n with
  | zero => rfl
  | succ n ih =>
    obtain ⟨a, b⟩ := ageF_ok (n := n) hz (by omega)
    have ih := ih (by omega)
    obtain ⟨y, hy⟩ : ∃ y : St, ageF n z = y := ⟨_, rfl⟩
    rw [hy] at ih a b
    have h7 := a.1.2.2.2.2.2.2.2
    have hx := (a.2.2.2.1 n (by omega)).1
    unfold ageF
    rw [ih, hy]
    show (if mixR y.2.2.2.1 W 4 n 0 ≠ -1 ∧ y.1 1 ≤ y.1 0 - mixR y.2.2.2.1 W 4 n 1 then (y.1, mixR y.2.1 X (y.1 6).toNat, setR (mixR y.2.2.1 Y (y.1 7).toNat) (mixR y.2.2.2.1 W 4 n 0).toNat (closeR (mixR y.2.2.1 Y (y.1 7).toNat (mixR y.2.2.2.1 W 4 n 0).toNat) 3 (y.1 0) 1), setR (mixR y.2.2.2.1 W 4) n (upz (mixR y.2.2.2.1 W 4 n) 0 (-1)), y.2.2.2.2) else Jx X Y W y) = _
    rw [mixR_lt (show n < 4 by omega)]
    by_cases e : y.2.2.2.1 n 0 ≠ -1 ∧ y.1 1 ≤ y.1 0 - y.2.2.2.1 n 1
    · have hw : (y.2.2.2.1 n 0).toNat < (y.1 7).toNat := by have := e.1; omega
      rw [if_pos e, if_pos e, mixR_lt hw, mixR_set hw, mixR_set (show n < 4 by omega)]; rfl
    · rw [if_neg e, if_neg e]
theorem tickF_mix {X Y W : Nat → Nat → Int} {z : St} (hz : StOk z) : tickF (Jx X Y W z) = Jx X Y W (tickF z) := by
  have h1 := t0F_ok hz
  have h6 := hz.1.2.2.2.2.2.2.1
  have hn : (((z.1 6).toNat : Nat) : Int) ≤ (t0F z).1 6 := by show _ ≤ upz z.1 0 (z.1 0 + 1) 6; rw [upz_ne _ _ (by decide)]; omega
  have h2 := moveA_ok (n := (z.1 6).toNat) h1 hn
  have h3 := hearF_ok h2.1
  show ageF 4 (hearF (moveA (z.1 6).toNat (t0F (Jx X Y W z)))) = _
  have e0 : t0F (Jx X Y W z) = Jx X Y W (t0F z) := rfl
  rw [e0, moveA_mix h1 hn, hearF_mix h2.1, ageF_mix h3.1 (Nat.le_refl 4)]; rfl
theorem EqS.tick {z w : St} (h : EqS z w) (hz : StOk z) : EqS (tickF z) (tickF w) := by
  rw [Jx_of h hz, tickF_mix hz]; exact Jx_eq _ _ _
theorem EqS.ticks (n : Nat) {z w : St} (h : EqS z w) (hz : StOk z) : EqS (tickN n z) (tickN n w) := by
  induction n generalizing z w with
  | zero => exact h
  | succ n ih => exact ih (h.tick hz) (tickF_ok hz).1
