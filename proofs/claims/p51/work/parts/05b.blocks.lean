/-! worlds of blocks: single cells, families of cells, what a callee has and what stays -/
abbrev bl (B : List va_W) : va_W := B.flatten
theorem bl_at {B : List va_W} {k : Nat} {c : Nat × va_E} (h : B[k]? = some [c]) : ∃ q0 : Nat, (bl B)[q0]? = some c ∧ ∀ c', (bl B).set q0 c' = bl (B.set k [c']) := by
  induction B generalizing k with
  | nil => simp at h
  | cons b B ih =>
    cases k with
    | zero =>
      have hb : b = [c] := by simpa using h
      subst hb
      exact ⟨0, rfl, fun c' => rfl⟩
    | succ k =>
      obtain ⟨q0, h1, h2⟩ := ih (by simpa using h)
      refine ⟨b.length + q0, ?_, fun c' => ?_⟩
      · show (b ++ bl B)[b.length + q0]? = some c
        rw [List.getElem?_append_right (by omega)]
        simpa using h1
      · show (b ++ bl B).set (b.length + q0) c' = b ++ bl (B.set k [c'])
        rw [List.set_append_right _ _ (by omega)]
        have e : b.length + q0 - b.length = q0 := by omega
        rw [e, h2]
/-- what makes a row of cells a part of another -/
theorem va_D_iff {A : Nat → Prop} {ws : va_W} : va_D A ws ↔ ws.Pairwise (fun p q => p.1 ≠ q.1) ∧ ∀ q ∈ ws, A q.1 := by
  constructor
  · intro h
    refine ⟨List.pairwise_iff_getElem.mpr (fun i j hi hj hij e => ?_), fun q hq => ?_⟩
    · have := h.1 i j _ _ (List.getElem?_eq_getElem hi) (List.getElem?_eq_getElem hj) e
      omega
    · obtain ⟨k, hk⟩ := List.getElem?_of_mem hq
      exact h.2 k q hk
  · intro h
    refine ⟨fun i j p q hp hq e => ?_, fun k q hk => h.2 q (List.mem_of_getElem? hk)⟩
    obtain ⟨hi, rfl⟩ := List.getElem?_eq_some_iff.mp hp
    obtain ⟨hj, rfl⟩ := List.getElem?_eq_some_iff.mp hq
    rcases Nat.lt_trichotomy i j with h1 | h1 | h1
    · exact absurd e (List.pairwise_iff_getElem.mp h.1 i j hi hj h1)
    · exact h1
    · exact absurd e.symm (List.pairwise_iff_getElem.mp h.1 j i hj hi h1)
theorem va_P_iff {D : va_G} {cl : List vw_C} {ws : va_W} {H : Heap} : va_P D cl ws H ↔ ∀ q ∈ ws, va_at D cl q H := by
  constructor
  · intro h q hq
    obtain ⟨k, hk⟩ := List.getElem?_of_mem hq
    exact h k q hk
  · intro h k q hk
    exact h q (List.mem_of_getElem? hk)
theorem picked {B T : List va_W} {is : List Nat} (hs : is.map (fun i => B[i]?) = T.map some) {j : Nat} {t : va_W} (h : T[j]? = some t) : ∃ i : Nat, is[j]? = some i ∧ B[i]? = some t := by
  have h1 : (is.map (fun i => B[i]?))[j]? = some (some t) := by rw [hs, List.getElem?_map, h]; rfl
  rw [List.getElem?_map] at h1
  cases hi : is[j]? with
  | none => rw [hi] at h1; cases h1
  | some i => rw [hi] at h1; exact ⟨i, rfl, Option.some.inj h1⟩
theorem bl_mem {B T : List va_W} {is : List Nat} (hs : is.map (fun i => B[i]?) = T.map some) {q : Nat × va_E} (h : q ∈ bl T) : q ∈ bl B := by
  obtain ⟨t, ht, hq⟩ := List.mem_flatten.mp h
  obtain ⟨j, hj⟩ := List.getElem?_of_mem ht
  obtain ⟨i, -, hi⟩ := picked hs hj
  exact List.mem_flatten.mpr ⟨t, List.mem_of_getElem? hi, hq⟩
theorem bl_P {D : va_G} {cl : List vw_C} {B T : List va_W} {H : Heap} (h : va_P D cl (bl B) H) (is : List Nat) (hs : is.map (fun i => B[i]?) = T.map some) : va_P D cl (bl T) H :=
  va_P_iff.mpr (fun q hq => va_P_iff.mp h q (bl_mem hs hq))
theorem bl_D {A : Nat → Prop} {B T : List va_W} (h : va_D A (bl B)) (is : List Nat) (hn : va_nd is = true) (hs : is.map (fun i => B[i]?) = T.map some) : va_D A (bl T) := by
  obtain ⟨h1, h2⟩ := va_D_iff.mp h
  obtain ⟨h3, h4⟩ := List.pairwise_flatten.mp h1
  refine va_D_iff.mpr ⟨List.pairwise_flatten.mpr ⟨fun t ht => ?_, List.pairwise_iff_getElem.mpr (fun i j hi hj hij => ?_)⟩, fun q hq => h2 q (bl_mem hs hq)⟩
  · obtain ⟨j, hj⟩ := List.getElem?_of_mem ht
    obtain ⟨i, -, hi⟩ := picked hs hj
    exact h3 t (List.mem_of_getElem? hi)
  · obtain ⟨x, hx1, hx2⟩ := picked hs (List.getElem?_eq_getElem hi)
    obtain ⟨y, hy1, hy2⟩ := picked hs (List.getElem?_eq_getElem hj)
    have hne : x ≠ y := fun e => by
      subst e
      have := va_nd_inj is hn i j x hx1 hy1
      omega
    obtain ⟨hx3, hx4⟩ := List.getElem?_eq_some_iff.mp hx2
    obtain ⟨hy3, hy4⟩ := List.getElem?_eq_some_iff.mp hy2
    rw [← hx4, ← hy4]
    rcases Nat.lt_or_gt_of_ne hne with hl | hl
    · exact List.pairwise_iff_getElem.mp h4 x y hx3 hy3 hl
    · exact fun p hp q hq e => List.pairwise_iff_getElem.mp h4 y x hy3 hx3 hl q hq p hp e.symm
theorem Wd.pick {s : State} {H : Heap} {locs : List Loc} {D : va_G} {τ : Nat → ClassId} {A : Nat → Prop} {H0 : Heap} {B T : List va_W} (Y : Wd D τ s A H0 (bl B) H locs) (is : List Nat) (hn : va_nd is = true) (hs : is.map (fun i => B[i]?) = T.map some) : Wd D τ s A H0 (bl T) H locs :=
  ⟨Y.1, bl_P Y.2.1 is hs, bl_D Y.2.2.1 is hn hs, Y.2.2.2.1, Y.2.2.2.2⟩
theorem Wd.eqv {s : State} {H : Heap} {locs : List Loc} {D : va_G} {τ : Nat → ClassId} {A : Nat → Prop} {H0 : Heap} {ws ws' : va_W} (Y : Wd D τ s A H0 ws H locs) (h : ws = ws') : Wd D τ s A H0 ws' H locs := h ▸ Y
/-- behind a call: what came back, and what stayed -/
theorem blk_join {A0 : Nat → Prop} {D : va_G} {cl : List vw_C} {wc wr w1 : va_W} {H H1 : Heap} (hP : va_P D cl (wc ++ wr) H) (hD : va_D A0 (wc ++ wr)) (hk : ∀ q : Nat, q < H.size → ¬ va_A wc H.size q → H1[q]? = H[q]?) (hF : ∀ q, va_A wc H.size q → A0 q) (hP1 : va_P D cl w1 H1) (hD1 : va_D (va_A wc H.size) w1) : va_P D cl (w1 ++ wr) H1 ∧ va_D A0 (w1 ++ wr) := by
  have up : ∀ (k : Nat) (q : Nat × va_E), wr[k]? = some q → (wc ++ wr)[wc.length + k]? = some q := by
    intro k q hq
    rw [List.getElem?_append_right (by omega)]
    simpa using hq
  have apart : ∀ (k : Nat) (q : Nat × va_E), wr[k]? = some q → q.1 < H.size ∧ ¬ va_A wc H.size q.1 := by
    intro k q hq
    have hl := (hP _ q (up k q hq)).lt
    refine ⟨hl, fun h => ?_⟩
    rcases h with ⟨k2, e, h⟩ | h
    · have hlt : k2 < wc.length := (List.getElem?_eq_some_iff.mp h).1
      have h4 : (wc ++ wr)[k2]? = some (q.1, e) := by rw [List.getElem?_append_left hlt]; exact h
      have := hD.1 _ _ q (q.1, e) (up k q hq) h4 rfl
      omega
    · omega
  refine ⟨va_P.app hP1 (fun k q hq => ?_), va_D.app (hD1.weaken (fun k q _ h => hF q.1 h)) ⟨fun i j p q hi hj e => ?_, fun k q hq => hD.2 _ q (up k q hq)⟩ (fun i j x y hx hy hxy => ?_)⟩
  · obtain ⟨g1, g2⟩ := apart k q hq
    exact (hP _ q (up k q hq)).kept (hk q.1 g1 g2)
  · have := hD.1 _ _ p q (up i p hi) (up j q hj) e
    omega
  · exact (apart j y hy).2 (by rw [← hxy]; exact hD1.2 i x hx)
theorem blk_free {A0 : Nat → Prop} {ws : va_W} {H0 H : Heap} {locs : List Loc} (hD : va_D A0 ws) (hS : va_S A0 H0 H locs) (hA : ∀ q, H0.size ≤ q → A0 q) : ∀ q, va_A ws H.size q → A0 q := by
  intro q h
  rcases h with ⟨k, e, h⟩ | h
  · exact hD.2 k (q, e) h
  · exact hA q (Nat.le_trans hS.1 h)
/-! families of cells -/
def fam (n : Nat) (f : Nat → Nat × va_E) : va_W := (List.range n).map f
def famL (f : Nat → Nat × va_E) (i : Nat) : va_W := (List.range i).map f
def famH (n : Nat) (f : Nat → Nat × va_E) (i : Nat) : va_W := (List.range' (i + 1) (n - (i + 1))).map f
theorem fam_split {n i : Nat} (f : Nat → Nat × va_E) (hi : i < n) : fam n f = famL f i ++ ([f i] ++ famH n f i) := by
  unfold fam famL famH
  have e : List.range n = List.range i ++ ([i] ++ List.range' (i + 1) (n - (i + 1))) := by
    rw [List.range_eq_range', List.range_eq_range']
    have h1 : n = i + (n - i) := by omega
    have h2 : List.range' 0 n = List.range' 0 i ++ List.range' i (n - i) := by
      conv => lhs; rw [h1]
      rw [← List.range'_append_1, Nat.zero_add]
    rw [h2]
    congr 1
    have h3 : n - i = (n - (i + 1)) + 1 := by omega
    rw [h3, List.range'_succ]
    rfl
  rw [e, List.map_append, List.map_append]
  rfl
theorem famL_up {f g : Nat → Nat × va_E} {i : Nat} (h : ∀ j, j ≠ i → g j = f j) : famL g i = famL f i := by
  unfold famL
  refine List.map_congr_left (fun j hj => h j ?_)
  have := List.mem_range.mp hj
  omega
theorem famH_up {f g : Nat → Nat × va_E} {n i : Nat} (h : ∀ j, j ≠ i → g j = f j) : famH n g i = famH n f i := by
  unfold famH
  refine List.map_congr_left (fun j hj => h j ?_)
  have := List.mem_range'_1.mp hj
  omega
theorem fam_eq {f g : Nat → Nat × va_E} {n : Nat} (h : ∀ j, j < n → g j = f j) : fam n g = fam n f := by
  unfold fam
  exact List.map_congr_left (fun j hj => h j (List.mem_range.mp hj))
theorem bl_open {B B' : List va_W} (k : Nat) {n i : Nat} {f : Nat → Nat × va_E} {c : Nat × va_E} (h : B[k]? = some (fam n f)) (hi : i < n) (hc : f i = c) (hB : B.take k ++ ([famL f i, [c], famH n f i] ++ B.drop (k + 1)) = B') : bl B = bl B' := by
  subst hB; subst hc
  induction B generalizing k with
  | nil => simp at h
  | cons b B ih =>
    cases k with
    | zero =>
      have hb : b = fam n f := by simpa using h
      subst hb
      show fam n f ++ bl B = famL f i ++ ([f i] ++ (famH n f i ++ bl B))
      rw [fam_split f hi, List.append_assoc, List.append_assoc]
    | succ k =>
      show b ++ bl B = b ++ bl (B.take k ++ ([famL f i, [f i], famH n f i] ++ B.drop (k + 1)))
      rw [ih k (by simpa using h)]
theorem bl_close {B B' : List va_W} (k : Nat) {n i : Nat} {f g : Nat → Nat × va_E} {c : Nat × va_E} (hi : i < n) (hc : g i = c) (hg : ∀ j, j ≠ i → g j = f j) (hB : B'.take k ++ ([famL f i, [c], famH n f i] ++ B'.drop (k + 1)) = B) (h : B'[k]? = some (fam n g)) : bl B = bl B' := by
  rw [← famL_up hg, ← famH_up hg] at hB
  exact (bl_open k h hi hc hB).symm
