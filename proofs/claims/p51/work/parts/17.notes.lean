abbrev Nte := Int × Int × Int
def ntX (G : Nat → Nat → Int) (j : Nat) : Nte := (G 0 j, G 1 j, G 2 j)
def soonL : List Nte → Int
  | [] => 1000000
  | x :: t => min x.1 (soonL t)
def ansL : List Nte → Int
  | [] => 0
  | x :: t => (if x.2.1 = -1 then 1 else 0) + ansL t
def CapOk (n : Nat) : Prop := n = 16 ∨ n = 32 ∨ n = 64 ∨ n = 128 ∨ n = 256 ∨ n = 512 ∨ n = 1024 ∨ n = 2048 ∨ n = 4096
theorem CapOk.le {n : Nat} (h : CapOk n) : 16 ≤ n ∧ n ≤ 4096 := by unfold CapOk at h; omega
theorem CapOk.dbl {n : Nat} (h : CapOk n) (h2 : n < 2100) : CapOk (n * 2) ∧ n ≤ 2048 := by unfold CapOk at *; omega
theorem CapOk.up {n k : Nat} (h : CapOk n) (h2 : CapOk k) (h3 : n < k) : 2 * n ≤ k := by
  unfold CapOk at h h2
  rcases h with h | h | h | h | h | h | h | h | h <;> omega
def NtRep (G : Nat → Nat → Int) (ct so : Int) (L : List Nte) : Prop := ct = L.length ∧ L.length ≤ 2100 ∧ so = soonL L ∧ ∀ j : Nat, j < L.length → L.getD j (0, 0, 0) = ntX G j
def NtIn (L : List Nte) : Prop := ∀ x ∈ L, (0 ≤ x.1 ∧ x.1 < 1000000) ∧ (-1 ≤ x.2.1 ∧ x.2.1 ≤ 5000) ∧ -5000 ≤ x.2.2 ∧ x.2.2 ≤ 5000
def putN (L : List Nte) (x : Nte) : List Nte := if L.length < 2100 then L ++ [x] else L
theorem soonL_app (L : List Nte) (x : Nte) : soonL (L ++ [x]) = min (soonL L) x.1 := by
  induction L with
  | nil => show min x.1 1000000 = min 1000000 x.1; omega
  | cons y t ih => show min y.1 (soonL (t ++ [x])) = min (min y.1 (soonL t)) x.1; rw [ih]; omega
theorem ansL_app (L : List Nte) (x : Nte) : ansL (L ++ [x]) = ansL L + (if x.2.1 = -1 then 1 else 0) := by
  induction L with
  | nil => show _ + 0 = 0 + _; omega
  | cons y t ih => show _ + ansL (t ++ [x]) = _ + ansL t + _; rw [ih]; omega
theorem take_s {L : List Nte} {i : Nat} (h : i < L.length) : L.take (i + 1) = L.take i ++ [L.getD i (0, 0, 0)] := by
  rw [List.take_succ_eq_append_getElem h, List.getD_eq_getElem?_getD, List.getElem?_eq_getElem h]
  rfl
theorem getD_mem {L : List Nte} {i : Nat} (h : i < L.length) : L.getD i (0, 0, 0) ∈ L := by
  rw [List.getD_eq_getElem?_getD, List.getElem?_eq_getElem h]
  exact List.getElem_mem h
theorem soonL_in {L : List Nte} (h : NtIn L) : 0 ≤ soonL L ∧ soonL L ≤ 1000000 := by
  induction L with
  | nil => exact ⟨by decide, Int.le_refl _⟩
  | cons x t ih =>
    have h1 := h x List.mem_cons_self
    have h2 := ih (fun y hy => h y (List.mem_cons_of_mem _ hy))
    show 0 ≤ min x.1 (soonL t) ∧ min x.1 (soonL t) ≤ 1000000
    omega
theorem ansL_le (L : List Nte) : 0 ≤ ansL L ∧ ansL L ≤ L.length := by
  induction L with
  | nil => exact ⟨Int.le_refl _, Int.le_refl _⟩
  | cons x t ih =>
    show 0 ≤ (if x.2.1 = -1 then 1 else 0) + ansL t ∧ (if x.2.1 = -1 then 1 else 0) + ansL t ≤ ((t.length + 1 : Nat) : Int)
    split <;> omega
theorem NtIn.take {L : List Nte} (h : NtIn L) (i : Nat) : NtIn (L.take i) := fun x hx => h x (List.mem_of_mem_take hx)
theorem NtRep.put {G Z : Nat → Nat → Int} {ct so a b c so2 : Int} {L : List Nte} {i : Nat} (h : NtRep G ct so L) (hi : ct = i) (hl : L.length < 2100) (hG : ∀ j : Nat, j < i → ntX Z j = ntX G j) (hx : ntX Z i = (a, b, c)) (hs : so2 = min so a) : NtRep Z (ct + 1) so2 (putN L (a, b, c)) := by
  obtain ⟨h1, h2, h3, h4⟩ := h
  unfold putN
  rw [if_pos hl]
  have hL : L.length = i := by omega
  refine ⟨by rw [List.length_append, h1]; rfl, by rw [List.length_append]; show L.length + 1 ≤ 2100; omega, by rw [soonL_app, hs, h3], fun j hj => ?_⟩
  rw [List.length_append] at hj
  have hj : j < L.length + 1 := hj
  by_cases e : j = i
  · subst e
    rw [hx, List.getD_eq_getElem?_getD, List.getElem?_append_right (by omega), hL, Nat.sub_self]; rfl
  · rw [hG j (by omega), ← h4 j (by omega), List.getD_eq_getElem?_getD, List.getD_eq_getElem?_getD, List.getElem?_append_left (by omega)]
theorem NtRep.cp {G Z : Nat → Nat → Int} {ct so : Int} {L : List Nte} (h : NtRep G ct so L) (hG : ∀ j : Nat, j < L.length → ntX Z j = ntX G j) : NtRep Z ct so L :=
  ⟨h.1, h.2.1, h.2.2.1, fun j hj => (h.2.2.2 j hj).trans (hG j hj).symm⟩
theorem NtRep.nil {G : Nat → Nat → Int} {ct so : Int} (h : ct = 0) (h2 : so = 1000000) : NtRep G ct so [] := ⟨h, by decide, h2, fun j hj => absurd hj (Nat.not_lt_zero j)⟩
def ntB (τ : Nat → ClassId) (nk : Nat) (na : Nat → Nat) (cap : Nat) (G : Nat → Nat → Int) (ct so : Int) : va_W := [(nk, .inr (6, [.ref (na 0), .ref (na 1), .ref (na 2), .int (iI ct), .int (iI so)])), (na 0, .inl (τ 0, cap, .inl (fun j => iI (G 0 j)))), (na 1, .inl (τ 0, cap, .inl (fun j => iI (G 1 j)))), (na 2, .inl (τ 0, cap, .inl (fun j => iI (G 2 j))))]
set_option maxHeartbeats 4000000 in
set_option maxRecDepth 100000 in
theorem k_copyOf (l : Launch) (D : va_G) (τ : Nat → ClassId) (sz T0 KC KS : Nat) (a n N2 : Nat) (g : Nat → Int) (h1 : n < N2) (h2 : N2 ≤ 100000) : Met l yJ7_copyOf_59c91 (Cond.code yJ7_copyOf_59c91 cJ7_copyOf_59c91 3 (some (.array .int)) :: wALL) { frames := 1, cells := KC - sz, slots := KS - T0, locals := 60 } (Pz D τ (bl [[(a, .inl (τ 0, n, .inl (fun j => iI ((g) j))))]]) sz T0 [.ref a, .int (iI ((N2 : Nat) : Int))] KC KS (1) (N2)) (va_Qq (fun (r : Option Nat) (u : Nat) => r = some u) (Bz D (va_A (bl [[(a, .inl (τ 0, n, .inl (fun j => iI ((g) j))))]]) sz) (fun (u : Nat) => [[(a, .inl (τ 0, n, .inl (fun j => iI ((g) j))))], [(u, .inl (τ 0, N2, .inl (fun j => iI ((cpz g (fun _ => 0) n) j))))]]) KC KS (fun (u : Nat) => 0) (fun (u : Nat) => 0)) (va_A (bl [[(a, .inl (τ 0, n, .inl (fun j => iI ((g) j))))]]) sz)) (KC - sz) (KS - T0) (va_A (bl [[(a, .inl (τ 0, n, .inl (fun j => iI ((g) j))))]]) sz) := by
  refine bodyZ (by decide) (Nat.le_of_ble_eq_true rfl) (fun p e s m below meth c ls B hr hlk hin hsz hT0 hz1 hz2 Y hl => ?_)
  have hl : lv_has ls 3 [(0, .ref a), (1, .int (iI ((N2 : Nat) : Int)))] := hl
  have B : CallFix p m c cJ7_copyOf_59c91 3 s _ wALL RJ7 := B
  generalize va_A (bl [[(a, .inl (τ 0, n, .inl (fun j => iI ((g) j))))]]) sz = A at Y ⊢
  refine lv_iload_n B.1 B.2.1 dJ7_copyOf_59c91_0 rfl (lv_at hl 1 rfl) ?_
  refine lv_aload_n B.1 B.2.1 dJ7_copyOf_59c91_1 rfl (lv_at hl 0 rfl) ?_
  refine b_alen (v := (iI ((n : Nat) : Int))) B Y 0 rfl 0 rfl (iI_nat _) dJ7_copyOf_59c91_2 ?_
  refine lv_icmp_ne (tgt := 14) B.1 B.2.1 dJ7_copyOf_59c91_3 (by decide) (fun _ => ?_) (fun h => absurd h (mt (iI_eq (a := ((N2 : Nat) : Int)) (b := ((n : Nat) : Int)) (by omega) (by omega) (by omega) (by omega)).mp (by omega))) 
  refine lv_iload_n B.1 B.2.1 dJ7_copyOf_59c91_14 rfl (lv_at hl 1 rfl) ?_
  refine b_newi (N' := N2) B Y q_80 (iI_pos (by omega)) (iI_clamp (by omega)) (by omega) (by show _ ≤ KC - s.heap.size; omega) (by show _ ≤ KS - totS s.heap; omega) dJ7_copyOf_59c91_15 (fun v2 H Y => ?_)
  have Y : Wd D τ s A s.heap (bl [[(a, .inl (τ 0, n, .inl (fun j => iI ((g) j))))], [(v2, .inl (τ 0, N2, .inl (fun j => iI ((fun _ => 0) j))))]]) _ _ := Y
  refine lv_astore_n (lv' := [(2, .ref v2), (0, .ref a), (1, .int (iI ((N2 : Nat) : Int)))]) B.1 B.2.1 dJ7_copyOf_59c91_17 rfl hl (by decide) rfl (fun ls hl => ?_)
  refine lv_aload_n B.1 B.2.1 dJ7_copyOf_59c91_18 rfl (lv_at hl 1 rfl) ?_
  refine lv_iconst (v := (iI (0))) B.1 B.2.1 dJ7_copyOf_59c91_19 (by decide) ?_
  refine lv_aload_n B.1 B.2.1 dJ7_copyOf_59c91_20 rfl (lv_at hl 0 rfl) ?_
  refine lv_iconst (v := (iI (0))) B.1 B.2.1 dJ7_copyOf_59c91_21 (by decide) ?_
  refine lv_aload_n B.1 B.2.1 dJ7_copyOf_59c91_22 rfl (lv_at hl 1 rfl) ?_
  refine b_alen (v := (iI ((n : Nat) : Int))) B Y 0 rfl 0 rfl (iI_nat _) dJ7_copyOf_59c91_23 ?_
  refine lv_iload_n B.1 B.2.1 dJ7_copyOf_59c91_24 rfl (lv_at hl 2 rfl) ?_
  refine t_mmin (v := (iI ((n : Nat) : Int))) B q_650 q_618 q_1 q_619 hl.1 (Nat.le_of_ble_eq_true rfl) (Nat.le_of_ble_eq_true rfl) (by show _ ≤ KC - s.heap.size; omega) (by show _ ≤ KS - totS s.heap; omega) (by rw [iI_mn (by omega) (by omega) (by omega) (by omega)] <;> congr 1 <;> omega) dJ7_copyOf_59c91_25 ?_
  refine b_copyi (n' := n) (h := fun j => iI ((cpz (g) (fun _ => 0) n) j)) (B' := [[(a, .inl (τ 0, n, .inl (fun j => iI ((g) j))))], [(v2, .inl (τ 0, N2, .inl (fun j => iI ((cpz (g) (fun _ => 0) n) j))))]]) B Y q_651 q_622 q_621 q_18 hl.1 0 1 rfl rfl (iI_pos (by omega)) (iI_clamp (by omega)) (by omega) (by omega) cpz_ok rfl (Nat.le_of_ble_eq_true rfl) (Nat.le_of_ble_eq_true rfl) dJ7_copyOf_59c91_28 (fun H locs Y => ?_)
  refine lv_aload_n B.1 B.2.1 dJ7_copyOf_59c91_31 rfl (lv_at hl 0 rfl) ?_
  exact eQAz (r := some v2) B hr hlk Y v2 rfl [0, 1] (by decide) rfl (by omega) (by omega) dJ7_copyOf_59c91_32

set_option maxHeartbeats 4000000 in
set_option maxRecDepth 100000 in
theorem k_X4_widen (l : Launch) (D : va_G) (τ : Nat → ClassId) (sz T0 KC KS : Nat) (nk : Nat) (na : Nat → Nat) (cap : Nat) (G : Nat → Nat → Int) (ct so : Int) (hK : CapOk cap) (N2 : Nat) (h1 : cap < N2) (h2 : N2 ≤ 100000) : Met l yX4_widen (Cond.code yX4_widen cX4_widen 2 none :: wALL) { frames := 2, cells := KC - sz, slots := KS - T0, locals := 82 } (Pz D τ (bl [(ntB τ nk na cap G ct so)]) sz T0 [.ref nk, .int (iI ((N2 : Nat) : Int))] KC KS (3) (3 * N2)) (va_Qv (fun (u : (Nat → Nat)) => True) (Bz D (va_A (bl [(ntB τ nk na cap G ct so)]) sz) (fun (u : (Nat → Nat)) => [(ntB τ nk u N2 (fun i => cpz (G i) (fun _ => 0) cap) ct so)]) KC KS (fun (u : (Nat → Nat)) => 0) (fun (u : (Nat → Nat)) => 0)) (va_A (bl [(ntB τ nk na cap G ct so)]) sz)) (KC - sz) (KS - T0) (va_A (bl [(ntB τ nk na cap G ct so)]) sz) := by
  refine bodyZ (by decide) (Nat.le_of_ble_eq_true rfl) (fun p e s m below meth c ls B hr hlk hin hsz hT0 hz1 hz2 Y hl => ?_)
  have hl : lv_has ls 2 [(0, .ref nk), (1, .int (iI ((N2 : Nat) : Int)))] := hl
  have B : CallFix p m c cX4_widen 2 s _ wALL RX4 := B
  generalize va_A (bl [(ntB τ nk na cap G ct so)]) sz = A at Y ⊢
  have hk1 := hK.le
  have Y : Wd D τ s A s.heap (bl [[(nk, .inr (6, [.ref (na 0), .ref (na 1), .ref (na 2), .int (iI (ct)), .int (iI (so))]))], [((na 0), .inl (τ 0, cap, .inl (fun j => iI ((G 0) j))))], [((na 1), .inl (τ 0, cap, .inl (fun j => iI ((G 1) j))))], [((na 2), .inl (τ 0, cap, .inl (fun j => iI ((G 2) j))))]]) _ _ := Y
  refine lv_aload_n B.1 B.2.1 dX4_widen_0 rfl (lv_at hl 0 rfl) ?_
  refine lv_aload_n B.1 B.2.1 dX4_widen_1 rfl (lv_at hl 0 rfl) ?_
  refine gf_X4_9 B Y 0 rfl rfl dX4_widen_2 ?_
  refine lv_iload_n B.1 B.2.1 dX4_widen_5 rfl (lv_at hl 1 rfl) ?_
  refine qQz (Cs := [[((na 0), .inl (τ 0, cap, .inl (fun j => iI ((G 0) j))))]]) (Rs := [[(nk, .inr (6, [.ref (na 0), .ref (na 1), .ref (na 2), .int (iI (ct)), .int (iI (so))]))], [((na 1), .inl (τ 0, cap, .inl (fun j => iI ((G 1) j))))], [((na 2), .inl (τ 0, cap, .inl (fun j => iI ((G 2) j))))]]) (pcn := 1) (psn := N2) (xc := 2) (xs := 2 * N2) Y [1] [0, 2, 3] (by decide) rfl hz1 hz2 (by omega) (by omega) (fun hz hf => cSz (As := [.ref (na 0), .int (iI ((N2 : Nat) : Int))]) (rest := [.ref nk]) B Y [1] (by decide) rfl (k_copyOf l D τ _ _ _ _ (na 0) cap N2 (G 0) (by omega) (by omega)) q_640 q_641 q_7 q_642 rfl rfl hd_J7_copyOf_59c91 ⟨(Nat.le_of_ble_eq_true rfl), (Nat.le_of_ble_eq_true rfl)⟩ rfl hl.1 rfl (Nat.le_of_ble_eq_true rfl) dX4_widen_6 hz hf) (fun r v1 H locs cells slots hw Y hz1 hz2 => ?_)
  subst hw
  have Y : Wd D τ s A s.heap (bl [[((na 0), .inl (τ 0, cap, .inl (fun j => iI ((G 0) j))))], [(v1, .inl (τ 0, N2, .inl (fun j => iI ((cpz (G 0) (fun _ => 0) cap) j))))], [(nk, .inr (6, [.ref (na 0), .ref (na 1), .ref (na 2), .int (iI (ct)), .int (iI (so))]))], [((na 1), .inl (τ 0, cap, .inl (fun j => iI ((G 1) j))))], [((na 2), .inl (τ 0, cap, .inl (fun j => iI ((G 2) j))))]]) _ _ := Y
  show W _ _ _ _ _ _ _ _ _ _ _ _ _ _ _ (F0 m _ ls (.ref v1 :: .ref nk :: []))
  refine pf_X4_9 (B' := [[((na 0), .inl (τ 0, cap, .inl (fun j => iI ((G 0) j))))], [(v1, .inl (τ 0, N2, .inl (fun j => iI ((cpz (G 0) (fun _ => 0) cap) j))))], [(nk, .inr (6, [.ref v1, .ref (na 1), .ref (na 2), .int (iI (ct)), .int (iI (so))]))], [((na 1), .inl (τ 0, cap, .inl (fun j => iI ((G 1) j))))], [((na 2), .inl (τ 0, cap, .inl (fun j => iI ((G 2) j))))]]) B Y rfl rfl 2 rfl (Nat.le_of_ble_eq_true rfl) rfl dX4_widen_9 (fun H locs Y => ?_)
  refine lv_aload_n B.1 B.2.1 dX4_widen_12 rfl (lv_at hl 0 rfl) ?_
  refine lv_aload_n B.1 B.2.1 dX4_widen_13 rfl (lv_at hl 0 rfl) ?_
  refine gf_X4_15 B Y 2 rfl rfl dX4_widen_14 ?_
  refine lv_iload_n B.1 B.2.1 dX4_widen_17 rfl (lv_at hl 1 rfl) ?_
  refine qQz (Cs := [[((na 1), .inl (τ 0, cap, .inl (fun j => iI ((G 1) j))))]]) (Rs := [[((na 0), .inl (τ 0, cap, .inl (fun j => iI ((G 0) j))))], [(v1, .inl (τ 0, N2, .inl (fun j => iI ((cpz (G 0) (fun _ => 0) cap) j))))], [(nk, .inr (6, [.ref v1, .ref (na 1), .ref (na 2), .int (iI (ct)), .int (iI (so))]))], [((na 2), .inl (τ 0, cap, .inl (fun j => iI ((G 2) j))))]]) (pcn := 1) (psn := N2) (xc := 1) (xs := N2) Y [3] [0, 1, 2, 4] (by decide) rfl hz1 hz2 (by omega) (by omega) (fun hz hf => cSz (As := [.ref (na 1), .int (iI ((N2 : Nat) : Int))]) (rest := [.ref nk]) B Y [3] (by decide) rfl (k_copyOf l D τ _ _ _ _ (na 1) cap N2 (G 1) (by omega) (by omega)) q_640 q_641 q_7 q_642 rfl rfl hd_J7_copyOf_59c91 ⟨(Nat.le_of_ble_eq_true rfl), (Nat.le_of_ble_eq_true rfl)⟩ rfl hl.1 rfl (Nat.le_of_ble_eq_true rfl) dX4_widen_18 hz hf) (fun r v2 H locs cells slots hw Y hz1 hz2 => ?_)
  subst hw
  have Y : Wd D τ s A s.heap (bl [[((na 1), .inl (τ 0, cap, .inl (fun j => iI ((G 1) j))))], [(v2, .inl (τ 0, N2, .inl (fun j => iI ((cpz (G 1) (fun _ => 0) cap) j))))], [((na 0), .inl (τ 0, cap, .inl (fun j => iI ((G 0) j))))], [(v1, .inl (τ 0, N2, .inl (fun j => iI ((cpz (G 0) (fun _ => 0) cap) j))))], [(nk, .inr (6, [.ref v1, .ref (na 1), .ref (na 2), .int (iI (ct)), .int (iI (so))]))], [((na 2), .inl (τ 0, cap, .inl (fun j => iI ((G 2) j))))]]) _ _ := Y
  show W _ _ _ _ _ _ _ _ _ _ _ _ _ _ _ (F0 m _ ls (.ref v2 :: .ref nk :: []))
  refine pf_X4_15 (B' := [[((na 1), .inl (τ 0, cap, .inl (fun j => iI ((G 1) j))))], [(v2, .inl (τ 0, N2, .inl (fun j => iI ((cpz (G 1) (fun _ => 0) cap) j))))], [((na 0), .inl (τ 0, cap, .inl (fun j => iI ((G 0) j))))], [(v1, .inl (τ 0, N2, .inl (fun j => iI ((cpz (G 0) (fun _ => 0) cap) j))))], [(nk, .inr (6, [.ref v1, .ref v2, .ref (na 2), .int (iI (ct)), .int (iI (so))]))], [((na 2), .inl (τ 0, cap, .inl (fun j => iI ((G 2) j))))]]) B Y rfl rfl 4 rfl (Nat.le_of_ble_eq_true rfl) rfl dX4_widen_21 (fun H locs Y => ?_)
  refine lv_aload_n B.1 B.2.1 dX4_widen_24 rfl (lv_at hl 0 rfl) ?_
  refine lv_aload_n B.1 B.2.1 dX4_widen_25 rfl (lv_at hl 0 rfl) ?_
  refine gf_X4_18 B Y 4 rfl rfl dX4_widen_26 ?_
  refine lv_iload_n B.1 B.2.1 dX4_widen_29 rfl (lv_at hl 1 rfl) ?_
  refine qQz (Cs := [[((na 2), .inl (τ 0, cap, .inl (fun j => iI ((G 2) j))))]]) (Rs := [[((na 1), .inl (τ 0, cap, .inl (fun j => iI ((G 1) j))))], [(v2, .inl (τ 0, N2, .inl (fun j => iI ((cpz (G 1) (fun _ => 0) cap) j))))], [((na 0), .inl (τ 0, cap, .inl (fun j => iI ((G 0) j))))], [(v1, .inl (τ 0, N2, .inl (fun j => iI ((cpz (G 0) (fun _ => 0) cap) j))))], [(nk, .inr (6, [.ref v1, .ref v2, .ref (na 2), .int (iI (ct)), .int (iI (so))]))]]) (pcn := 1) (psn := N2) (xc := 0) (xs := 0) Y [5] [0, 1, 2, 3, 4] (by decide) rfl hz1 hz2 (by omega) (by omega) (fun hz hf => cSz (As := [.ref (na 2), .int (iI ((N2 : Nat) : Int))]) (rest := [.ref nk]) B Y [5] (by decide) rfl (k_copyOf l D τ _ _ _ _ (na 2) cap N2 (G 2) (by omega) (by omega)) q_640 q_641 q_7 q_642 rfl rfl hd_J7_copyOf_59c91 ⟨(Nat.le_of_ble_eq_true rfl), (Nat.le_of_ble_eq_true rfl)⟩ rfl hl.1 rfl (Nat.le_of_ble_eq_true rfl) dX4_widen_30 hz hf) (fun r v3 H locs cells slots hw Y hz1 hz2 => ?_)
  subst hw
  have Y : Wd D τ s A s.heap (bl [[((na 2), .inl (τ 0, cap, .inl (fun j => iI ((G 2) j))))], [(v3, .inl (τ 0, N2, .inl (fun j => iI ((cpz (G 2) (fun _ => 0) cap) j))))], [((na 1), .inl (τ 0, cap, .inl (fun j => iI ((G 1) j))))], [(v2, .inl (τ 0, N2, .inl (fun j => iI ((cpz (G 1) (fun _ => 0) cap) j))))], [((na 0), .inl (τ 0, cap, .inl (fun j => iI ((G 0) j))))], [(v1, .inl (τ 0, N2, .inl (fun j => iI ((cpz (G 0) (fun _ => 0) cap) j))))], [(nk, .inr (6, [.ref v1, .ref v2, .ref (na 2), .int (iI (ct)), .int (iI (so))]))]]) _ _ := Y
  show W _ _ _ _ _ _ _ _ _ _ _ _ _ _ _ (F0 m _ ls (.ref v3 :: .ref nk :: []))
  refine pf_X4_18 (B' := [[((na 2), .inl (τ 0, cap, .inl (fun j => iI ((G 2) j))))], [(v3, .inl (τ 0, N2, .inl (fun j => iI ((cpz (G 2) (fun _ => 0) cap) j))))], [((na 1), .inl (τ 0, cap, .inl (fun j => iI ((G 1) j))))], [(v2, .inl (τ 0, N2, .inl (fun j => iI ((cpz (G 1) (fun _ => 0) cap) j))))], [((na 0), .inl (τ 0, cap, .inl (fun j => iI ((G 0) j))))], [(v1, .inl (τ 0, N2, .inl (fun j => iI ((cpz (G 0) (fun _ => 0) cap) j))))], [(nk, .inr (6, [.ref v1, .ref v2, .ref v3, .int (iI (ct)), .int (iI (so))]))]]) B Y rfl rfl 6 rfl (Nat.le_of_ble_eq_true rfl) rfl dX4_widen_33 (fun H locs Y => ?_)
  have Y : Wd D τ s A s.heap (bl [[(nk, .inr (6, [.ref v1, .ref v2, .ref v3, .int (iI (ct)), .int (iI (so))]))], [(v1, .inl (τ 0, N2, .inl (fun j => iI ((cpz (G 0) (fun _ => 0) cap) j))))], [(v2, .inl (τ 0, N2, .inl (fun j => iI ((cpz (G 1) (fun _ => 0) cap) j))))], [(v3, .inl (τ 0, N2, .inl (fun j => iI ((cpz (G 2) (fun _ => 0) cap) j))))], [((na 2), .inl (τ 0, cap, .inl (fun j => iI ((G 2) j))))], [((na 1), .inl (τ 0, cap, .inl (fun j => iI ((G 1) j))))], [((na 0), .inl (τ 0, cap, .inl (fun j => iI ((G 0) j))))]]) _ _ := Y.pick [6, 5, 3, 1, 0, 2, 4] (by decide) rfl
  have Y : Wd D τ s A s.heap (bl [(ntB τ nk (vecA [v1, v2, v3]) N2 (fun i => cpz (G i) (fun _ => 0) cap) ct so), [((na 2), .inl (τ 0, cap, .inl (fun j => iI ((G 2) j))))], [((na 1), .inl (τ 0, cap, .inl (fun j => iI ((G 1) j))))], [((na 0), .inl (τ 0, cap, .inl (fun j => iI ((G 0) j))))]]) _ _ := Y
  exact eVz B hr hlk Y (vecA [v1, v2, v3]) trivial [0] (by decide) rfl (by omega) (by omega) dX4_widen_36

set_option maxHeartbeats 4000000 in
set_option maxRecDepth 100000 in
theorem k_X4_clear (l : Launch) (D : va_G) (τ : Nat → ClassId) (sz : Nat) (nk : Nat) (na : Nat → Nat) (cap : Nat) (G : Nat → Nat → Int) (ct so : Int) (hK : CapOk cap) : Met l yX4_clear (Cond.code yX4_clear cX4_clear 1 none :: wALL) { frames := 0, cells := 0, slots := 0, locals := 0 } (Pw D τ (bl [(ntB τ nk na cap G ct so)]) sz [.ref nk]) (va_Qv (fun (_ : Unit) => True) (Bb D (va_A (bl [(ntB τ nk na cap G ct so)]) sz) (fun (_ : Unit) => [(ntB τ nk na cap G 0 1000000)])) (va_A (bl [(ntB τ nk na cap G ct so)]) sz)) 0 0 (va_A (bl [(ntB τ nk na cap G ct so)]) sz) := by
  refine bodyW (by decide) (Nat.le_of_ble_eq_true rfl) (fun p e s m below meth c ls B hr hlk hin hsz Y hl => ?_)
  have hl : lv_has ls 1 [(0, .ref nk)] := hl
  have B : CallFix p m c cX4_clear 1 s _ wALL RX4 := B
  generalize va_A (bl [(ntB τ nk na cap G ct so)]) sz = A at Y ⊢
  have hk1 := hK.le
  have Y : Wd D τ s A s.heap (bl [[(nk, .inr (6, [.ref (na 0), .ref (na 1), .ref (na 2), .int (iI (ct)), .int (iI (so))]))], [((na 0), .inl (τ 0, cap, .inl (fun j => iI ((G 0) j))))], [((na 1), .inl (τ 0, cap, .inl (fun j => iI ((G 1) j))))], [((na 2), .inl (τ 0, cap, .inl (fun j => iI ((G 2) j))))]]) _ _ := Y
  refine lv_aload_n B.1 B.2.1 dX4_clear_0 rfl (lv_at hl 0 rfl) ?_
  refine lv_iconst (v := (iI (0))) B.1 B.2.1 dX4_clear_1 (by decide) ?_
  refine pf_X4_21 (B' := [[(nk, .inr (6, [.ref (na 0), .ref (na 1), .ref (na 2), .int (iI (0)), .int (iI (so))]))], [((na 0), .inl (τ 0, cap, .inl (fun j => iI ((G 0) j))))], [((na 1), .inl (τ 0, cap, .inl (fun j => iI ((G 1) j))))], [((na 2), .inl (τ 0, cap, .inl (fun j => iI ((G 2) j))))]]) B Y 0 rfl (Nat.le_of_ble_eq_true rfl) rfl dX4_clear_2 (fun H locs Y => ?_)
  refine lv_aload_n B.1 B.2.1 dX4_clear_5 rfl (lv_at hl 0 rfl) ?_
  refine lv_ldc B.1 B.2.1 B.2.2.2.1 (B.2.2.2.2 _ q_172) dX4_clear_6 ?_
  refine lv_cv (v := (iI (1000000))) (by decide) ?_
  refine pf_X4_26 (B' := [[(nk, .inr (6, [.ref (na 0), .ref (na 1), .ref (na 2), .int (iI (0)), .int (iI (1000000))]))], [((na 0), .inl (τ 0, cap, .inl (fun j => iI ((G 0) j))))], [((na 1), .inl (τ 0, cap, .inl (fun j => iI ((G 1) j))))], [((na 2), .inl (τ 0, cap, .inl (fun j => iI ((G 2) j))))]]) B Y 0 rfl (Nat.le_of_ble_eq_true rfl) rfl dX4_clear_8 (fun H locs Y => ?_)
  have Y : Wd D τ s A s.heap (bl [(ntB τ nk na cap G 0 1000000)]) _ _ := Y
  exact eV B hr hlk Y () trivial [0] (by decide) rfl (Nat.le_of_ble_eq_true rfl) (Nat.le_of_ble_eq_true rfl) dX4_clear_11

set_option maxHeartbeats 4000000 in
set_option maxRecDepth 100000 in
theorem k_X4_isDue (l : Launch) (D : va_G) (τ : Nat → ClassId) (sz : Nat) (nk : Nat) (na : Nat → Nat) (cap : Nat) (G : Nat → Nat → Int) (ct so : Int) (hK : CapOk cap) (j : Nat) (hj : j < cap) (tm : Int) (h1 : 0 ≤ G 0 j ∧ G 0 j < 1000000) (h2 : 0 ≤ tm ∧ tm < 1000000) : Met l yX4_isDue (Cond.code yX4_isDue cX4_isDue 3 (some .boolean) :: wALL) { frames := 1, cells := 0, slots := 0, locals := 21 } (Pw D τ (bl [(ntB τ nk na cap G ct so)]) sz [.ref nk, .int (iI ((j : Nat) : Int)), .int (iI (tm))]) (va_Qi (fun (r : Int32) (_ : Unit) => r = iI (if G 0 j ≤ tm then 1 else 0)) (Bb D (va_A (bl [(ntB τ nk na cap G ct so)]) sz) (fun (_ : Unit) => [(ntB τ nk na cap G ct so)])) (va_A (bl [(ntB τ nk na cap G ct so)]) sz)) 0 0 (va_A (bl [(ntB τ nk na cap G ct so)]) sz) := by
  refine bodyW (by decide) (Nat.le_of_ble_eq_true rfl) (fun p e s m below meth c ls B hr hlk hin hsz Y hl => ?_)
  have hl : lv_has ls 3 [(0, .ref nk), (1, .int (iI ((j : Nat) : Int))), (2, .int (iI (tm)))] := hl
  have B : CallFix p m c cX4_isDue 3 s _ wALL RX4 := B
  generalize va_A (bl [(ntB τ nk na cap G ct so)]) sz = A at Y ⊢
  have hk1 := hK.le
  have Y : Wd D τ s A s.heap (bl [[(nk, .inr (6, [.ref (na 0), .ref (na 1), .ref (na 2), .int (iI (ct)), .int (iI (so))]))], [((na 0), .inl (τ 0, cap, .inl (fun j => iI ((G 0) j))))], [((na 1), .inl (τ 0, cap, .inl (fun j => iI ((G 1) j))))], [((na 2), .inl (τ 0, cap, .inl (fun j => iI ((G 2) j))))]]) _ _ := Y
  refine lv_aload_n B.1 B.2.1 dX4_isDue_0 rfl (lv_at hl 0 rfl) ?_
  refine gf_X4_9 B Y 0 rfl rfl dX4_isDue_1 ?_
  refine lv_iload_n B.1 B.2.1 dX4_isDue_4 rfl (lv_at hl 1 rfl) ?_
  refine qI (Cs := [[((na 0), .inl (τ 0, cap, .inl (fun j => iI ((G 0) j))))]]) (Rs := [[(nk, .inr (6, [.ref (na 0), .ref (na 1), .ref (na 2), .int (iI (ct)), .int (iI (so))]))], [((na 1), .inl (τ 0, cap, .inl (fun j => iI ((G 1) j))))], [((na 2), .inl (τ 0, cap, .inl (fun j => iI ((G 2) j))))]]) Y [1] [0, 2, 3] (by decide) rfl (cSN (As := [.ref (na 0), .int (iI ((j : Nat) : Int))]) (rest := []) B Y [1] (by decide) rfl (k_valueIn l D τ _ (na 0) cap j (fun j => iI ((G 0) j)) (by omega) (by omega)) (Y.1.2.1 _ nw_566) q_567 q_2 q_568 rfl rfl hd_X9_valueIn ⟨(Nat.le_of_ble_eq_true rfl), (Nat.le_of_ble_eq_true rfl)⟩ rfl hl.1 rfl (Nat.le_of_ble_eq_true rfl) dX4_isDue_5 ⟨(Nat.le_of_ble_eq_true rfl), (Nat.le_of_ble_eq_true rfl)⟩) (fun r u H locs hw Y => ?_)
  obtain rfl := hw
  have Y : Wd D τ s A s.heap (bl [[((na 0), .inl (τ 0, cap, .inl (fun j => iI ((G 0) j))))], [(nk, .inr (6, [.ref (na 0), .ref (na 1), .ref (na 2), .int (iI (ct)), .int (iI (so))]))], [((na 1), .inl (τ 0, cap, .inl (fun j => iI ((G 1) j))))], [((na 2), .inl (τ 0, cap, .inl (fun j => iI ((G 2) j))))]]) _ _ := Y
  refine lv_iload_n B.1 B.2.1 dX4_isDue_8 rfl (lv_at hl 2 rfl) ?_
  refine lv_icmp_gt (tgt := 16) B.1 B.2.1 dX4_isDue_9 (by decide) (fun c2 => ?_) (fun c2 => ?_)
  · have c2 := (iI_lt (a := tm) (b := (G 0) j) (by omega) (by omega) (by omega) (by omega)).mp c2
    refine lv_iconst (v := (iI (0))) B.1 B.2.1 dX4_isDue_16 (by decide) ?_
    have Y : Wd D τ s A s.heap (bl [[(nk, .inr (6, [.ref (na 0), .ref (na 1), .ref (na 2), .int (iI (ct)), .int (iI (so))]))], [((na 0), .inl (τ 0, cap, .inl (fun j => iI ((G 0) j))))], [((na 1), .inl (τ 0, cap, .inl (fun j => iI ((G 1) j))))], [((na 2), .inl (τ 0, cap, .inl (fun j => iI ((G 2) j))))]]) _ _ := Y.pick [1, 0, 2, 3] (by decide) rfl
    have Y : Wd D τ s A s.heap (bl [(ntB τ nk na cap G ct so)]) _ _ := Y
    exact eZ B hr hlk Y (by decide) () (by rw [if_neg (by omega)]) [0] (by decide) rfl (Nat.le_of_ble_eq_true rfl) (Nat.le_of_ble_eq_true rfl) dX4_isDue_17
  · have c2 := mt (iI_lt (a := tm) (b := (G 0) j) (by omega) (by omega) (by omega) (by omega)).mpr c2
    refine lv_iconst (v := (iI (1))) B.1 B.2.1 dX4_isDue_12 (by decide) ?_
    refine lv_goto (tgt := 17) B.1 B.2.1 dX4_isDue_13 (by decide) ?_
    have Y : Wd D τ s A s.heap (bl [[(nk, .inr (6, [.ref (na 0), .ref (na 1), .ref (na 2), .int (iI (ct)), .int (iI (so))]))], [((na 0), .inl (τ 0, cap, .inl (fun j => iI ((G 0) j))))], [((na 1), .inl (τ 0, cap, .inl (fun j => iI ((G 1) j))))], [((na 2), .inl (τ 0, cap, .inl (fun j => iI ((G 2) j))))]]) _ _ := Y.pick [1, 0, 2, 3] (by decide) rfl
    have Y : Wd D τ s A s.heap (bl [(ntB τ nk na cap G ct so)]) _ _ := Y
    exact eZ B hr hlk Y (by decide) () (by rw [if_pos (by omega)]) [0] (by decide) rfl (Nat.le_of_ble_eq_true rfl) (Nat.le_of_ble_eq_true rfl) dX4_isDue_17

set_option maxHeartbeats 4000000 in
set_option maxRecDepth 100000 in
theorem k_X4_toldBy (l : Launch) (D : va_G) (τ : Nat → ClassId) (sz : Nat) (nk : Nat) (na : Nat → Nat) (cap : Nat) (G : Nat → Nat → Int) (ct so : Int) (hK : CapOk cap) (j : Nat) (hj : j < cap) : Met l yX4_toldBy (Cond.code yX4_toldBy cX4_toldBy 2 (some .int) :: wALL) { frames := 1, cells := 0, slots := 0, locals := 21 } (Pw D τ (bl [(ntB τ nk na cap G ct so)]) sz [.ref nk, .int (iI ((j : Nat) : Int))]) (va_Qi (fun (r : Int32) (_ : Unit) => r = iI (G 1 j)) (Bb D (va_A (bl [(ntB τ nk na cap G ct so)]) sz) (fun (_ : Unit) => [(ntB τ nk na cap G ct so)])) (va_A (bl [(ntB τ nk na cap G ct so)]) sz)) 0 0 (va_A (bl [(ntB τ nk na cap G ct so)]) sz) := by
  refine bodyW (by decide) (Nat.le_of_ble_eq_true rfl) (fun p e s m below meth c ls B hr hlk hin hsz Y hl => ?_)
  have hl : lv_has ls 2 [(0, .ref nk), (1, .int (iI ((j : Nat) : Int)))] := hl
  have B : CallFix p m c cX4_toldBy 2 s _ wALL RX4 := B
  generalize va_A (bl [(ntB τ nk na cap G ct so)]) sz = A at Y ⊢
  have hk1 := hK.le
  have Y : Wd D τ s A s.heap (bl [[(nk, .inr (6, [.ref (na 0), .ref (na 1), .ref (na 2), .int (iI (ct)), .int (iI (so))]))], [((na 0), .inl (τ 0, cap, .inl (fun j => iI ((G 0) j))))], [((na 1), .inl (τ 0, cap, .inl (fun j => iI ((G 1) j))))], [((na 2), .inl (τ 0, cap, .inl (fun j => iI ((G 2) j))))]]) _ _ := Y
  refine lv_aload_n B.1 B.2.1 dX4_toldBy_0 rfl (lv_at hl 0 rfl) ?_
  refine gf_X4_15 B Y 0 rfl rfl dX4_toldBy_1 ?_
  refine lv_iload_n B.1 B.2.1 dX4_toldBy_4 rfl (lv_at hl 1 rfl) ?_
  refine qI (Cs := [[((na 1), .inl (τ 0, cap, .inl (fun j => iI ((G 1) j))))]]) (Rs := [[(nk, .inr (6, [.ref (na 0), .ref (na 1), .ref (na 2), .int (iI (ct)), .int (iI (so))]))], [((na 0), .inl (τ 0, cap, .inl (fun j => iI ((G 0) j))))], [((na 2), .inl (τ 0, cap, .inl (fun j => iI ((G 2) j))))]]) Y [2] [0, 1, 3] (by decide) rfl (cSN (As := [.ref (na 1), .int (iI ((j : Nat) : Int))]) (rest := []) B Y [2] (by decide) rfl (k_valueIn l D τ _ (na 1) cap j (fun j => iI ((G 1) j)) (by omega) (by omega)) (Y.1.2.1 _ nw_566) q_567 q_2 q_568 rfl rfl hd_X9_valueIn ⟨(Nat.le_of_ble_eq_true rfl), (Nat.le_of_ble_eq_true rfl)⟩ rfl hl.1 rfl (Nat.le_of_ble_eq_true rfl) dX4_toldBy_5 ⟨(Nat.le_of_ble_eq_true rfl), (Nat.le_of_ble_eq_true rfl)⟩) (fun r u H locs hw Y => ?_)
  obtain rfl := hw
  have Y : Wd D τ s A s.heap (bl [[((na 1), .inl (τ 0, cap, .inl (fun j => iI ((G 1) j))))], [(nk, .inr (6, [.ref (na 0), .ref (na 1), .ref (na 2), .int (iI (ct)), .int (iI (so))]))], [((na 0), .inl (τ 0, cap, .inl (fun j => iI ((G 0) j))))], [((na 2), .inl (τ 0, cap, .inl (fun j => iI ((G 2) j))))]]) _ _ := Y
  have Y : Wd D τ s A s.heap (bl [[(nk, .inr (6, [.ref (na 0), .ref (na 1), .ref (na 2), .int (iI (ct)), .int (iI (so))]))], [((na 0), .inl (τ 0, cap, .inl (fun j => iI ((G 0) j))))], [((na 1), .inl (τ 0, cap, .inl (fun j => iI ((G 1) j))))], [((na 2), .inl (τ 0, cap, .inl (fun j => iI ((G 2) j))))]]) _ _ := Y.pick [1, 2, 0, 3] (by decide) rfl
  have Y : Wd D τ s A s.heap (bl [(ntB τ nk na cap G ct so)]) _ _ := Y
  exact eI B hr hlk Y () rfl [0] (by decide) rfl (Nat.le_of_ble_eq_true rfl) (Nat.le_of_ble_eq_true rfl) dX4_toldBy_8

set_option maxHeartbeats 4000000 in
set_option maxRecDepth 100000 in
theorem k_X4_aboutOf (l : Launch) (D : va_G) (τ : Nat → ClassId) (sz : Nat) (nk : Nat) (na : Nat → Nat) (cap : Nat) (G : Nat → Nat → Int) (ct so : Int) (hK : CapOk cap) (j : Nat) (hj : j < cap) : Met l yX4_aboutOf (Cond.code yX4_aboutOf cX4_aboutOf 2 (some .int) :: wALL) { frames := 0, cells := 0, slots := 0, locals := 0 } (Pw D τ (bl [(ntB τ nk na cap G ct so)]) sz [.ref nk, .int (iI ((j : Nat) : Int))]) (va_Qi (fun (r : Int32) (_ : Unit) => r = iI (G 2 j)) (Bb D (va_A (bl [(ntB τ nk na cap G ct so)]) sz) (fun (_ : Unit) => [(ntB τ nk na cap G ct so)])) (va_A (bl [(ntB τ nk na cap G ct so)]) sz)) 0 0 (va_A (bl [(ntB τ nk na cap G ct so)]) sz) := by
  refine bodyW (by decide) (Nat.le_of_ble_eq_true rfl) (fun p e s m below meth c ls B hr hlk hin hsz Y hl => ?_)
  have hl : lv_has ls 2 [(0, .ref nk), (1, .int (iI ((j : Nat) : Int)))] := hl
  have B : CallFix p m c cX4_aboutOf 2 s _ wALL RX4 := B
  generalize va_A (bl [(ntB τ nk na cap G ct so)]) sz = A at Y ⊢
  have hk1 := hK.le
  have Y : Wd D τ s A s.heap (bl [[(nk, .inr (6, [.ref (na 0), .ref (na 1), .ref (na 2), .int (iI (ct)), .int (iI (so))]))], [((na 0), .inl (τ 0, cap, .inl (fun j => iI ((G 0) j))))], [((na 1), .inl (τ 0, cap, .inl (fun j => iI ((G 1) j))))], [((na 2), .inl (τ 0, cap, .inl (fun j => iI ((G 2) j))))]]) _ _ := Y
  refine lv_iload_n B.1 B.2.1 dX4_aboutOf_0 rfl (lv_at hl 1 rfl) ?_
  refine lv_if_lt (tgt := 22) B.1 B.2.1 dX4_aboutOf_1 (by decide) (fun h => absurd h (mt (iI_lt0 (a := ((j : Nat) : Int)) (by omega) (by omega)).mp (by omega))) (fun _ => ?_)
  refine lv_iload_n B.1 B.2.1 dX4_aboutOf_4 rfl (lv_at hl 1 rfl) ?_
  refine lv_aload_n B.1 B.2.1 dX4_aboutOf_5 rfl (lv_at hl 0 rfl) ?_
  refine gf_X4_18 B Y 0 rfl rfl dX4_aboutOf_6 ?_
  refine b_alen (v := (iI ((cap : Nat) : Int))) B Y 3 rfl 0 rfl (iI_nat _) dX4_aboutOf_9 ?_
  refine lv_icmp_ge (tgt := 22) B.1 B.2.1 dX4_aboutOf_10 (by decide) (fun h => absurd h (mt (iI_le (a := ((cap : Nat) : Int)) (b := ((j : Nat) : Int)) (by omega) (by omega) (by omega) (by omega)).mp (by omega))) (fun _ => ?_)
  refine lv_aload_n B.1 B.2.1 dX4_aboutOf_13 rfl (lv_at hl 0 rfl) ?_
  refine gf_X4_18 B Y 0 rfl rfl dX4_aboutOf_14 ?_
  refine lv_iload_n B.1 B.2.1 dX4_aboutOf_17 rfl (lv_at hl 1 rfl) ?_
  refine b_iald (j := j) (v := (iI ((G 2) j))) B Y 3 rfl (iI_pos (by omega)) (iI_clamp (by omega)) (by omega) rfl dX4_aboutOf_18 ?_
  refine lv_goto (tgt := 23) B.1 B.2.1 dX4_aboutOf_19 (by decide) ?_
  have Y : Wd D τ s A s.heap (bl [(ntB τ nk na cap G ct so)]) _ _ := Y
  exact eI B hr hlk Y () rfl [0] (by decide) rfl (Nat.le_of_ble_eq_true rfl) (Nat.le_of_ble_eq_true rfl) dX4_aboutOf_23

set_option maxHeartbeats 4000000 in
set_option maxRecDepth 100000 in
theorem k_X4_move (l : Launch) (D : va_G) (τ : Nat → ClassId) (sz : Nat) (nk : Nat) (na : Nat → Nat) (cap : Nat) (G : Nat → Nat → Int) (ct so : Int) (hK : CapOk cap) (fr to : Nat) (h1 : fr < cap) (h2 : to < cap) : Met l yX4_move (Cond.code yX4_move cX4_move 3 none :: wALL) { frames := 2, cells := 0, slots := 0, locals := 42 } (Pw D τ (bl [(ntB τ nk na cap G ct so)]) sz [.ref nk, .int (iI ((fr : Nat) : Int)), .int (iI ((to : Nat) : Int))]) (va_Qv (fun (u : (Nat → Nat → Int)) => ∀ j : Nat, ntX u j = if j = to then ntX G fr else ntX G j) (Bb D (va_A (bl [(ntB τ nk na cap G ct so)]) sz) (fun (u : (Nat → Nat → Int)) => [(ntB τ nk na cap u ct so)])) (va_A (bl [(ntB τ nk na cap G ct so)]) sz)) 0 0 (va_A (bl [(ntB τ nk na cap G ct so)]) sz) := by
  refine bodyW (by decide) (Nat.le_of_ble_eq_true rfl) (fun p e s m below meth c ls B hr hlk hin hsz Y hl => ?_)
  have hl : lv_has ls 3 [(0, .ref nk), (1, .int (iI ((fr : Nat) : Int))), (2, .int (iI ((to : Nat) : Int)))] := hl
  have B : CallFix p m c cX4_move 3 s _ wALL RX4 := B
  generalize va_A (bl [(ntB τ nk na cap G ct so)]) sz = A at Y ⊢
  have hk1 := hK.le
  have Y : Wd D τ s A s.heap (bl [[(nk, .inr (6, [.ref (na 0), .ref (na 1), .ref (na 2), .int (iI (ct)), .int (iI (so))]))], [((na 0), .inl (τ 0, cap, .inl (fun j => iI ((G 0) j))))], [((na 1), .inl (τ 0, cap, .inl (fun j => iI ((G 1) j))))], [((na 2), .inl (τ 0, cap, .inl (fun j => iI ((G 2) j))))]]) _ _ := Y
  refine lv_aload_n B.1 B.2.1 dX4_move_0 rfl (lv_at hl 0 rfl) ?_
  refine gf_X4_9 B Y 0 rfl rfl dX4_move_1 ?_
  refine lv_iload_n B.1 B.2.1 dX4_move_4 rfl (lv_at hl 2 rfl) ?_
  refine lv_aload_n B.1 B.2.1 dX4_move_5 rfl (lv_at hl 0 rfl) ?_
  refine gf_X4_9 B Y 0 rfl rfl dX4_move_6 ?_
  refine lv_iload_n B.1 B.2.1 dX4_move_9 rfl (lv_at hl 1 rfl) ?_
  refine qI (Cs := [[((na 0), .inl (τ 0, cap, .inl (fun j => iI ((G 0) j))))]]) (Rs := [[(nk, .inr (6, [.ref (na 0), .ref (na 1), .ref (na 2), .int (iI (ct)), .int (iI (so))]))], [((na 1), .inl (τ 0, cap, .inl (fun j => iI ((G 1) j))))], [((na 2), .inl (τ 0, cap, .inl (fun j => iI ((G 2) j))))]]) Y [1] [0, 2, 3] (by decide) rfl (cSN (As := [.ref (na 0), .int (iI ((fr : Nat) : Int))]) (rest := [.int (iI ((to : Nat) : Int)), .ref (na 0)]) B Y [1] (by decide) rfl (k_valueIn l D τ _ (na 0) cap fr (fun j => iI ((G 0) j)) (by omega) (by omega)) (Y.1.2.1 _ nw_566) q_567 q_2 q_568 rfl rfl hd_X9_valueIn ⟨(Nat.le_of_ble_eq_true rfl), (Nat.le_of_ble_eq_true rfl)⟩ rfl hl.1 rfl (Nat.le_of_ble_eq_true rfl) dX4_move_10 ⟨(Nat.le_of_ble_eq_true rfl), (Nat.le_of_ble_eq_true rfl)⟩) (fun r u H locs hw Y => ?_)
  obtain rfl := hw
  have Y : Wd D τ s A s.heap (bl [[((na 0), .inl (τ 0, cap, .inl (fun j => iI ((G 0) j))))], [(nk, .inr (6, [.ref (na 0), .ref (na 1), .ref (na 2), .int (iI (ct)), .int (iI (so))]))], [((na 1), .inl (τ 0, cap, .inl (fun j => iI ((G 1) j))))], [((na 2), .inl (τ 0, cap, .inl (fun j => iI ((G 2) j))))]]) _ _ := Y
  refine qV (Cs := [[((na 0), .inl (τ 0, cap, .inl (fun j => iI ((G 0) j))))]]) (Rs := [[(nk, .inr (6, [.ref (na 0), .ref (na 1), .ref (na 2), .int (iI (ct)), .int (iI (so))]))], [((na 1), .inl (τ 0, cap, .inl (fun j => iI ((G 1) j))))], [((na 2), .inl (τ 0, cap, .inl (fun j => iI ((G 2) j))))]]) Y [0] [1, 2, 3] (by decide) rfl (cSN (As := [.ref (na 0), .int (iI ((to : Nat) : Int)), .int (iI ((G 0) fr))]) (rest := []) B Y [0] (by decide) rfl (k_setIn l D τ _ (na 0) cap to (fun j => iI ((G 0) j)) (iI ((G 0) fr)) (by omega) (by omega)) (Y.1.2.1 _ nw_934) q_831 q_2 q_832 rfl rfl hd_X9_setIn ⟨(Nat.le_of_ble_eq_true rfl), (Nat.le_of_ble_eq_true rfl)⟩ rfl hl.1 rfl (Nat.le_of_ble_eq_true rfl) dX4_move_13 ⟨(Nat.le_of_ble_eq_true rfl), (Nat.le_of_ble_eq_true rfl)⟩) (fun u H locs hw Y => ?_)
  rw [upz_ok] at Y
  have Y : Wd D τ s A s.heap (bl [[((na 0), .inl (τ 0, cap, .inl (fun j => iI ((upz (G 0) to ((G 0) fr)) j))))], [(nk, .inr (6, [.ref (na 0), .ref (na 1), .ref (na 2), .int (iI (ct)), .int (iI (so))]))], [((na 1), .inl (τ 0, cap, .inl (fun j => iI ((G 1) j))))], [((na 2), .inl (τ 0, cap, .inl (fun j => iI ((G 2) j))))]]) _ _ := Y
  refine lv_aload_n B.1 B.2.1 dX4_move_16 rfl (lv_at hl 0 rfl) ?_
  refine gf_X4_15 B Y 1 rfl rfl dX4_move_17 ?_
  refine lv_iload_n B.1 B.2.1 dX4_move_20 rfl (lv_at hl 2 rfl) ?_
  refine lv_aload_n B.1 B.2.1 dX4_move_21 rfl (lv_at hl 0 rfl) ?_
  refine lv_iload_n B.1 B.2.1 dX4_move_22 rfl (lv_at hl 1 rfl) ?_
  have Y : Wd D τ s A s.heap (bl [[(nk, .inr (6, [.ref (na 0), .ref (na 1), .ref (na 2), .int (iI (ct)), .int (iI (so))]))], [((na 0), .inl (τ 0, cap, .inl (fun j => iI ((upz (G 0) to ((G 0) fr)) j))))], [((na 1), .inl (τ 0, cap, .inl (fun j => iI ((G 1) j))))], [((na 2), .inl (τ 0, cap, .inl (fun j => iI ((G 2) j))))]]) _ _ := Y.pick [1, 0, 2, 3] (by decide) rfl
  have Y : Wd D τ s A s.heap (bl [(ntB τ nk na cap (vecF [upz (G 0) to ((G 0) fr), G 1, G 2]) ct so)]) _ _ := Y
  refine qI (Cs := [(ntB τ nk na cap (vecF [upz (G 0) to ((G 0) fr), G 1, G 2]) ct so)]) (Rs := []) Y [0] [] (by decide) rfl (cVb (As := [.int (iI ((fr : Nat) : Int))]) (rest := [.int (iI ((to : Nat) : Int)), .ref (na 1)]) (q0 := 0) B Y [0] (by decide) rfl (k_X4_toldBy l D τ _ nk na cap (vecF [upz (G 0) to ((G 0) fr), G 1, G 2]) ct so hK fr (by omega) ) rfl rfl q_562 q_563 q_564 q_8 q_565 rfl rfl hd_X4_toldBy ⟨(Nat.le_of_ble_eq_true rfl), (Nat.le_of_ble_eq_true rfl)⟩ rfl hl.1 rfl (Nat.le_of_ble_eq_true rfl) dX4_move_23 ⟨(Nat.le_of_ble_eq_true rfl), (Nat.le_of_ble_eq_true rfl)⟩) (fun r u H locs hw Y => ?_)
  obtain rfl := hw
  have Y : Wd D τ s A s.heap (bl [(ntB τ nk na cap (vecF [upz (G 0) to ((G 0) fr), G 1, G 2]) ct so)]) _ _ := Y
  have Y : Wd D τ s A s.heap (bl [[(nk, .inr (6, [.ref (na 0), .ref (na 1), .ref (na 2), .int (iI (ct)), .int (iI (so))]))], [((na 0), .inl (τ 0, cap, .inl (fun j => iI (((vecF [upz (G 0) to ((G 0) fr), G 1, G 2]) 0) j))))], [((na 1), .inl (τ 0, cap, .inl (fun j => iI (((vecF [upz (G 0) to ((G 0) fr), G 1, G 2]) 1) j))))], [((na 2), .inl (τ 0, cap, .inl (fun j => iI (((vecF [upz (G 0) to ((G 0) fr), G 1, G 2]) 2) j))))]]) _ _ := Y
  refine qV (Cs := [[((na 1), .inl (τ 0, cap, .inl (fun j => iI (((vecF [upz (G 0) to ((G 0) fr), G 1, G 2]) 1) j))))]]) (Rs := [[(nk, .inr (6, [.ref (na 0), .ref (na 1), .ref (na 2), .int (iI (ct)), .int (iI (so))]))], [((na 0), .inl (τ 0, cap, .inl (fun j => iI (((vecF [upz (G 0) to ((G 0) fr), G 1, G 2]) 0) j))))], [((na 2), .inl (τ 0, cap, .inl (fun j => iI (((vecF [upz (G 0) to ((G 0) fr), G 1, G 2]) 2) j))))]]) Y [2] [0, 1, 3] (by decide) rfl (cSN (As := [.ref (na 1), .int (iI ((to : Nat) : Int)), .int (iI ((vecF [upz (G 0) to ((G 0) fr), G 1, G 2]) 1 fr))]) (rest := []) B Y [2] (by decide) rfl (k_setIn l D τ _ (na 1) cap to (fun j => iI (((vecF [upz (G 0) to ((G 0) fr), G 1, G 2]) 1) j)) (iI ((vecF [upz (G 0) to ((G 0) fr), G 1, G 2]) 1 fr)) (by omega) (by omega)) (Y.1.2.1 _ nw_934) q_831 q_2 q_832 rfl rfl hd_X9_setIn ⟨(Nat.le_of_ble_eq_true rfl), (Nat.le_of_ble_eq_true rfl)⟩ rfl hl.1 rfl (Nat.le_of_ble_eq_true rfl) dX4_move_26 ⟨(Nat.le_of_ble_eq_true rfl), (Nat.le_of_ble_eq_true rfl)⟩) (fun u H locs hw Y => ?_)
  rw [upz_ok] at Y
  have Y : Wd D τ s A s.heap (bl [[((na 1), .inl (τ 0, cap, .inl (fun j => iI ((upz ((vecF [upz (G 0) to ((G 0) fr), G 1, G 2]) 1) to ((vecF [upz (G 0) to ((G 0) fr), G 1, G 2]) 1 fr)) j))))], [(nk, .inr (6, [.ref (na 0), .ref (na 1), .ref (na 2), .int (iI (ct)), .int (iI (so))]))], [((na 0), .inl (τ 0, cap, .inl (fun j => iI (((vecF [upz (G 0) to ((G 0) fr), G 1, G 2]) 0) j))))], [((na 2), .inl (τ 0, cap, .inl (fun j => iI (((vecF [upz (G 0) to ((G 0) fr), G 1, G 2]) 2) j))))]]) _ _ := Y
  refine lv_aload_n B.1 B.2.1 dX4_move_29 rfl (lv_at hl 0 rfl) ?_
  refine gf_X4_18 B Y 1 rfl rfl dX4_move_30 ?_
  refine lv_iload_n B.1 B.2.1 dX4_move_33 rfl (lv_at hl 2 rfl) ?_
  refine lv_aload_n B.1 B.2.1 dX4_move_34 rfl (lv_at hl 0 rfl) ?_
  refine lv_iload_n B.1 B.2.1 dX4_move_35 rfl (lv_at hl 1 rfl) ?_
  have Y : Wd D τ s A s.heap (bl [[(nk, .inr (6, [.ref (na 0), .ref (na 1), .ref (na 2), .int (iI (ct)), .int (iI (so))]))], [((na 0), .inl (τ 0, cap, .inl (fun j => iI (((vecF [upz (G 0) to ((G 0) fr), G 1, G 2]) 0) j))))], [((na 1), .inl (τ 0, cap, .inl (fun j => iI ((upz ((vecF [upz (G 0) to ((G 0) fr), G 1, G 2]) 1) to ((vecF [upz (G 0) to ((G 0) fr), G 1, G 2]) 1 fr)) j))))], [((na 2), .inl (τ 0, cap, .inl (fun j => iI (((vecF [upz (G 0) to ((G 0) fr), G 1, G 2]) 2) j))))]]) _ _ := Y.pick [1, 2, 0, 3] (by decide) rfl
  have Y : Wd D τ s A s.heap (bl [(ntB τ nk na cap (vecF [(vecF [upz (G 0) to ((G 0) fr), G 1, G 2]) 0, upz ((vecF [upz (G 0) to ((G 0) fr), G 1, G 2]) 1) to ((vecF [upz (G 0) to ((G 0) fr), G 1, G 2]) 1 fr), (vecF [upz (G 0) to ((G 0) fr), G 1, G 2]) 2]) ct so)]) _ _ := Y
  refine qI (Cs := [(ntB τ nk na cap (vecF [(vecF [upz (G 0) to ((G 0) fr), G 1, G 2]) 0, upz ((vecF [upz (G 0) to ((G 0) fr), G 1, G 2]) 1) to ((vecF [upz (G 0) to ((G 0) fr), G 1, G 2]) 1 fr), (vecF [upz (G 0) to ((G 0) fr), G 1, G 2]) 2]) ct so)]) (Rs := []) Y [0] [] (by decide) rfl (cVb (As := [.int (iI ((fr : Nat) : Int))]) (rest := [.int (iI ((to : Nat) : Int)), .ref (na 2)]) (q0 := 0) B Y [0] (by decide) rfl (k_X4_aboutOf l D τ _ nk na cap (vecF [(vecF [upz (G 0) to ((G 0) fr), G 1, G 2]) 0, upz ((vecF [upz (G 0) to ((G 0) fr), G 1, G 2]) 1) to ((vecF [upz (G 0) to ((G 0) fr), G 1, G 2]) 1 fr), (vecF [upz (G 0) to ((G 0) fr), G 1, G 2]) 2]) ct so hK fr (by omega) ) rfl rfl q_1084 q_1072 q_1073 q_8 q_1074 rfl rfl hd_X4_aboutOf ⟨(Nat.le_of_ble_eq_true rfl), (Nat.le_of_ble_eq_true rfl)⟩ rfl hl.1 rfl (Nat.le_of_ble_eq_true rfl) dX4_move_36 ⟨(Nat.le_of_ble_eq_true rfl), (Nat.le_of_ble_eq_true rfl)⟩) (fun r u H locs hw Y => ?_)
  obtain rfl := hw
  have Y : Wd D τ s A s.heap (bl [(ntB τ nk na cap (vecF [(vecF [upz (G 0) to ((G 0) fr), G 1, G 2]) 0, upz ((vecF [upz (G 0) to ((G 0) fr), G 1, G 2]) 1) to ((vecF [upz (G 0) to ((G 0) fr), G 1, G 2]) 1 fr), (vecF [upz (G 0) to ((G 0) fr), G 1, G 2]) 2]) ct so)]) _ _ := Y
  have Y : Wd D τ s A s.heap (bl [[(nk, .inr (6, [.ref (na 0), .ref (na 1), .ref (na 2), .int (iI (ct)), .int (iI (so))]))], [((na 0), .inl (τ 0, cap, .inl (fun j => iI (((vecF [(vecF [upz (G 0) to ((G 0) fr), G 1, G 2]) 0, upz ((vecF [upz (G 0) to ((G 0) fr), G 1, G 2]) 1) to ((vecF [upz (G 0) to ((G 0) fr), G 1, G 2]) 1 fr), (vecF [upz (G 0) to ((G 0) fr), G 1, G 2]) 2]) 0) j))))], [((na 1), .inl (τ 0, cap, .inl (fun j => iI (((vecF [(vecF [upz (G 0) to ((G 0) fr), G 1, G 2]) 0, upz ((vecF [upz (G 0) to ((G 0) fr), G 1, G 2]) 1) to ((vecF [upz (G 0) to ((G 0) fr), G 1, G 2]) 1 fr), (vecF [upz (G 0) to ((G 0) fr), G 1, G 2]) 2]) 1) j))))], [((na 2), .inl (τ 0, cap, .inl (fun j => iI (((vecF [(vecF [upz (G 0) to ((G 0) fr), G 1, G 2]) 0, upz ((vecF [upz (G 0) to ((G 0) fr), G 1, G 2]) 1) to ((vecF [upz (G 0) to ((G 0) fr), G 1, G 2]) 1 fr), (vecF [upz (G 0) to ((G 0) fr), G 1, G 2]) 2]) 2) j))))]]) _ _ := Y
  refine qV (Cs := [[((na 2), .inl (τ 0, cap, .inl (fun j => iI (((vecF [(vecF [upz (G 0) to ((G 0) fr), G 1, G 2]) 0, upz ((vecF [upz (G 0) to ((G 0) fr), G 1, G 2]) 1) to ((vecF [upz (G 0) to ((G 0) fr), G 1, G 2]) 1 fr), (vecF [upz (G 0) to ((G 0) fr), G 1, G 2]) 2]) 2) j))))]]) (Rs := [[(nk, .inr (6, [.ref (na 0), .ref (na 1), .ref (na 2), .int (iI (ct)), .int (iI (so))]))], [((na 0), .inl (τ 0, cap, .inl (fun j => iI (((vecF [(vecF [upz (G 0) to ((G 0) fr), G 1, G 2]) 0, upz ((vecF [upz (G 0) to ((G 0) fr), G 1, G 2]) 1) to ((vecF [upz (G 0) to ((G 0) fr), G 1, G 2]) 1 fr), (vecF [upz (G 0) to ((G 0) fr), G 1, G 2]) 2]) 0) j))))], [((na 1), .inl (τ 0, cap, .inl (fun j => iI (((vecF [(vecF [upz (G 0) to ((G 0) fr), G 1, G 2]) 0, upz ((vecF [upz (G 0) to ((G 0) fr), G 1, G 2]) 1) to ((vecF [upz (G 0) to ((G 0) fr), G 1, G 2]) 1 fr), (vecF [upz (G 0) to ((G 0) fr), G 1, G 2]) 2]) 1) j))))]]) Y [3] [0, 1, 2] (by decide) rfl (cSN (As := [.ref (na 2), .int (iI ((to : Nat) : Int)), .int (iI ((vecF [(vecF [upz (G 0) to ((G 0) fr), G 1, G 2]) 0, upz ((vecF [upz (G 0) to ((G 0) fr), G 1, G 2]) 1) to ((vecF [upz (G 0) to ((G 0) fr), G 1, G 2]) 1 fr), (vecF [upz (G 0) to ((G 0) fr), G 1, G 2]) 2]) 2 fr))]) (rest := []) B Y [3] (by decide) rfl (k_setIn l D τ _ (na 2) cap to (fun j => iI (((vecF [(vecF [upz (G 0) to ((G 0) fr), G 1, G 2]) 0, upz ((vecF [upz (G 0) to ((G 0) fr), G 1, G 2]) 1) to ((vecF [upz (G 0) to ((G 0) fr), G 1, G 2]) 1 fr), (vecF [upz (G 0) to ((G 0) fr), G 1, G 2]) 2]) 2) j)) (iI ((vecF [(vecF [upz (G 0) to ((G 0) fr), G 1, G 2]) 0, upz ((vecF [upz (G 0) to ((G 0) fr), G 1, G 2]) 1) to ((vecF [upz (G 0) to ((G 0) fr), G 1, G 2]) 1 fr), (vecF [upz (G 0) to ((G 0) fr), G 1, G 2]) 2]) 2 fr)) (by omega) (by omega)) (Y.1.2.1 _ nw_934) q_831 q_2 q_832 rfl rfl hd_X9_setIn ⟨(Nat.le_of_ble_eq_true rfl), (Nat.le_of_ble_eq_true rfl)⟩ rfl hl.1 rfl (Nat.le_of_ble_eq_true rfl) dX4_move_39 ⟨(Nat.le_of_ble_eq_true rfl), (Nat.le_of_ble_eq_true rfl)⟩) (fun u H locs hw Y => ?_)
  rw [upz_ok] at Y
  have Y : Wd D τ s A s.heap (bl [[((na 2), .inl (τ 0, cap, .inl (fun j => iI ((upz ((vecF [(vecF [upz (G 0) to ((G 0) fr), G 1, G 2]) 0, upz ((vecF [upz (G 0) to ((G 0) fr), G 1, G 2]) 1) to ((vecF [upz (G 0) to ((G 0) fr), G 1, G 2]) 1 fr), (vecF [upz (G 0) to ((G 0) fr), G 1, G 2]) 2]) 2) to ((vecF [(vecF [upz (G 0) to ((G 0) fr), G 1, G 2]) 0, upz ((vecF [upz (G 0) to ((G 0) fr), G 1, G 2]) 1) to ((vecF [upz (G 0) to ((G 0) fr), G 1, G 2]) 1 fr), (vecF [upz (G 0) to ((G 0) fr), G 1, G 2]) 2]) 2 fr)) j))))], [(nk, .inr (6, [.ref (na 0), .ref (na 1), .ref (na 2), .int (iI (ct)), .int (iI (so))]))], [((na 0), .inl (τ 0, cap, .inl (fun j => iI (((vecF [(vecF [upz (G 0) to ((G 0) fr), G 1, G 2]) 0, upz ((vecF [upz (G 0) to ((G 0) fr), G 1, G 2]) 1) to ((vecF [upz (G 0) to ((G 0) fr), G 1, G 2]) 1 fr), (vecF [upz (G 0) to ((G 0) fr), G 1, G 2]) 2]) 0) j))))], [((na 1), .inl (τ 0, cap, .inl (fun j => iI (((vecF [(vecF [upz (G 0) to ((G 0) fr), G 1, G 2]) 0, upz ((vecF [upz (G 0) to ((G 0) fr), G 1, G 2]) 1) to ((vecF [upz (G 0) to ((G 0) fr), G 1, G 2]) 1 fr), (vecF [upz (G 0) to ((G 0) fr), G 1, G 2]) 2]) 1) j))))]]) _ _ := Y
  have Y : Wd D τ s A s.heap (bl [[(nk, .inr (6, [.ref (na 0), .ref (na 1), .ref (na 2), .int (iI (ct)), .int (iI (so))]))], [((na 0), .inl (τ 0, cap, .inl (fun j => iI (((vecF [(vecF [upz (G 0) to ((G 0) fr), G 1, G 2]) 0, upz ((vecF [upz (G 0) to ((G 0) fr), G 1, G 2]) 1) to ((vecF [upz (G 0) to ((G 0) fr), G 1, G 2]) 1 fr), (vecF [upz (G 0) to ((G 0) fr), G 1, G 2]) 2]) 0) j))))], [((na 1), .inl (τ 0, cap, .inl (fun j => iI (((vecF [(vecF [upz (G 0) to ((G 0) fr), G 1, G 2]) 0, upz ((vecF [upz (G 0) to ((G 0) fr), G 1, G 2]) 1) to ((vecF [upz (G 0) to ((G 0) fr), G 1, G 2]) 1 fr), (vecF [upz (G 0) to ((G 0) fr), G 1, G 2]) 2]) 1) j))))], [((na 2), .inl (τ 0, cap, .inl (fun j => iI ((upz ((vecF [(vecF [upz (G 0) to ((G 0) fr), G 1, G 2]) 0, upz ((vecF [upz (G 0) to ((G 0) fr), G 1, G 2]) 1) to ((vecF [upz (G 0) to ((G 0) fr), G 1, G 2]) 1 fr), (vecF [upz (G 0) to ((G 0) fr), G 1, G 2]) 2]) 2) to ((vecF [(vecF [upz (G 0) to ((G 0) fr), G 1, G 2]) 0, upz ((vecF [upz (G 0) to ((G 0) fr), G 1, G 2]) 1) to ((vecF [upz (G 0) to ((G 0) fr), G 1, G 2]) 1 fr), (vecF [upz (G 0) to ((G 0) fr), G 1, G 2]) 2]) 2 fr)) j))))]]) _ _ := Y.pick [1, 2, 3, 0] (by decide) rfl
  have Y : Wd D τ s A s.heap (bl [(ntB τ nk na cap (vecF [(vecF [(vecF [upz (G 0) to ((G 0) fr), G 1, G 2]) 0, upz ((vecF [upz (G 0) to ((G 0) fr), G 1, G 2]) 1) to ((vecF [upz (G 0) to ((G 0) fr), G 1, G 2]) 1 fr), (vecF [upz (G 0) to ((G 0) fr), G 1, G 2]) 2]) 0, (vecF [(vecF [upz (G 0) to ((G 0) fr), G 1, G 2]) 0, upz ((vecF [upz (G 0) to ((G 0) fr), G 1, G 2]) 1) to ((vecF [upz (G 0) to ((G 0) fr), G 1, G 2]) 1 fr), (vecF [upz (G 0) to ((G 0) fr), G 1, G 2]) 2]) 1, upz ((vecF [(vecF [upz (G 0) to ((G 0) fr), G 1, G 2]) 0, upz ((vecF [upz (G 0) to ((G 0) fr), G 1, G 2]) 1) to ((vecF [upz (G 0) to ((G 0) fr), G 1, G 2]) 1 fr), (vecF [upz (G 0) to ((G 0) fr), G 1, G 2]) 2]) 2) to ((vecF [(vecF [upz (G 0) to ((G 0) fr), G 1, G 2]) 0, upz ((vecF [upz (G 0) to ((G 0) fr), G 1, G 2]) 1) to ((vecF [upz (G 0) to ((G 0) fr), G 1, G 2]) 1 fr), (vecF [upz (G 0) to ((G 0) fr), G 1, G 2]) 2]) 2 fr)]) ct so)]) _ _ := Y
  have hu : ∀ j : Nat, ntX (vecF [(vecF [(vecF [upz (G 0) to ((G 0) fr), G 1, G 2]) 0, upz ((vecF [upz (G 0) to ((G 0) fr), G 1, G 2]) 1) to ((vecF [upz (G 0) to ((G 0) fr), G 1, G 2]) 1 fr), (vecF [upz (G 0) to ((G 0) fr), G 1, G 2]) 2]) 0, (vecF [(vecF [upz (G 0) to ((G 0) fr), G 1, G 2]) 0, upz ((vecF [upz (G 0) to ((G 0) fr), G 1, G 2]) 1) to ((vecF [upz (G 0) to ((G 0) fr), G 1, G 2]) 1 fr), (vecF [upz (G 0) to ((G 0) fr), G 1, G 2]) 2]) 1, upz ((vecF [(vecF [upz (G 0) to ((G 0) fr), G 1, G 2]) 0, upz ((vecF [upz (G 0) to ((G 0) fr), G 1, G 2]) 1) to ((vecF [upz (G 0) to ((G 0) fr), G 1, G 2]) 1 fr), (vecF [upz (G 0) to ((G 0) fr), G 1, G 2]) 2]) 2) to ((vecF [(vecF [upz (G 0) to ((G 0) fr), G 1, G 2]) 0, upz ((vecF [upz (G 0) to ((G 0) fr), G 1, G 2]) 1) to ((vecF [upz (G 0) to ((G 0) fr), G 1, G 2]) 1 fr), (vecF [upz (G 0) to ((G 0) fr), G 1, G 2]) 2]) 2 fr)]) j = if j = to then ntX G fr else ntX G j := by intro j; by_cases h : j = to; (· subst h; rw [if_pos rfl]; unfold ntX; show (upz _ j _ j, upz _ j _ j, upz _ j _ j) = _; rw [upz_k, upz_k, upz_k]; rfl); (· rw [if_neg h]; unfold ntX; show (upz _ to _ j, upz _ to _ j, upz _ to _ j) = _; rw [upz_ne _ _ h, upz_ne _ _ h, upz_ne _ _ h]; rfl)
  exact eV B hr hlk Y (vecF [(vecF [(vecF [upz (G 0) to ((G 0) fr), G 1, G 2]) 0, upz ((vecF [upz (G 0) to ((G 0) fr), G 1, G 2]) 1) to ((vecF [upz (G 0) to ((G 0) fr), G 1, G 2]) 1 fr), (vecF [upz (G 0) to ((G 0) fr), G 1, G 2]) 2]) 0, (vecF [(vecF [upz (G 0) to ((G 0) fr), G 1, G 2]) 0, upz ((vecF [upz (G 0) to ((G 0) fr), G 1, G 2]) 1) to ((vecF [upz (G 0) to ((G 0) fr), G 1, G 2]) 1 fr), (vecF [upz (G 0) to ((G 0) fr), G 1, G 2]) 2]) 1, upz ((vecF [(vecF [upz (G 0) to ((G 0) fr), G 1, G 2]) 0, upz ((vecF [upz (G 0) to ((G 0) fr), G 1, G 2]) 1) to ((vecF [upz (G 0) to ((G 0) fr), G 1, G 2]) 1 fr), (vecF [upz (G 0) to ((G 0) fr), G 1, G 2]) 2]) 2) to ((vecF [(vecF [upz (G 0) to ((G 0) fr), G 1, G 2]) 0, upz ((vecF [upz (G 0) to ((G 0) fr), G 1, G 2]) 1) to ((vecF [upz (G 0) to ((G 0) fr), G 1, G 2]) 1 fr), (vecF [upz (G 0) to ((G 0) fr), G 1, G 2]) 2]) 2 fr)]) hu [0] (by decide) rfl (Nat.le_of_ble_eq_true rfl) (Nat.le_of_ble_eq_true rfl) dX4_move_42

set_option maxHeartbeats 4000000 in
set_option maxRecDepth 100000 in
theorem k_X4_cut (l : Launch) (D : va_G) (τ : Nat → ClassId) (sz : Nat) (nk : Nat) (na : Nat → Nat) (cap : Nat) (G : Nat → Nat → Int) (ct so : Int) (hK : CapOk cap) (L : List Nte) (w : Nat) (hL : L.length = w) (hw2 : w ≤ cap) (hI : NtIn L) (hG : ∀ j : Nat, j < w → L.getD j (0, 0, 0) = ntX G j) : Met l yX4_cut (Cond.code yX4_cut cX4_cut 3 none :: wALL) { frames := 1, cells := 0, slots := 0, locals := 60 } (Pw D τ (bl [(ntB τ nk na cap G ct so)]) sz [.ref nk, .int (iI ((w : Nat) : Int))]) (va_Qv (fun (_ : Unit) => True) (Bb D (va_A (bl [(ntB τ nk na cap G ct so)]) sz) (fun (_ : Unit) => [(ntB τ nk na cap G ((w : Nat) : Int) (soonL L))])) (va_A (bl [(ntB τ nk na cap G ct so)]) sz)) 0 0 (va_A (bl [(ntB τ nk na cap G ct so)]) sz) := by
  refine bodyW (by decide) (Nat.le_of_ble_eq_true rfl) (fun p e s m below meth c ls B hr hlk hin hsz Y hl => ?_)
  have hl : lv_has ls 3 [(0, .ref nk), (1, .int (iI ((w : Nat) : Int)))] := hl
  have B : CallFix p m c cX4_cut 3 s _ wALL RX4 := B
  generalize va_A (bl [(ntB τ nk na cap G ct so)]) sz = A at Y ⊢
  have hk1 := hK.le
  have Y : Wd D τ s A s.heap (bl [[(nk, .inr (6, [.ref (na 0), .ref (na 1), .ref (na 2), .int (iI (ct)), .int (iI (so))]))], [((na 0), .inl (τ 0, cap, .inl (fun j => iI ((G 0) j))))], [((na 1), .inl (τ 0, cap, .inl (fun j => iI ((G 1) j))))], [((na 2), .inl (τ 0, cap, .inl (fun j => iI ((G 2) j))))]]) _ _ := Y
  refine lv_aload_n B.1 B.2.1 dX4_cut_0 rfl (lv_at hl 0 rfl) ?_
  refine lv_iload_n B.1 B.2.1 dX4_cut_1 rfl (lv_at hl 1 rfl) ?_
  refine pf_X4_21 (B' := [[(nk, .inr (6, [.ref (na 0), .ref (na 1), .ref (na 2), .int (iI ((w : Nat) : Int)), .int (iI (so))]))], [((na 0), .inl (τ 0, cap, .inl (fun j => iI ((G 0) j))))], [((na 1), .inl (τ 0, cap, .inl (fun j => iI ((G 1) j))))], [((na 2), .inl (τ 0, cap, .inl (fun j => iI ((G 2) j))))]]) B Y 0 rfl (Nat.le_of_ble_eq_true rfl) rfl dX4_cut_2 (fun H locs Y => ?_)
  refine lv_aload_n B.1 B.2.1 dX4_cut_5 rfl (lv_at hl 0 rfl) ?_
  refine lv_ldc B.1 B.2.1 B.2.2.2.1 (B.2.2.2.2 _ q_172) dX4_cut_6 ?_
  refine lv_cv (v := (iI (1000000))) (by decide) ?_
  refine pf_X4_26 (B' := [[(nk, .inr (6, [.ref (na 0), .ref (na 1), .ref (na 2), .int (iI ((w : Nat) : Int)), .int (iI (1000000))]))], [((na 0), .inl (τ 0, cap, .inl (fun j => iI ((G 0) j))))], [((na 1), .inl (τ 0, cap, .inl (fun j => iI ((G 1) j))))], [((na 2), .inl (τ 0, cap, .inl (fun j => iI ((G 2) j))))]]) B Y 0 rfl (Nat.le_of_ble_eq_true rfl) rfl dX4_cut_8 (fun H locs Y => ?_)
  refine lv_iconst (v := (iI (0))) B.1 B.2.1 dX4_cut_11 (by decide) ?_
  refine lv_istore_n (lv' := [(2, .int (iI (0))), (0, .ref nk), (1, .int (iI ((w : Nat) : Int)))]) B.1 B.2.1 dX4_cut_12 rfl hl (by decide) rfl (fun ls hl => ?_)
  have hl : lv_has ls 3 [(0, .ref nk), (1, .int (iI ((w : Nat) : Int))), (2, .int (iI ((0 : Nat) : Int)))] := lv_sub hl [1, 2, 0] rfl
  refine loopW (n := w) (P := fun (i : Nat) (H : Heap) (locs : List Loc) (ls : Array Slot) => ∃ sv : Int, (sv = soonL (L.take i)) ∧ lv_has ls 3 [(0, .ref nk), (1, .int (iI ((w : Nat) : Int))), (2, .int (iI ((i : Nat) : Int)))] ∧ Wd D τ s A s.heap (bl [[(nk, .inr (6, [.ref (na 0), .ref (na 1), .ref (na 2), .int (iI ((w : Nat) : Int)), .int (iI (sv))]))], [((na 0), .inl (τ 0, cap, .inl (fun j => iI ((G 0) j))))], [((na 1), .inl (τ 0, cap, .inl (fun j => iI ((G 1) j))))], [((na 2), .inl (τ 0, cap, .inl (fun j => iI ((G 2) j))))]]) H locs) 0 (Nat.zero_le _) ⟨1000000, (by rw [List.take_zero]; rfl), lv_sub hl [0, 1, 2] rfl, Y.pick [0, 1, 2, 3] (by decide) rfl⟩ (fun H locs ls hP => ?_) (fun i hlt H locs ls hP ih => ?_)
  · obtain ⟨sv, e1, hl, Y⟩ := hP
    refine lv_iload_n B.1 B.2.1 dX4_cut_13 rfl (lv_at hl 2 rfl) ?_
    refine lv_aload_n B.1 B.2.1 dX4_cut_14 rfl (lv_at hl 0 rfl) ?_
    refine gf_X4_21 B Y 0 rfl rfl dX4_cut_15 ?_
    refine lv_icmp_ge (tgt := 46) B.1 B.2.1 dX4_cut_18 (by decide) (fun _ => ?_) (fun h => absurd ((iI_le (a := ((w : Nat) : Int)) (b := ((w : Nat) : Int)) (by omega) (by omega) (by omega) (by omega)).mpr (by omega)) h) 
    rw [List.take_of_length_le (by omega)] at e1
    subst e1
    have Y : Wd D τ s A s.heap (bl [(ntB τ nk na cap G ((w : Nat) : Int) (soonL L))]) _ _ := Y
    exact eV B hr hlk Y () trivial [0] (by decide) rfl (Nat.le_of_ble_eq_true rfl) (Nat.le_of_ble_eq_true rfl) dX4_cut_46
  · obtain ⟨sv, e1, hl, Y⟩ := hP
    have hx := hI _ (getD_mem (L := L) (i := i) (by omega))
    rw [hG i hlt] at hx
    have hx : 0 ≤ G 0 i ∧ G 0 i < 1000000 := hx.1
    have hs := soonL_in (hI.take i)
    refine lv_iload_n B.1 B.2.1 dX4_cut_13 rfl (lv_at hl 2 rfl) ?_
    refine lv_aload_n B.1 B.2.1 dX4_cut_14 rfl (lv_at hl 0 rfl) ?_
    refine gf_X4_21 B Y 0 rfl rfl dX4_cut_15 ?_
    refine lv_icmp_ge (tgt := 46) B.1 B.2.1 dX4_cut_18 (by decide) (fun h => absurd h (mt (iI_le (a := ((w : Nat) : Int)) (b := ((i : Nat) : Int)) (by omega) (by omega) (by omega) (by omega)).mp (by omega))) (fun _ => ?_)
    refine lv_aload_n B.1 B.2.1 dX4_cut_21 rfl (lv_at hl 0 rfl) ?_
    refine lv_aload_n B.1 B.2.1 dX4_cut_22 rfl (lv_at hl 0 rfl) ?_
    refine gf_X4_26 B Y 0 rfl rfl dX4_cut_23 ?_
    refine lv_aload_n B.1 B.2.1 dX4_cut_26 rfl (lv_at hl 0 rfl) ?_
    refine gf_X4_9 B Y 0 rfl rfl dX4_cut_27 ?_
    refine lv_iload_n B.1 B.2.1 dX4_cut_30 rfl (lv_at hl 2 rfl) ?_
    refine qI (Cs := [[((na 0), .inl (τ 0, cap, .inl (fun j => iI ((G 0) j))))]]) (Rs := [[(nk, .inr (6, [.ref (na 0), .ref (na 1), .ref (na 2), .int (iI ((w : Nat) : Int)), .int (iI (sv))]))], [((na 1), .inl (τ 0, cap, .inl (fun j => iI ((G 1) j))))], [((na 2), .inl (τ 0, cap, .inl (fun j => iI ((G 2) j))))]]) Y [1] [0, 2, 3] (by decide) rfl (cSN (As := [.ref (na 0), .int (iI ((i : Nat) : Int))]) (rest := [.int (iI (sv)), .ref nk]) B Y [1] (by decide) rfl (k_valueIn l D τ _ (na 0) cap i (fun j => iI ((G 0) j)) (by omega) (by omega)) (Y.1.2.1 _ nw_566) q_567 q_2 q_568 rfl rfl hd_X9_valueIn ⟨(Nat.le_of_ble_eq_true rfl), (Nat.le_of_ble_eq_true rfl)⟩ rfl hl.1 rfl (Nat.le_of_ble_eq_true rfl) dX4_cut_31 ⟨(Nat.le_of_ble_eq_true rfl), (Nat.le_of_ble_eq_true rfl)⟩) (fun r u H locs hw Y => ?_)
    obtain rfl := hw
    have Y : Wd D τ s A s.heap (bl [[((na 0), .inl (τ 0, cap, .inl (fun j => iI ((G 0) j))))], [(nk, .inr (6, [.ref (na 0), .ref (na 1), .ref (na 2), .int (iI ((w : Nat) : Int)), .int (iI (sv))]))], [((na 1), .inl (τ 0, cap, .inl (fun j => iI ((G 1) j))))], [((na 2), .inl (τ 0, cap, .inl (fun j => iI ((G 2) j))))]]) _ _ := Y
    refine t_mmin (v := (iI (min sv (G 0 i)))) B q_652 q_618 q_1 q_619 hl.1 (Nat.le_of_ble_eq_true rfl) (Nat.le_of_ble_eq_true rfl) (Nat.le_of_ble_eq_true rfl) (Nat.le_of_ble_eq_true rfl) (iI_mn (by omega) (by omega) (by omega) (by omega)) dX4_cut_34 ?_
    refine pf_X4_26 (B' := [[((na 0), .inl (τ 0, cap, .inl (fun j => iI ((G 0) j))))], [(nk, .inr (6, [.ref (na 0), .ref (na 1), .ref (na 2), .int (iI ((w : Nat) : Int)), .int (iI (min sv (G 0 i)))]))], [((na 1), .inl (τ 0, cap, .inl (fun j => iI ((G 1) j))))], [((na 2), .inl (τ 0, cap, .inl (fun j => iI ((G 2) j))))]]) B Y 1 rfl (Nat.le_of_ble_eq_true rfl) rfl dX4_cut_37 (fun H locs Y => ?_)
    refine lv_iinc (v := (iI (((i + 1) : Nat) : Int))) (lv' := [(2, .int (iI (((i + 1) : Nat) : Int))), (0, .ref nk), (1, .int (iI ((w : Nat) : Int)))]) B.1 B.2.1 dX4_cut_40 hl (k := 2) rfl (iI_inc _) (by decide) rfl (fun ls hl => ?_)
    refine lv_goto (tgt := 13) B.1 B.2.1 dX4_cut_43 (by decide) ?_
    exact ih H locs ls ⟨(min sv (G 0 i)), (by rw [take_s (by omega), soonL_app, hG i hlt, e1]; rfl), lv_sub hl [1, 2, 0] rfl, Y.pick [1, 0, 2, 3] (by decide) rfl⟩

set_option maxHeartbeats 4000000 in
set_option maxRecDepth 100000 in
theorem k_X4_answers (l : Launch) (D : va_G) (τ : Nat → ClassId) (sz : Nat) (nk : Nat) (na : Nat → Nat) (cap : Nat) (G : Nat → Nat → Int) (ct so : Int) (L : List Nte) (hR : NtRep G ct so L) (hK : CapOk cap) (hc : L.length ≤ cap) (hI : NtIn L) : Met l yX4_answers (Cond.code yX4_answers cX4_answers 3 (some .int) :: wALL) { frames := 2, cells := 0, slots := 0, locals := 42 } (Pw D τ (bl [(ntB τ nk na cap G ct so)]) sz [.ref nk]) (va_Qi (fun (r : Int32) (_ : Unit) => r = iI (ansL L)) (Bb D (va_A (bl [(ntB τ nk na cap G ct so)]) sz) (fun (_ : Unit) => [(ntB τ nk na cap G ct so)])) (va_A (bl [(ntB τ nk na cap G ct so)]) sz)) 0 0 (va_A (bl [(ntB τ nk na cap G ct so)]) sz) := by
  refine bodyW (by decide) (Nat.le_of_ble_eq_true rfl) (fun p e s m below meth c ls B hr hlk hin hsz Y hl => ?_)
  have hl : lv_has ls 3 [(0, .ref nk)] := hl
  have B : CallFix p m c cX4_answers 3 s _ wALL RX4 := B
  generalize va_A (bl [(ntB τ nk na cap G ct so)]) sz = A at Y ⊢
  have hk1 := hK.le
  obtain ⟨g1, g2, g3, g4⟩ := hR
  refine lv_iconst (v := (iI (0))) B.1 B.2.1 dX4_answers_0 (by decide) ?_
  refine lv_istore_n (lv' := [(1, .int (iI (0))), (0, .ref nk)]) B.1 B.2.1 dX4_answers_1 rfl hl (by decide) rfl (fun ls hl => ?_)
  refine lv_iconst (v := (iI (0))) B.1 B.2.1 dX4_answers_2 (by decide) ?_
  refine lv_istore_n (lv' := [(2, .int (iI (0))), (1, .int (iI (0))), (0, .ref nk)]) B.1 B.2.1 dX4_answers_3 rfl hl (by decide) rfl (fun ls hl => ?_)
  have hl : lv_has ls 3 [(0, .ref nk), (1, .int (iI (0))), (2, .int (iI ((0 : Nat) : Int)))] := lv_sub hl [2, 1, 0] rfl
  refine loopW (n := L.length) (P := fun (i : Nat) (H : Heap) (locs : List Loc) (ls : Array Slot) => ∃ mn : Int, (mn = ansL (L.take i)) ∧ lv_has ls 3 [(0, .ref nk), (1, .int (iI (mn))), (2, .int (iI ((i : Nat) : Int)))] ∧ Wd D τ s A s.heap (bl [(ntB τ nk na cap G ct so)]) H locs) 0 (Nat.zero_le _) ⟨0, (by rw [List.take_zero]; rfl), lv_sub hl [0, 1, 2] rfl, Y.pick [0] (by decide) rfl⟩ (fun H locs ls hP => ?_) (fun i hlt H locs ls hP ih => ?_)
  · obtain ⟨mn, e1, hl, Y⟩ := hP
    refine lv_iload_n B.1 B.2.1 dX4_answers_4 rfl (lv_at hl 2 rfl) ?_
    refine lv_aload_n B.1 B.2.1 dX4_answers_5 rfl (lv_at hl 0 rfl) ?_
    have Y : Wd D τ s A s.heap (bl [[(nk, .inr (6, [.ref (na 0), .ref (na 1), .ref (na 2), .int (iI (ct)), .int (iI (so))]))], [((na 0), .inl (τ 0, cap, .inl (fun j => iI ((G 0) j))))], [((na 1), .inl (τ 0, cap, .inl (fun j => iI ((G 1) j))))], [((na 2), .inl (τ 0, cap, .inl (fun j => iI ((G 2) j))))]]) _ _ := Y
    refine gf_X4_21 B Y 0 rfl rfl dX4_answers_6 ?_
    have Y : Wd D τ s A s.heap (bl [(ntB τ nk na cap G ct so)]) _ _ := Y
    refine lv_icmp_ge (tgt := 30) B.1 B.2.1 dX4_answers_9 (by decide) (fun _ => ?_) (fun h => absurd ((iI_le (a := ct) (b := ((L.length : Nat) : Int)) (by omega) (by omega) (by omega) (by omega)).mpr (by omega)) h) 
    refine lv_iload_n B.1 B.2.1 dX4_answers_30 rfl (lv_at hl 1 rfl) ?_
    exact eI B hr hlk Y () (by rw [e1, List.take_of_length_le (by omega)]) [0] (by decide) rfl (Nat.le_of_ble_eq_true rfl) (Nat.le_of_ble_eq_true rfl) dX4_answers_31
  · obtain ⟨mn, e1, hl, Y⟩ := hP
    have hx := hI _ (getD_mem (L := L) (i := i) (by omega))
    rw [g4 i hlt] at hx
    have hx : -1 ≤ G 1 i ∧ G 1 i ≤ 5000 := hx.2.1
    have ht : ansL (L.take (i + 1)) = ansL (L.take i) + (if G 1 i = -1 then 1 else 0) := by rw [take_s (by omega), ansL_app, g4 i hlt]; rfl
    refine lv_iload_n B.1 B.2.1 dX4_answers_4 rfl (lv_at hl 2 rfl) ?_
    refine lv_aload_n B.1 B.2.1 dX4_answers_5 rfl (lv_at hl 0 rfl) ?_
    have Y : Wd D τ s A s.heap (bl [[(nk, .inr (6, [.ref (na 0), .ref (na 1), .ref (na 2), .int (iI (ct)), .int (iI (so))]))], [((na 0), .inl (τ 0, cap, .inl (fun j => iI ((G 0) j))))], [((na 1), .inl (τ 0, cap, .inl (fun j => iI ((G 1) j))))], [((na 2), .inl (τ 0, cap, .inl (fun j => iI ((G 2) j))))]]) _ _ := Y
    refine gf_X4_21 B Y 0 rfl rfl dX4_answers_6 ?_
    have Y : Wd D τ s A s.heap (bl [(ntB τ nk na cap G ct so)]) _ _ := Y
    refine lv_icmp_ge (tgt := 30) B.1 B.2.1 dX4_answers_9 (by decide) (fun h => absurd h (mt (iI_le (a := ct) (b := ((i : Nat) : Int)) (by omega) (by omega) (by omega) (by omega)).mp (by omega))) (fun _ => ?_)
    refine lv_aload_n B.1 B.2.1 dX4_answers_12 rfl (lv_at hl 0 rfl) ?_
    refine lv_iload_n B.1 B.2.1 dX4_answers_13 rfl (lv_at hl 2 rfl) ?_
    refine qI (Cs := [(ntB τ nk na cap G ct so)]) (Rs := []) Y [0] [] (by decide) rfl (cVb (As := [.int (iI ((i : Nat) : Int))]) (rest := []) (q0 := 0) B Y [0] (by decide) rfl (k_X4_toldBy l D τ _ nk na cap G ct so hK i (by omega) ) rfl rfl q_562 q_563 q_564 q_8 q_565 rfl rfl hd_X4_toldBy ⟨(Nat.le_of_ble_eq_true rfl), (Nat.le_of_ble_eq_true rfl)⟩ rfl hl.1 rfl (Nat.le_of_ble_eq_true rfl) dX4_answers_14 ⟨(Nat.le_of_ble_eq_true rfl), (Nat.le_of_ble_eq_true rfl)⟩) (fun r u H locs hw Y => ?_)
    obtain rfl := hw
    have Y : Wd D τ s A s.heap (bl [(ntB τ nk na cap G ct so)]) _ _ := Y
    refine lv_iconst (v := (iI (-1))) B.1 B.2.1 dX4_answers_17 (by decide) ?_
    refine lv_icmp_ne (tgt := 24) B.1 B.2.1 dX4_answers_18 (by decide) (fun c1 => ?_) (fun c1 => ?_)
    · have c1 := mt (iI_eq (a := G 1 i) (b := (-1)) (by omega) (by omega) (by omega) (by omega)).mpr c1
      refine lv_iinc (v := (iI (((i + 1) : Nat) : Int))) (lv' := [(2, .int (iI (((i + 1) : Nat) : Int))), (0, .ref nk), (1, .int (iI (mn)))]) B.1 B.2.1 dX4_answers_24 hl (k := 2) rfl (iI_inc _) (by decide) rfl (fun ls hl => ?_)
      refine lv_goto (tgt := 4) B.1 B.2.1 dX4_answers_27 (by decide) ?_
      rw [if_neg (by omega)] at ht
      exact ih H locs ls ⟨mn, (by omega), lv_sub hl [1, 2, 0] rfl, Y.pick [0] (by decide) rfl⟩
    · have c1 := (iI_eq (a := G 1 i) (b := (-1)) (by omega) (by omega) (by omega) (by omega)).mp c1
      refine lv_iinc (v := (iI (mn + 1))) (lv' := [(1, .int (iI (mn + 1))), (0, .ref nk), (2, .int (iI ((i : Nat) : Int)))]) B.1 B.2.1 dX4_answers_21 hl (k := 1) rfl (iI_add _ _) (by decide) rfl (fun ls hl => ?_)
      refine lv_iinc (v := (iI (((i + 1) : Nat) : Int))) (lv' := [(2, .int (iI (((i + 1) : Nat) : Int))), (1, .int (iI (mn + 1))), (0, .ref nk)]) B.1 B.2.1 dX4_answers_24 hl (k := 2) rfl (iI_inc _) (by decide) rfl (fun ls hl => ?_)
      refine lv_goto (tgt := 4) B.1 B.2.1 dX4_answers_27 (by decide) ?_
      rw [if_pos (by omega)] at ht
      exact ih H locs ls ⟨(mn + 1), (by omega), lv_sub hl [2, 1, 0] rfl, Y.pick [0] (by decide) rfl⟩

set_option maxHeartbeats 4000000 in
set_option maxRecDepth 100000 in
theorem k_X4_init (l : Launch) (D : va_G) (τ : Nat → ClassId) (sz : Nat) (nk : Nat) : Met l yX4_init (Cond.code yX4_init cX4_init 1 none :: wALL) { frames := 1, cells := 3, slots := 48, locals := 60 } (Pw D τ (bl [[(nk, .inr (6, [.null, .null, .null, .int (iI (0)), .int (iI (0))]))]]) sz [.ref nk]) (va_Qv (fun (u : ((Nat → Nat) × (Nat → Nat → Int) × Int × Int)) => NtRep u.2.1 u.2.2.1 u.2.2.2 []) (Bb D (va_A (bl [[(nk, .inr (6, [.null, .null, .null, .int (iI (0)), .int (iI (0))]))]]) sz) (fun (u : ((Nat → Nat) × (Nat → Nat → Int) × Int × Int)) => [(ntB τ nk u.1 16 u.2.1 u.2.2.1 u.2.2.2)])) (va_A (bl [[(nk, .inr (6, [.null, .null, .null, .int (iI (0)), .int (iI (0))]))]]) sz)) 3 48 (va_A (bl [[(nk, .inr (6, [.null, .null, .null, .int (iI (0)), .int (iI (0))]))]]) sz) := by
  refine bodyW (by decide) (Nat.le_of_ble_eq_true rfl) (fun p e s m below meth c ls B hr hlk hin hsz Y hl => ?_)
  have hl : lv_has ls 1 [(0, .ref nk)] := hl
  have B : CallFix p m c cX4_init 1 s _ wALL RX4 := B
  generalize va_A (bl [[(nk, .inr (6, [.null, .null, .null, .int (iI (0)), .int (iI (0))]))]]) sz = A at Y ⊢
  refine lv_aload_n B.1 B.2.1 dX4_init_0 rfl (lv_at hl 0 rfl) ?_
  refine t_objInit B q_171 q_35 q_36 hl.1 (Nat.le_of_ble_eq_true rfl) dX4_init_1 (Nat.le_of_ble_eq_true rfl) (Nat.le_of_ble_eq_true rfl) ?_
  refine lv_aload_n B.1 B.2.1 dX4_init_4 rfl (lv_at hl 0 rfl) ?_
  refine lv_bipush (v := (iI (16))) B.1 B.2.1 dX4_init_5 (by decide) ?_
  refine b_newi (N' := 16) B Y q_80 (by decide) (by decide) (by decide) (Nat.le_of_ble_eq_true rfl) (Nat.le_of_ble_eq_true rfl) dX4_init_7 (fun a1 H Y => ?_)
  refine W.widen (k := 1) (n := 16) (Nat.le_of_ble_eq_true rfl) (Nat.le_of_ble_eq_true rfl) ?_
  have Y : Wd D τ s A s.heap (bl [[(nk, .inr (6, [.null, .null, .null, .int (iI (0)), .int (iI (0))]))], [(a1, .inl (τ 0, 16, .inl (fun j => iI ((fun _ => 0) j))))]]) _ _ := Y
  refine pf_X4_9 (B' := [[(nk, .inr (6, [.ref a1, .null, .null, .int (iI (0)), .int (iI (0))]))], [(a1, .inl (τ 0, 16, .inl (fun j => iI ((fun _ => 0) j))))]]) B Y rfl rfl 0 rfl (Nat.le_of_ble_eq_true rfl) rfl dX4_init_9 (fun H locs Y => ?_)
  refine lv_aload_n B.1 B.2.1 dX4_init_12 rfl (lv_at hl 0 rfl) ?_
  refine lv_bipush (v := (iI (16))) B.1 B.2.1 dX4_init_13 (by decide) ?_
  refine b_newi (N' := 16) B Y q_80 (by decide) (by decide) (by decide) (Nat.le_of_ble_eq_true rfl) (Nat.le_of_ble_eq_true rfl) dX4_init_15 (fun a2 H Y => ?_)
  refine W.widen (k := 2) (n := 32) (Nat.le_of_ble_eq_true rfl) (Nat.le_of_ble_eq_true rfl) ?_
  have Y : Wd D τ s A s.heap (bl [[(nk, .inr (6, [.ref a1, .null, .null, .int (iI (0)), .int (iI (0))]))], [(a1, .inl (τ 0, 16, .inl (fun j => iI ((fun _ => 0) j))))], [(a2, .inl (τ 0, 16, .inl (fun j => iI ((fun _ => 0) j))))]]) _ _ := Y
  refine pf_X4_15 (B' := [[(nk, .inr (6, [.ref a1, .ref a2, .null, .int (iI (0)), .int (iI (0))]))], [(a1, .inl (τ 0, 16, .inl (fun j => iI ((fun _ => 0) j))))], [(a2, .inl (τ 0, 16, .inl (fun j => iI ((fun _ => 0) j))))]]) B Y rfl rfl 0 rfl (Nat.le_of_ble_eq_true rfl) rfl dX4_init_17 (fun H locs Y => ?_)
  refine lv_aload_n B.1 B.2.1 dX4_init_20 rfl (lv_at hl 0 rfl) ?_
  refine lv_bipush (v := (iI (16))) B.1 B.2.1 dX4_init_21 (by decide) ?_
  refine b_newi (N' := 16) B Y q_80 (by decide) (by decide) (by decide) (Nat.le_of_ble_eq_true rfl) (Nat.le_of_ble_eq_true rfl) dX4_init_23 (fun a3 H Y => ?_)
  refine W.widen (k := 3) (n := 48) (Nat.le_of_ble_eq_true rfl) (Nat.le_of_ble_eq_true rfl) ?_
  have Y : Wd D τ s A s.heap (bl [[(nk, .inr (6, [.ref a1, .ref a2, .null, .int (iI (0)), .int (iI (0))]))], [(a1, .inl (τ 0, 16, .inl (fun j => iI ((fun _ => 0) j))))], [(a2, .inl (τ 0, 16, .inl (fun j => iI ((fun _ => 0) j))))], [(a3, .inl (τ 0, 16, .inl (fun j => iI ((fun _ => 0) j))))]]) _ _ := Y
  refine pf_X4_18 (B' := [[(nk, .inr (6, [.ref a1, .ref a2, .ref a3, .int (iI (0)), .int (iI (0))]))], [(a1, .inl (τ 0, 16, .inl (fun j => iI ((fun _ => 0) j))))], [(a2, .inl (τ 0, 16, .inl (fun j => iI ((fun _ => 0) j))))], [(a3, .inl (τ 0, 16, .inl (fun j => iI ((fun _ => 0) j))))]]) B Y rfl rfl 0 rfl (Nat.le_of_ble_eq_true rfl) rfl dX4_init_25 (fun H locs Y => ?_)
  refine lv_aload_n B.1 B.2.1 dX4_init_28 rfl (lv_at hl 0 rfl) ?_
  refine lv_iconst (v := (iI (0))) B.1 B.2.1 dX4_init_29 (by decide) ?_
  refine pf_X4_21 (B' := [[(nk, .inr (6, [.ref a1, .ref a2, .ref a3, .int (iI (0)), .int (iI (0))]))], [(a1, .inl (τ 0, 16, .inl (fun j => iI ((fun _ => 0) j))))], [(a2, .inl (τ 0, 16, .inl (fun j => iI ((fun _ => 0) j))))], [(a3, .inl (τ 0, 16, .inl (fun j => iI ((fun _ => 0) j))))]]) B Y 0 rfl (Nat.le_of_ble_eq_true rfl) rfl dX4_init_30 (fun H locs Y => ?_)
  refine lv_aload_n B.1 B.2.1 dX4_init_33 rfl (lv_at hl 0 rfl) ?_
  refine lv_ldc B.1 B.2.1 B.2.2.2.1 (B.2.2.2.2 _ q_172) dX4_init_34 ?_
  refine lv_cv (v := (iI (1000000))) (by decide) ?_
  refine pf_X4_26 (B' := [[(nk, .inr (6, [.ref a1, .ref a2, .ref a3, .int (iI (0)), .int (iI (1000000))]))], [(a1, .inl (τ 0, 16, .inl (fun j => iI ((fun _ => 0) j))))], [(a2, .inl (τ 0, 16, .inl (fun j => iI ((fun _ => 0) j))))], [(a3, .inl (τ 0, 16, .inl (fun j => iI ((fun _ => 0) j))))]]) B Y 0 rfl (Nat.le_of_ble_eq_true rfl) rfl dX4_init_36 (fun H locs Y => ?_)
  have Y : Wd D τ s A s.heap (bl [(ntB τ nk (vecA [a1, a2, a3]) 16 (vecF [fun _ => 0, fun _ => 0, fun _ => 0]) 0 1000000)]) _ _ := Y
  exact eV B hr hlk Y (vecA [a1, a2, a3], vecF [fun _ => 0, fun _ => 0, fun _ => 0], 0, 1000000) (NtRep.nil rfl rfl) [0] (by decide) rfl (Nat.le_of_ble_eq_true rfl) (Nat.le_of_ble_eq_true rfl) dX4_init_39

