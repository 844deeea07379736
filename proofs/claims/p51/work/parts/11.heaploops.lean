def lhN (en tp : Int) : Nat := (limI en tp).toNat
def hstF (V : Int → Int) (ix d : Int) : Nat → Nat → Int
  | 0, _ => d
  | k + 1, i => if hsI V i ≠ 0 ∧ cntH V i = ix then i else hstF V ix d k (i + 1)
def heF (V : Int → Int) : Nat → Nat → Int
  | 0, i => i
  | k + 1, i => if knI V i = 0 then heF V k (i + 1) else i
def ownF (V : Int → Int) (d : Nat → Int) : Nat → Int
  | 0 => 1
  | n + 1 => if V n = ownB d n then ownF V d n else 0
theorem hsI_01 (V : Int → Int) (z : Int) : hsI V z = 0 ∨ hsI V z = 1 := by unfold hsI; split <;> omega
theorem knI_01 (V : Int → Int) (z : Int) : knI V z = 0 ∨ knI V z = 1 := by unfold knI; split <;> omega
theorem knI_0 {V : Int → Int} {z : Int} : knI V z = 0 ↔ V z = -1 := by unfold knI; split <;> omega
theorem hstF_step {V : Int → Int} {ix d : Int} {N i : Nat} (h : i < N) : hstF V ix d (N - i) i = if hsI V i ≠ 0 ∧ cntH V i = ix then (i : Int) else hstF V ix d (N - (i + 1)) (i + 1) := by
  have e : N - i = (N - (i + 1)) + 1 := by omega
  rw [e]; rfl
theorem heF_step {V : Int → Int} {N i : Nat} (h : i < N) : heF V (N - i) i = if knI V i = 0 then heF V (N - (i + 1)) (i + 1) else (i : Int) := by
  have e : N - i = (N - (i + 1)) + 1 := by omega
  rw [e]; rfl
theorem ownF_bad {V : Int → Int} {d : Nat → Int} {i N : Nat} (h : i < N) (hb : V i ≠ ownB d i) : ownF V d N = 0 := by
  induction N with
  | zero => omega
  | succ N ih =>
    by_cases e : i = N
    · subst e
      exact if_neg hb
    · show (if V N = ownB d N then ownF V d N else 0) = 0
      rw [ih (by omega)]
      split <;> rfl
theorem ownB_01 (d : Nat → Int) (z : Int) : 0 ≤ ownB d z ∧ ownB d z ≤ 255 := by unfold ownB; omega
theorem lhN_eq {en tp : Int} (h1 : -1 ≤ en) (h2 : 0 ≤ tp) : limI en tp = lhN en tp := by unfold lhN limI; split <;> omega
set_option maxHeartbeats 4000000 in
set_option maxRecDepth 100000 in
theorem k_holeCount (l : Launch) (D : va_G) (τ : Nat → ClassId) (sz : Nat) (a v n : Nat) (w st en kw ov ar tp : Int) (f : Nat → Int32) (V : Int → Int) (hR : HpRep tp n f V) (h1 : -1 ≤ en) (h2 : en ≤ 3000) : Met l yX2_holeCount (Cond.code yX2_holeCount cX2_holeCount 3 (some .int) :: wALL) { frames := 3, cells := 0, slots := 0, locals := 63 } (Pw D τ (bl [[(a, .inr (4, [.int (iI (w)), .int (iI (st)), .int (iI (en)), .int (iI (kw)), .int (iI (ov)), .int (iI (ar)), .int (iI (tp)), .ref v]))], [(v, .inl (τ 0, n, .inl (f)))]]) sz [.ref a]) (va_Qi (fun (r : Int32) (_ : Unit) => r = iI ((if en = -1 then 1 else 0) + cntH V (lhN en tp))) (Bb D (va_A (bl [[(a, .inr (4, [.int (iI (w)), .int (iI (st)), .int (iI (en)), .int (iI (kw)), .int (iI (ov)), .int (iI (ar)), .int (iI (tp)), .ref v]))], [(v, .inl (τ 0, n, .inl (f)))]]) sz) (fun (_ : Unit) => [[(a, .inr (4, [.int (iI (w)), .int (iI (st)), .int (iI (en)), .int (iI (kw)), .int (iI (ov)), .int (iI (ar)), .int (iI (tp)), .ref v]))], [(v, .inl (τ 0, n, .inl (f)))]])) (va_A (bl [[(a, .inr (4, [.int (iI (w)), .int (iI (st)), .int (iI (en)), .int (iI (kw)), .int (iI (ov)), .int (iI (ar)), .int (iI (tp)), .ref v]))], [(v, .inl (τ 0, n, .inl (f)))]]) sz)) 0 0 (va_A (bl [[(a, .inr (4, [.int (iI (w)), .int (iI (st)), .int (iI (en)), .int (iI (kw)), .int (iI (ov)), .int (iI (ar)), .int (iI (tp)), .ref v]))], [(v, .inl (τ 0, n, .inl (f)))]]) sz) := by
  refine bodyW (by decide) (Nat.le_of_ble_eq_true rfl) (fun p e s m below meth c ls B hr hlk hin hsz Y hl => ?_)
  have hl : lv_has ls 3 [(0, .ref a)] := hl
  have B : CallFix p m c cX2_holeCount 3 s _ wALL RX2 := B
  generalize va_A (bl [[(a, .inr (4, [.int (iI (w)), .int (iI (st)), .int (iI (en)), .int (iI (kw)), .int (iI (ov)), .int (iI (ar)), .int (iI (tp)), .ref v]))], [(v, .inl (τ 0, n, .inl (f)))]]) sz = A at Y ⊢
  have q0 := hR
  obtain ⟨r1, r2, r3, r4, r5, r6⟩ := q0
  have hN : limI en tp = lhN en tp := lhN_eq h1 r1
  have hN2 : lhN en tp ≤ 3000 := by unfold lhN limI; split <;> omega
  generalize he0 : (if en = -1 then 1 else 0 : Int) = e0
  have he1 : 0 ≤ e0 ∧ e0 ≤ 1 := by rw [← he0]; split <;> omega
  have q3 := cntH_le V (lhN en tp)
  refine lv_aload_n B.1 B.2.1 dX2_holeCount_0 rfl (lv_at hl 0 rfl) ?_
  refine gf_X2_18 B Y 0 rfl rfl dX2_holeCount_1 ?_
  refine lv_iconst (v := (iI (-1))) B.1 B.2.1 dX2_holeCount_4 (by decide) ?_
  refine lv_icmp_ne (tgt := 12) B.1 B.2.1 dX2_holeCount_5 (by decide) (fun c1 => ?_) (fun c1 => ?_)
  · have c1 := mt (iI_eq (a := en) (b := (-1)) (by omega) (by omega) (by omega) (by omega)).mpr c1
    refine lv_iconst (v := (iI (0))) B.1 B.2.1 dX2_holeCount_12 (by decide) ?_
    refine lv_istore_n (lv' := [(1, .int (iI (0))), (0, .ref a)]) B.1 B.2.1 dX2_holeCount_13 rfl hl (by decide) rfl (fun ls hl => ?_)
    have hl : lv_has ls 3 [(1, .int (iI (e0 + cntH V 0))), (0, .ref a)] := ((show iI (0) = iI (e0 + cntH V 0) from by congr 1; subst he0; simp [cntH, c1]) ▸ lv_sub hl [0, 1] rfl)
    refine lv_iconst (v := (iI (0))) B.1 B.2.1 dX2_holeCount_14 (by decide) ?_
    refine lv_istore_n (lv' := [(2, .int (iI (0))), (1, .int (iI (e0 + cntH V 0))), (0, .ref a)]) B.1 B.2.1 dX2_holeCount_15 rfl hl (by decide) rfl (fun ls hl => ?_)
    refine loopW (n := (lhN en tp)) (P := fun (i : Nat) (H : Heap) (locs : List Loc) (ls : Array Slot) => lv_has ls 3 [(0, .ref a), (1, .int (iI (e0 + cntH V i))), (2, .int (iI ((i : Nat) : Int)))] ∧ Wd D τ s A s.heap (bl [[(a, .inr (4, [.int (iI (w)), .int (iI (st)), .int (iI (en)), .int (iI (kw)), .int (iI (ov)), .int (iI (ar)), .int (iI (tp)), .ref v]))], [(v, .inl (τ 0, n, .inl (f)))]]) H locs) 0 (Nat.zero_le _) ⟨lv_sub hl [2, 1, 0] rfl, Y.pick [0, 1] (by decide) rfl⟩ (fun H locs ls hP => ?_) (fun i hlt H locs ls hP ih => ?_)
    · obtain ⟨hl, Y⟩ := hP
      refine lv_iload_n B.1 B.2.1 dX2_holeCount_16 rfl (lv_at hl 2 rfl) ?_
      refine lv_aload_n B.1 B.2.1 dX2_holeCount_17 rfl (lv_at hl 0 rfl) ?_
      refine qI (Cs := [[(a, .inr (4, [.int (iI (w)), .int (iI (st)), .int (iI (en)), .int (iI (kw)), .int (iI (ov)), .int (iI (ar)), .int (iI (tp)), .ref v]))], [(v, .inl (τ 0, n, .inl (f)))]]) (Rs := []) Y [0, 1] [] (by decide) rfl (cV (As := []) (rest := [.int (iI (((lhN en tp) : Nat) : Int))]) (q0 := 0) B Y [0, 1] (by decide) rfl (k_limit l D τ _ a v n w st en kw ov ar tp (f) V hR (by omega) (by omega)) rfl rfl q_1156 q_1158 qp_36 q_12 q_1159 rfl rfl hd_X2_limit ⟨(Nat.le_of_ble_eq_true rfl), (Nat.le_of_ble_eq_true rfl)⟩ rfl hl.1 rfl (Nat.le_of_ble_eq_true rfl) dX2_holeCount_18 ⟨(Nat.le_of_ble_eq_true rfl), (Nat.le_of_ble_eq_true rfl)⟩) (fun r u H locs hw Y => ?_)
      obtain rfl := hw
      have Y : Wd D τ s A s.heap (bl [[(a, .inr (4, [.int (iI (w)), .int (iI (st)), .int (iI (en)), .int (iI (kw)), .int (iI (ov)), .int (iI (ar)), .int (iI (tp)), .ref v]))], [(v, .inl (τ 0, n, .inl (f)))]]) _ _ := Y
      refine lv_icmp_ge (tgt := 41) B.1 B.2.1 dX2_holeCount_21 (by decide) (fun _ => ?_) (fun h => absurd ((iI_le (a := limI en tp) (b := (((lhN en tp) : Nat) : Int)) (by omega) (by omega) (by omega) (by omega)).mpr (by omega)) h) 
      refine lv_iload_n B.1 B.2.1 dX2_holeCount_41 rfl (lv_at hl 1 rfl) ?_
      exact eI B hr hlk Y () rfl [0, 1] (by decide) rfl (Nat.le_of_ble_eq_true rfl) (Nat.le_of_ble_eq_true rfl) dX2_holeCount_42
    · obtain ⟨hl, Y⟩ := hP
      have q1 := hsI_01 V ((i : Nat) : Int)
      have q2 := cntH_le V i
      refine lv_iload_n B.1 B.2.1 dX2_holeCount_16 rfl (lv_at hl 2 rfl) ?_
      refine lv_aload_n B.1 B.2.1 dX2_holeCount_17 rfl (lv_at hl 0 rfl) ?_
      refine qI (Cs := [[(a, .inr (4, [.int (iI (w)), .int (iI (st)), .int (iI (en)), .int (iI (kw)), .int (iI (ov)), .int (iI (ar)), .int (iI (tp)), .ref v]))], [(v, .inl (τ 0, n, .inl (f)))]]) (Rs := []) Y [0, 1] [] (by decide) rfl (cV (As := []) (rest := [.int (iI ((i : Nat) : Int))]) (q0 := 0) B Y [0, 1] (by decide) rfl (k_limit l D τ _ a v n w st en kw ov ar tp (f) V hR (by omega) (by omega)) rfl rfl q_1156 q_1158 qp_36 q_12 q_1159 rfl rfl hd_X2_limit ⟨(Nat.le_of_ble_eq_true rfl), (Nat.le_of_ble_eq_true rfl)⟩ rfl hl.1 rfl (Nat.le_of_ble_eq_true rfl) dX2_holeCount_18 ⟨(Nat.le_of_ble_eq_true rfl), (Nat.le_of_ble_eq_true rfl)⟩) (fun r u H locs hw Y => ?_)
      obtain rfl := hw
      have Y : Wd D τ s A s.heap (bl [[(a, .inr (4, [.int (iI (w)), .int (iI (st)), .int (iI (en)), .int (iI (kw)), .int (iI (ov)), .int (iI (ar)), .int (iI (tp)), .ref v]))], [(v, .inl (τ 0, n, .inl (f)))]]) _ _ := Y
      refine lv_icmp_ge (tgt := 41) B.1 B.2.1 dX2_holeCount_21 (by decide) (fun h => absurd h (mt (iI_le (a := limI en tp) (b := ((i : Nat) : Int)) (by omega) (by omega) (by omega) (by omega)).mp (by omega))) (fun _ => ?_)
      refine lv_aload_n B.1 B.2.1 dX2_holeCount_24 rfl (lv_at hl 0 rfl) ?_
      refine lv_iload_n B.1 B.2.1 dX2_holeCount_25 rfl (lv_at hl 2 rfl) ?_
      refine qI (Cs := [[(a, .inr (4, [.int (iI (w)), .int (iI (st)), .int (iI (en)), .int (iI (kw)), .int (iI (ov)), .int (iI (ar)), .int (iI (tp)), .ref v]))], [(v, .inl (τ 0, n, .inl (f)))]]) (Rs := []) Y [0, 1] [] (by decide) rfl (cV (As := [.int (iI ((i : Nat) : Int))]) (rest := []) (q0 := 0) B Y [0, 1] (by decide) rfl (k_isHoleStart l D τ _ a v n w st en kw ov ar tp (f) V hR (((i : Nat) : Int)) (by omega) (by omega)) rfl rfl q_1160 q_1162 qp_37 q_12 q_1163 rfl rfl hd_X2_isHoleStart ⟨(Nat.le_of_ble_eq_true rfl), (Nat.le_of_ble_eq_true rfl)⟩ rfl hl.1 rfl (Nat.le_of_ble_eq_true rfl) dX2_holeCount_26 ⟨(Nat.le_of_ble_eq_true rfl), (Nat.le_of_ble_eq_true rfl)⟩) (fun r u H locs hw Y => ?_)
      obtain rfl := hw
      have Y : Wd D τ s A s.heap (bl [[(a, .inr (4, [.int (iI (w)), .int (iI (st)), .int (iI (en)), .int (iI (kw)), .int (iI (ov)), .int (iI (ar)), .int (iI (tp)), .ref v]))], [(v, .inl (τ 0, n, .inl (f)))]]) _ _ := Y
      refine lv_if_eq (tgt := 35) B.1 B.2.1 dX2_holeCount_29 (by decide) (fun c2 => ?_) (fun c2 => ?_)
      · have c2 := (iI_eq0 (a := hsI V (((i : Nat) : Int))) (by omega) (by omega)).mp c2
        refine lv_iinc (v := (iI (((i + 1) : Nat) : Int))) (lv' := [(2, .int (iI (((i + 1) : Nat) : Int))), (0, .ref a), (1, .int (iI (e0 + cntH V i)))]) B.1 B.2.1 dX2_holeCount_35 hl (k := 2) rfl (iI_inc _) (by decide) rfl (fun ls hl => ?_)
        refine lv_goto (tgt := 16) B.1 B.2.1 dX2_holeCount_38 (by decide) ?_
        have e1 : e0 + cntH V i = e0 + cntH V (i + 1) := by show _ = e0 + (cntH V i + hsI V i); omega
        rw [e1] at hl
        exact ih H locs ls ⟨lv_sub hl [1, 2, 0] rfl, Y.pick [0, 1] (by decide) rfl⟩
      · have c2 := mt (iI_eq0 (a := hsI V (((i : Nat) : Int))) (by omega) (by omega)).mpr c2
        refine lv_iinc (v := (iI (e0 + cntH V (i + 1)))) (lv' := [(1, .int (iI (e0 + cntH V (i + 1)))), (0, .ref a), (2, .int (iI ((i : Nat) : Int)))]) B.1 B.2.1 dX2_holeCount_32 hl (k := 1) rfl (by show iI _ + iI 1 = _; rw [iI_add]; congr 1; show _ = e0 + (cntH V i + hsI V i); omega) (by decide) rfl (fun ls hl => ?_)
        refine lv_iinc (v := (iI (((i + 1) : Nat) : Int))) (lv' := [(2, .int (iI (((i + 1) : Nat) : Int))), (1, .int (iI (e0 + cntH V (i + 1)))), (0, .ref a)]) B.1 B.2.1 dX2_holeCount_35 hl (k := 2) rfl (iI_inc _) (by decide) rfl (fun ls hl => ?_)
        refine lv_goto (tgt := 16) B.1 B.2.1 dX2_holeCount_38 (by decide) ?_
        exact ih H locs ls ⟨lv_sub hl [2, 1, 0] rfl, Y.pick [0, 1] (by decide) rfl⟩
  · have c1 := (iI_eq (a := en) (b := (-1)) (by omega) (by omega) (by omega) (by omega)).mp c1
    refine lv_iconst (v := (iI (1))) B.1 B.2.1 dX2_holeCount_8 (by decide) ?_
    refine lv_goto (tgt := 13) B.1 B.2.1 dX2_holeCount_9 (by decide) ?_
    refine lv_istore_n (lv' := [(1, .int (iI (1))), (0, .ref a)]) B.1 B.2.1 dX2_holeCount_13 rfl hl (by decide) rfl (fun ls hl => ?_)
    have hl : lv_has ls 3 [(1, .int (iI (e0 + cntH V 0))), (0, .ref a)] := ((show iI (1) = iI (e0 + cntH V 0) from by congr 1; subst he0; simp [cntH, c1]) ▸ lv_sub hl [0, 1] rfl)
    refine lv_iconst (v := (iI (0))) B.1 B.2.1 dX2_holeCount_14 (by decide) ?_
    refine lv_istore_n (lv' := [(2, .int (iI (0))), (1, .int (iI (e0 + cntH V 0))), (0, .ref a)]) B.1 B.2.1 dX2_holeCount_15 rfl hl (by decide) rfl (fun ls hl => ?_)
    refine loopW (n := (lhN en tp)) (P := fun (i : Nat) (H : Heap) (locs : List Loc) (ls : Array Slot) => lv_has ls 3 [(0, .ref a), (1, .int (iI (e0 + cntH V i))), (2, .int (iI ((i : Nat) : Int)))] ∧ Wd D τ s A s.heap (bl [[(a, .inr (4, [.int (iI (w)), .int (iI (st)), .int (iI (en)), .int (iI (kw)), .int (iI (ov)), .int (iI (ar)), .int (iI (tp)), .ref v]))], [(v, .inl (τ 0, n, .inl (f)))]]) H locs) 0 (Nat.zero_le _) ⟨lv_sub hl [2, 1, 0] rfl, Y.pick [0, 1] (by decide) rfl⟩ (fun H locs ls hP => ?_) (fun i hlt H locs ls hP ih => ?_)
    · obtain ⟨hl, Y⟩ := hP
      refine lv_iload_n B.1 B.2.1 dX2_holeCount_16 rfl (lv_at hl 2 rfl) ?_
      refine lv_aload_n B.1 B.2.1 dX2_holeCount_17 rfl (lv_at hl 0 rfl) ?_
      refine qI (Cs := [[(a, .inr (4, [.int (iI (w)), .int (iI (st)), .int (iI (en)), .int (iI (kw)), .int (iI (ov)), .int (iI (ar)), .int (iI (tp)), .ref v]))], [(v, .inl (τ 0, n, .inl (f)))]]) (Rs := []) Y [0, 1] [] (by decide) rfl (cV (As := []) (rest := [.int (iI (((lhN en tp) : Nat) : Int))]) (q0 := 0) B Y [0, 1] (by decide) rfl (k_limit l D τ _ a v n w st en kw ov ar tp (f) V hR (by omega) (by omega)) rfl rfl q_1156 q_1158 qp_36 q_12 q_1159 rfl rfl hd_X2_limit ⟨(Nat.le_of_ble_eq_true rfl), (Nat.le_of_ble_eq_true rfl)⟩ rfl hl.1 rfl (Nat.le_of_ble_eq_true rfl) dX2_holeCount_18 ⟨(Nat.le_of_ble_eq_true rfl), (Nat.le_of_ble_eq_true rfl)⟩) (fun r u H locs hw Y => ?_)
      obtain rfl := hw
      have Y : Wd D τ s A s.heap (bl [[(a, .inr (4, [.int (iI (w)), .int (iI (st)), .int (iI (en)), .int (iI (kw)), .int (iI (ov)), .int (iI (ar)), .int (iI (tp)), .ref v]))], [(v, .inl (τ 0, n, .inl (f)))]]) _ _ := Y
      refine lv_icmp_ge (tgt := 41) B.1 B.2.1 dX2_holeCount_21 (by decide) (fun _ => ?_) (fun h => absurd ((iI_le (a := limI en tp) (b := (((lhN en tp) : Nat) : Int)) (by omega) (by omega) (by omega) (by omega)).mpr (by omega)) h) 
      refine lv_iload_n B.1 B.2.1 dX2_holeCount_41 rfl (lv_at hl 1 rfl) ?_
      exact eI B hr hlk Y () rfl [0, 1] (by decide) rfl (Nat.le_of_ble_eq_true rfl) (Nat.le_of_ble_eq_true rfl) dX2_holeCount_42
    · obtain ⟨hl, Y⟩ := hP
      have q1 := hsI_01 V ((i : Nat) : Int)
      have q2 := cntH_le V i
      refine lv_iload_n B.1 B.2.1 dX2_holeCount_16 rfl (lv_at hl 2 rfl) ?_
      refine lv_aload_n B.1 B.2.1 dX2_holeCount_17 rfl (lv_at hl 0 rfl) ?_
      refine qI (Cs := [[(a, .inr (4, [.int (iI (w)), .int (iI (st)), .int (iI (en)), .int (iI (kw)), .int (iI (ov)), .int (iI (ar)), .int (iI (tp)), .ref v]))], [(v, .inl (τ 0, n, .inl (f)))]]) (Rs := []) Y [0, 1] [] (by decide) rfl (cV (As := []) (rest := [.int (iI ((i : Nat) : Int))]) (q0 := 0) B Y [0, 1] (by decide) rfl (k_limit l D τ _ a v n w st en kw ov ar tp (f) V hR (by omega) (by omega)) rfl rfl q_1156 q_1158 qp_36 q_12 q_1159 rfl rfl hd_X2_limit ⟨(Nat.le_of_ble_eq_true rfl), (Nat.le_of_ble_eq_true rfl)⟩ rfl hl.1 rfl (Nat.le_of_ble_eq_true rfl) dX2_holeCount_18 ⟨(Nat.le_of_ble_eq_true rfl), (Nat.le_of_ble_eq_true rfl)⟩) (fun r u H locs hw Y => ?_)
      obtain rfl := hw
      have Y : Wd D τ s A s.heap (bl [[(a, .inr (4, [.int (iI (w)), .int (iI (st)), .int (iI (en)), .int (iI (kw)), .int (iI (ov)), .int (iI (ar)), .int (iI (tp)), .ref v]))], [(v, .inl (τ 0, n, .inl (f)))]]) _ _ := Y
      refine lv_icmp_ge (tgt := 41) B.1 B.2.1 dX2_holeCount_21 (by decide) (fun h => absurd h (mt (iI_le (a := limI en tp) (b := ((i : Nat) : Int)) (by omega) (by omega) (by omega) (by omega)).mp (by omega))) (fun _ => ?_)
      refine lv_aload_n B.1 B.2.1 dX2_holeCount_24 rfl (lv_at hl 0 rfl) ?_
      refine lv_iload_n B.1 B.2.1 dX2_holeCount_25 rfl (lv_at hl 2 rfl) ?_
      refine qI (Cs := [[(a, .inr (4, [.int (iI (w)), .int (iI (st)), .int (iI (en)), .int (iI (kw)), .int (iI (ov)), .int (iI (ar)), .int (iI (tp)), .ref v]))], [(v, .inl (τ 0, n, .inl (f)))]]) (Rs := []) Y [0, 1] [] (by decide) rfl (cV (As := [.int (iI ((i : Nat) : Int))]) (rest := []) (q0 := 0) B Y [0, 1] (by decide) rfl (k_isHoleStart l D τ _ a v n w st en kw ov ar tp (f) V hR (((i : Nat) : Int)) (by omega) (by omega)) rfl rfl q_1160 q_1162 qp_37 q_12 q_1163 rfl rfl hd_X2_isHoleStart ⟨(Nat.le_of_ble_eq_true rfl), (Nat.le_of_ble_eq_true rfl)⟩ rfl hl.1 rfl (Nat.le_of_ble_eq_true rfl) dX2_holeCount_26 ⟨(Nat.le_of_ble_eq_true rfl), (Nat.le_of_ble_eq_true rfl)⟩) (fun r u H locs hw Y => ?_)
      obtain rfl := hw
      have Y : Wd D τ s A s.heap (bl [[(a, .inr (4, [.int (iI (w)), .int (iI (st)), .int (iI (en)), .int (iI (kw)), .int (iI (ov)), .int (iI (ar)), .int (iI (tp)), .ref v]))], [(v, .inl (τ 0, n, .inl (f)))]]) _ _ := Y
      refine lv_if_eq (tgt := 35) B.1 B.2.1 dX2_holeCount_29 (by decide) (fun c3 => ?_) (fun c3 => ?_)
      · have c3 := (iI_eq0 (a := hsI V (((i : Nat) : Int))) (by omega) (by omega)).mp c3
        refine lv_iinc (v := (iI (((i + 1) : Nat) : Int))) (lv' := [(2, .int (iI (((i + 1) : Nat) : Int))), (0, .ref a), (1, .int (iI (e0 + cntH V i)))]) B.1 B.2.1 dX2_holeCount_35 hl (k := 2) rfl (iI_inc _) (by decide) rfl (fun ls hl => ?_)
        refine lv_goto (tgt := 16) B.1 B.2.1 dX2_holeCount_38 (by decide) ?_
        have e1 : e0 + cntH V i = e0 + cntH V (i + 1) := by show _ = e0 + (cntH V i + hsI V i); omega
        rw [e1] at hl
        exact ih H locs ls ⟨lv_sub hl [1, 2, 0] rfl, Y.pick [0, 1] (by decide) rfl⟩
      · have c3 := mt (iI_eq0 (a := hsI V (((i : Nat) : Int))) (by omega) (by omega)).mpr c3
        refine lv_iinc (v := (iI (e0 + cntH V (i + 1)))) (lv' := [(1, .int (iI (e0 + cntH V (i + 1)))), (0, .ref a), (2, .int (iI ((i : Nat) : Int)))]) B.1 B.2.1 dX2_holeCount_32 hl (k := 1) rfl (by show iI _ + iI 1 = _; rw [iI_add]; congr 1; show _ = e0 + (cntH V i + hsI V i); omega) (by decide) rfl (fun ls hl => ?_)
        refine lv_iinc (v := (iI (((i + 1) : Nat) : Int))) (lv' := [(2, .int (iI (((i + 1) : Nat) : Int))), (1, .int (iI (e0 + cntH V (i + 1)))), (0, .ref a)]) B.1 B.2.1 dX2_holeCount_35 hl (k := 2) rfl (iI_inc _) (by decide) rfl (fun ls hl => ?_)
        refine lv_goto (tgt := 16) B.1 B.2.1 dX2_holeCount_38 (by decide) ?_
        exact ih H locs ls ⟨lv_sub hl [2, 1, 0] rfl, Y.pick [0, 1] (by decide) rfl⟩

set_option maxHeartbeats 4000000 in
set_option maxRecDepth 100000 in
theorem k_holeStart (l : Launch) (D : va_G) (τ : Nat → ClassId) (sz : Nat) (a v n : Nat) (w st en kw ov ar tp : Int) (f : Nat → Int32) (V : Int → Int) (hR : HpRep tp n f V) (h1 : -1 ≤ en) (h2 : en ≤ 3000) (ix : Int) (h3 : -1 ≤ ix) (h4 : ix ≤ 3000) : Met l yX2_holeStart (Cond.code yX2_holeStart cX2_holeStart 4 (some .int) :: wALL) { frames := 3, cells := 0, slots := 0, locals := 63 } (Pw D τ (bl [[(a, .inr (4, [.int (iI (w)), .int (iI (st)), .int (iI (en)), .int (iI (kw)), .int (iI (ov)), .int (iI (ar)), .int (iI (tp)), .ref v]))], [(v, .inl (τ 0, n, .inl (f)))]]) sz [.ref a, .int (iI (ix))]) (va_Qi (fun (r : Int32) (_ : Unit) => r = iI (hstF V ix (if en = -1 ∧ cntH V (lhN en tp) = ix then tp else -1) (lhN en tp) 0)) (Bb D (va_A (bl [[(a, .inr (4, [.int (iI (w)), .int (iI (st)), .int (iI (en)), .int (iI (kw)), .int (iI (ov)), .int (iI (ar)), .int (iI (tp)), .ref v]))], [(v, .inl (τ 0, n, .inl (f)))]]) sz) (fun (_ : Unit) => [[(a, .inr (4, [.int (iI (w)), .int (iI (st)), .int (iI (en)), .int (iI (kw)), .int (iI (ov)), .int (iI (ar)), .int (iI (tp)), .ref v]))], [(v, .inl (τ 0, n, .inl (f)))]])) (va_A (bl [[(a, .inr (4, [.int (iI (w)), .int (iI (st)), .int (iI (en)), .int (iI (kw)), .int (iI (ov)), .int (iI (ar)), .int (iI (tp)), .ref v]))], [(v, .inl (τ 0, n, .inl (f)))]]) sz)) 0 0 (va_A (bl [[(a, .inr (4, [.int (iI (w)), .int (iI (st)), .int (iI (en)), .int (iI (kw)), .int (iI (ov)), .int (iI (ar)), .int (iI (tp)), .ref v]))], [(v, .inl (τ 0, n, .inl (f)))]]) sz) := by
  refine bodyW (by decide) (Nat.le_of_ble_eq_true rfl) (fun p e s m below meth c ls B hr hlk hin hsz Y hl => ?_)
  have hl : lv_has ls 4 [(0, .ref a), (1, .int (iI (ix)))] := hl
  have B : CallFix p m c cX2_holeStart 4 s _ wALL RX2 := B
  generalize va_A (bl [[(a, .inr (4, [.int (iI (w)), .int (iI (st)), .int (iI (en)), .int (iI (kw)), .int (iI (ov)), .int (iI (ar)), .int (iI (tp)), .ref v]))], [(v, .inl (τ 0, n, .inl (f)))]]) sz = A at Y ⊢
  have q0 := hR
  obtain ⟨r1, r2, r3, r4, r5, r6⟩ := q0
  have hN : limI en tp = lhN en tp := lhN_eq h1 r1
  have hN2 : lhN en tp ≤ 3000 := by unfold lhN limI; split <;> omega
  generalize hd : (if en = -1 ∧ cntH V (lhN en tp) = ix then tp else -1) = d
  have q3 := cntH_le V (lhN en tp)
  refine lv_iconst (v := (iI (0))) B.1 B.2.1 dX2_holeStart_0 (by decide) ?_
  refine lv_istore_n (lv' := [(2, .int (iI (0))), (0, .ref a), (1, .int (iI (ix)))]) B.1 B.2.1 dX2_holeStart_1 rfl hl (by decide) rfl (fun ls hl => ?_)
  refine lv_iconst (v := (iI (0))) B.1 B.2.1 dX2_holeStart_2 (by decide) ?_
  refine lv_istore_n (lv' := [(3, .int (iI (0))), (2, .int (iI (0))), (0, .ref a), (1, .int (iI (ix)))]) B.1 B.2.1 dX2_holeStart_3 rfl hl (by decide) rfl (fun ls hl => ?_)
  have hl : lv_has ls 4 [(0, .ref a), (1, .int (iI (ix))), (2, .int (iI (cntH V 0))), (3, .int (iI ((0 : Nat) : Int)))] := lv_sub hl [2, 3, 1, 0] rfl
  refine loopW (n := (lhN en tp)) (P := fun (i : Nat) (H : Heap) (locs : List Loc) (ls : Array Slot) => (hstF V ix d (lhN en tp) 0 = hstF V ix d (lhN en tp - i) i) ∧ lv_has ls 4 [(0, .ref a), (1, .int (iI (ix))), (2, .int (iI (cntH V i))), (3, .int (iI ((i : Nat) : Int)))] ∧ Wd D τ s A s.heap (bl [[(a, .inr (4, [.int (iI (w)), .int (iI (st)), .int (iI (en)), .int (iI (kw)), .int (iI (ov)), .int (iI (ar)), .int (iI (tp)), .ref v]))], [(v, .inl (τ 0, n, .inl (f)))]]) H locs) 0 (Nat.zero_le _) ⟨rfl, lv_sub hl [0, 1, 2, 3] rfl, Y.pick [0, 1] (by decide) rfl⟩ (fun H locs ls hP => ?_) (fun i hlt H locs ls hP ih => ?_)
  · obtain ⟨hh, hl, Y⟩ := hP
    refine lv_iload_n B.1 B.2.1 dX2_holeStart_4 rfl (lv_at hl 3 rfl) ?_
    refine lv_aload_n B.1 B.2.1 dX2_holeStart_5 rfl (lv_at hl 0 rfl) ?_
    refine qI (Cs := [[(a, .inr (4, [.int (iI (w)), .int (iI (st)), .int (iI (en)), .int (iI (kw)), .int (iI (ov)), .int (iI (ar)), .int (iI (tp)), .ref v]))], [(v, .inl (τ 0, n, .inl (f)))]]) (Rs := []) Y [0, 1] [] (by decide) rfl (cV (As := []) (rest := [.int (iI (((lhN en tp) : Nat) : Int))]) (q0 := 0) B Y [0, 1] (by decide) rfl (k_limit l D τ _ a v n w st en kw ov ar tp (f) V hR (by omega) (by omega)) rfl rfl q_1156 q_1158 qp_36 q_12 q_1159 rfl rfl hd_X2_limit ⟨(Nat.le_of_ble_eq_true rfl), (Nat.le_of_ble_eq_true rfl)⟩ rfl hl.1 rfl (Nat.le_of_ble_eq_true rfl) dX2_holeStart_6 ⟨(Nat.le_of_ble_eq_true rfl), (Nat.le_of_ble_eq_true rfl)⟩) (fun r u H locs hw Y => ?_)
    obtain rfl := hw
    have Y : Wd D τ s A s.heap (bl [[(a, .inr (4, [.int (iI (w)), .int (iI (st)), .int (iI (en)), .int (iI (kw)), .int (iI (ov)), .int (iI (ar)), .int (iI (tp)), .ref v]))], [(v, .inl (τ 0, n, .inl (f)))]]) _ _ := Y
    refine lv_icmp_ge (tgt := 36) B.1 B.2.1 dX2_holeStart_9 (by decide) (fun _ => ?_) (fun h => absurd ((iI_le (a := limI en tp) (b := (((lhN en tp) : Nat) : Int)) (by omega) (by omega) (by omega) (by omega)).mpr (by omega)) h) 
    refine lv_aload_n B.1 B.2.1 dX2_holeStart_36 rfl (lv_at hl 0 rfl) ?_
    refine gf_X2_18 B Y 0 rfl rfl dX2_holeStart_37 ?_
    refine lv_iconst (v := (iI (-1))) B.1 B.2.1 dX2_holeStart_40 (by decide) ?_
    refine lv_icmp_ne (tgt := 56) B.1 B.2.1 dX2_holeStart_41 (by decide) (fun c1 => ?_) (fun c1 => ?_)
    · have c1 := mt (iI_eq (a := en) (b := (-1)) (by omega) (by omega) (by omega) (by omega)).mpr c1
      refine lv_iconst (v := (iI (-1))) B.1 B.2.1 dX2_holeStart_56 (by decide) ?_
      have e1 : hstF V ix d (lhN en tp - lhN en tp) (lhN en tp) = d := by rw [Nat.sub_self]; rfl
      exact eI B hr hlk Y () (by congr 1; rw [hh, e1, ← hd]; split <;> first | rfl | (exfalso; omega)) [0, 1] (by decide) rfl (Nat.le_of_ble_eq_true rfl) (Nat.le_of_ble_eq_true rfl) dX2_holeStart_57
    · have c1 := (iI_eq (a := en) (b := (-1)) (by omega) (by omega) (by omega) (by omega)).mp c1
      refine lv_iload_n B.1 B.2.1 dX2_holeStart_44 rfl (lv_at hl 2 rfl) ?_
      refine lv_iload_n B.1 B.2.1 dX2_holeStart_45 rfl (lv_at hl 1 rfl) ?_
      refine lv_icmp_ne (tgt := 56) B.1 B.2.1 dX2_holeStart_46 (by decide) (fun c2 => ?_) (fun c2 => ?_)
      · have c2 := mt (iI_eq (a := cntH V (lhN en tp)) (b := ix) (by omega) (by omega) (by omega) (by omega)).mpr c2
        refine lv_iconst (v := (iI (-1))) B.1 B.2.1 dX2_holeStart_56 (by decide) ?_
        have e1 : hstF V ix d (lhN en tp - lhN en tp) (lhN en tp) = d := by rw [Nat.sub_self]; rfl
        exact eI B hr hlk Y () (by congr 1; rw [hh, e1, ← hd]; split <;> first | rfl | (exfalso; omega)) [0, 1] (by decide) rfl (Nat.le_of_ble_eq_true rfl) (Nat.le_of_ble_eq_true rfl) dX2_holeStart_57
      · have c2 := (iI_eq (a := cntH V (lhN en tp)) (b := ix) (by omega) (by omega) (by omega) (by omega)).mp c2
        refine lv_aload_n B.1 B.2.1 dX2_holeStart_49 rfl (lv_at hl 0 rfl) ?_
        refine gf_X2_30 B Y 0 rfl rfl dX2_holeStart_50 ?_
        refine lv_goto (tgt := 57) B.1 B.2.1 dX2_holeStart_53 (by decide) ?_
        have e1 : hstF V ix d (lhN en tp - lhN en tp) (lhN en tp) = d := by rw [Nat.sub_self]; rfl
        exact eI B hr hlk Y () (by congr 1; rw [hh, e1, ← hd]; split <;> first | rfl | (exfalso; omega)) [0, 1] (by decide) rfl (Nat.le_of_ble_eq_true rfl) (Nat.le_of_ble_eq_true rfl) dX2_holeStart_57
  · obtain ⟨hh, hl, Y⟩ := hP
    have q1 := hsI_01 V ((i : Nat) : Int)
    have q2 := cntH_le V i
    have e2 := hstF_step (V := V) (ix := ix) (d := d) hlt
    refine lv_iload_n B.1 B.2.1 dX2_holeStart_4 rfl (lv_at hl 3 rfl) ?_
    refine lv_aload_n B.1 B.2.1 dX2_holeStart_5 rfl (lv_at hl 0 rfl) ?_
    refine qI (Cs := [[(a, .inr (4, [.int (iI (w)), .int (iI (st)), .int (iI (en)), .int (iI (kw)), .int (iI (ov)), .int (iI (ar)), .int (iI (tp)), .ref v]))], [(v, .inl (τ 0, n, .inl (f)))]]) (Rs := []) Y [0, 1] [] (by decide) rfl (cV (As := []) (rest := [.int (iI ((i : Nat) : Int))]) (q0 := 0) B Y [0, 1] (by decide) rfl (k_limit l D τ _ a v n w st en kw ov ar tp (f) V hR (by omega) (by omega)) rfl rfl q_1156 q_1158 qp_36 q_12 q_1159 rfl rfl hd_X2_limit ⟨(Nat.le_of_ble_eq_true rfl), (Nat.le_of_ble_eq_true rfl)⟩ rfl hl.1 rfl (Nat.le_of_ble_eq_true rfl) dX2_holeStart_6 ⟨(Nat.le_of_ble_eq_true rfl), (Nat.le_of_ble_eq_true rfl)⟩) (fun r u H locs hw Y => ?_)
    obtain rfl := hw
    have Y : Wd D τ s A s.heap (bl [[(a, .inr (4, [.int (iI (w)), .int (iI (st)), .int (iI (en)), .int (iI (kw)), .int (iI (ov)), .int (iI (ar)), .int (iI (tp)), .ref v]))], [(v, .inl (τ 0, n, .inl (f)))]]) _ _ := Y
    refine lv_icmp_ge (tgt := 36) B.1 B.2.1 dX2_holeStart_9 (by decide) (fun h => absurd h (mt (iI_le (a := limI en tp) (b := ((i : Nat) : Int)) (by omega) (by omega) (by omega) (by omega)).mp (by omega))) (fun _ => ?_)
    refine lv_aload_n B.1 B.2.1 dX2_holeStart_12 rfl (lv_at hl 0 rfl) ?_
    refine lv_iload_n B.1 B.2.1 dX2_holeStart_13 rfl (lv_at hl 3 rfl) ?_
    refine qI (Cs := [[(a, .inr (4, [.int (iI (w)), .int (iI (st)), .int (iI (en)), .int (iI (kw)), .int (iI (ov)), .int (iI (ar)), .int (iI (tp)), .ref v]))], [(v, .inl (τ 0, n, .inl (f)))]]) (Rs := []) Y [0, 1] [] (by decide) rfl (cV (As := [.int (iI ((i : Nat) : Int))]) (rest := []) (q0 := 0) B Y [0, 1] (by decide) rfl (k_isHoleStart l D τ _ a v n w st en kw ov ar tp (f) V hR (((i : Nat) : Int)) (by omega) (by omega)) rfl rfl q_1160 q_1162 qp_37 q_12 q_1163 rfl rfl hd_X2_isHoleStart ⟨(Nat.le_of_ble_eq_true rfl), (Nat.le_of_ble_eq_true rfl)⟩ rfl hl.1 rfl (Nat.le_of_ble_eq_true rfl) dX2_holeStart_14 ⟨(Nat.le_of_ble_eq_true rfl), (Nat.le_of_ble_eq_true rfl)⟩) (fun r u H locs hw Y => ?_)
    obtain rfl := hw
    have Y : Wd D τ s A s.heap (bl [[(a, .inr (4, [.int (iI (w)), .int (iI (st)), .int (iI (en)), .int (iI (kw)), .int (iI (ov)), .int (iI (ar)), .int (iI (tp)), .ref v]))], [(v, .inl (τ 0, n, .inl (f)))]]) _ _ := Y
    refine lv_if_eq (tgt := 30) B.1 B.2.1 dX2_holeStart_17 (by decide) (fun c3 => ?_) (fun c3 => ?_)
    · have c3 := (iI_eq0 (a := hsI V (((i : Nat) : Int))) (by omega) (by omega)).mp c3
      refine lv_iinc (v := (iI (((i + 1) : Nat) : Int))) (lv' := [(3, .int (iI (((i + 1) : Nat) : Int))), (0, .ref a), (1, .int (iI (ix))), (2, .int (iI (cntH V i)))]) B.1 B.2.1 dX2_holeStart_30 hl (k := 3) rfl (iI_inc _) (by decide) rfl (fun ls hl => ?_)
      refine lv_goto (tgt := 4) B.1 B.2.1 dX2_holeStart_33 (by decide) ?_
      have e1 : cntH V i = cntH V (i + 1) := by show _ = (cntH V i + hsI V i); omega
      rw [e1] at hl
      exact ih H locs ls ⟨(by rw [hh, e2, if_neg (by omega)]), lv_sub hl [1, 2, 3, 0] rfl, Y.pick [0, 1] (by decide) rfl⟩
    · have c3 := mt (iI_eq0 (a := hsI V (((i : Nat) : Int))) (by omega) (by omega)).mpr c3
      refine lv_iload_n B.1 B.2.1 dX2_holeStart_20 rfl (lv_at hl 2 rfl) ?_
      refine lv_iload_n B.1 B.2.1 dX2_holeStart_21 rfl (lv_at hl 1 rfl) ?_
      refine lv_icmp_ne (tgt := 27) B.1 B.2.1 dX2_holeStart_22 (by decide) (fun c4 => ?_) (fun c4 => ?_)
      · have c4 := mt (iI_eq (a := cntH V i) (b := ix) (by omega) (by omega) (by omega) (by omega)).mpr c4
        refine lv_iinc (v := (iI (cntH V (i + 1)))) (lv' := [(2, .int (iI (cntH V (i + 1)))), (0, .ref a), (1, .int (iI (ix))), (3, .int (iI ((i : Nat) : Int)))]) B.1 B.2.1 dX2_holeStart_27 hl (k := 2) rfl (by show iI _ + iI 1 = _; rw [iI_add]; congr 1; show _ = (cntH V i + hsI V i); omega) (by decide) rfl (fun ls hl => ?_)
        refine lv_iinc (v := (iI (((i + 1) : Nat) : Int))) (lv' := [(3, .int (iI (((i + 1) : Nat) : Int))), (2, .int (iI (cntH V (i + 1)))), (0, .ref a), (1, .int (iI (ix)))]) B.1 B.2.1 dX2_holeStart_30 hl (k := 3) rfl (iI_inc _) (by decide) rfl (fun ls hl => ?_)
        refine lv_goto (tgt := 4) B.1 B.2.1 dX2_holeStart_33 (by decide) ?_
        exact ih H locs ls ⟨(by rw [hh, e2, if_neg (by omega)]), lv_sub hl [2, 3, 1, 0] rfl, Y.pick [0, 1] (by decide) rfl⟩
      · have c4 := (iI_eq (a := cntH V i) (b := ix) (by omega) (by omega) (by omega) (by omega)).mp c4
        refine lv_iload_n B.1 B.2.1 dX2_holeStart_25 rfl (lv_at hl 3 rfl) ?_
        exact eI B hr hlk Y () (by congr 1; rw [hh, e2, if_pos (by omega)]) [0, 1] (by decide) rfl (Nat.le_of_ble_eq_true rfl) (Nat.le_of_ble_eq_true rfl) dX2_holeStart_26

set_option maxHeartbeats 4000000 in
set_option maxRecDepth 100000 in
theorem k_holeEnd (l : Launch) (D : va_G) (τ : Nat → ClassId) (sz : Nat) (a v n : Nat) (w st en kw ov ar tp : Int) (f : Nat → Int32) (V : Int → Int) (hR : HpRep tp n f V) (h1 : -1 ≤ en) (h2 : en ≤ 3000) (fr : Nat) (h3 : fr ≤ 3000) : Met l yX2_holeEnd (Cond.code yX2_holeEnd cX2_holeEnd 3 (some .int) :: wALL) { frames := 2, cells := 0, slots := 0, locals := 42 } (Pw D τ (bl [[(a, .inr (4, [.int (iI (w)), .int (iI (st)), .int (iI (en)), .int (iI (kw)), .int (iI (ov)), .int (iI (ar)), .int (iI (tp)), .ref v]))], [(v, .inl (τ 0, n, .inl (f)))]]) sz [.ref a, .int (iI ((fr : Nat) : Int))]) (va_Qi (fun (r : Int32) (_ : Unit) => r = iI (if lhN en tp ≤ fr then -1 else heF V (lhN en tp - fr) fr)) (Bb D (va_A (bl [[(a, .inr (4, [.int (iI (w)), .int (iI (st)), .int (iI (en)), .int (iI (kw)), .int (iI (ov)), .int (iI (ar)), .int (iI (tp)), .ref v]))], [(v, .inl (τ 0, n, .inl (f)))]]) sz) (fun (_ : Unit) => [[(a, .inr (4, [.int (iI (w)), .int (iI (st)), .int (iI (en)), .int (iI (kw)), .int (iI (ov)), .int (iI (ar)), .int (iI (tp)), .ref v]))], [(v, .inl (τ 0, n, .inl (f)))]])) (va_A (bl [[(a, .inr (4, [.int (iI (w)), .int (iI (st)), .int (iI (en)), .int (iI (kw)), .int (iI (ov)), .int (iI (ar)), .int (iI (tp)), .ref v]))], [(v, .inl (τ 0, n, .inl (f)))]]) sz)) 0 0 (va_A (bl [[(a, .inr (4, [.int (iI (w)), .int (iI (st)), .int (iI (en)), .int (iI (kw)), .int (iI (ov)), .int (iI (ar)), .int (iI (tp)), .ref v]))], [(v, .inl (τ 0, n, .inl (f)))]]) sz) := by
  refine bodyW (by decide) (Nat.le_of_ble_eq_true rfl) (fun p e s m below meth c ls B hr hlk hin hsz Y hl => ?_)
  have hl : lv_has ls 3 [(0, .ref a), (1, .int (iI ((fr : Nat) : Int)))] := hl
  have B : CallFix p m c cX2_holeEnd 3 s _ wALL RX2 := B
  generalize va_A (bl [[(a, .inr (4, [.int (iI (w)), .int (iI (st)), .int (iI (en)), .int (iI (kw)), .int (iI (ov)), .int (iI (ar)), .int (iI (tp)), .ref v]))], [(v, .inl (τ 0, n, .inl (f)))]]) sz = A at Y ⊢
  have q0 := hR
  obtain ⟨r1, r2, r3, r4, r5, r6⟩ := q0
  have hN : limI en tp = lhN en tp := lhN_eq h1 r1
  have hN2 : lhN en tp ≤ 3000 := by unfold lhN limI; split <;> omega
  refine lv_iload_n B.1 B.2.1 dX2_holeEnd_0 rfl (lv_at hl 1 rfl) ?_
  refine lv_aload_n B.1 B.2.1 dX2_holeEnd_1 rfl (lv_at hl 0 rfl) ?_
  refine qI (Cs := [[(a, .inr (4, [.int (iI (w)), .int (iI (st)), .int (iI (en)), .int (iI (kw)), .int (iI (ov)), .int (iI (ar)), .int (iI (tp)), .ref v]))], [(v, .inl (τ 0, n, .inl (f)))]]) (Rs := []) Y [0, 1] [] (by decide) rfl (cV (As := []) (rest := [.int (iI ((fr : Nat) : Int))]) (q0 := 0) B Y [0, 1] (by decide) rfl (k_limit l D τ _ a v n w st en kw ov ar tp (f) V hR (by omega) (by omega)) rfl rfl q_1156 q_1158 qp_36 q_12 q_1159 rfl rfl hd_X2_limit ⟨(Nat.le_of_ble_eq_true rfl), (Nat.le_of_ble_eq_true rfl)⟩ rfl hl.1 rfl (Nat.le_of_ble_eq_true rfl) dX2_holeEnd_2 ⟨(Nat.le_of_ble_eq_true rfl), (Nat.le_of_ble_eq_true rfl)⟩) (fun r u H locs hw Y => ?_)
  obtain rfl := hw
  have Y : Wd D τ s A s.heap (bl [[(a, .inr (4, [.int (iI (w)), .int (iI (st)), .int (iI (en)), .int (iI (kw)), .int (iI (ov)), .int (iI (ar)), .int (iI (tp)), .ref v]))], [(v, .inl (τ 0, n, .inl (f)))]]) _ _ := Y
  refine lv_icmp_lt (tgt := 10) B.1 B.2.1 dX2_holeEnd_5 (by decide) (fun c1 => ?_) (fun c1 => ?_)
  · have c1 := (iI_lt (a := ((fr : Nat) : Int)) (b := limI en tp) (by omega) (by omega) (by omega) (by omega)).mp c1
    refine lv_iload_n B.1 B.2.1 dX2_holeEnd_10 rfl (lv_at hl 1 rfl) ?_
    refine lv_istore_n (lv' := [(2, .int (iI ((fr : Nat) : Int))), (0, .ref a), (1, .int (iI ((fr : Nat) : Int)))]) B.1 B.2.1 dX2_holeEnd_11 rfl hl (by decide) rfl (fun ls hl => ?_)
    have hl : lv_has ls 3 [(0, .ref a), (1, .int (iI ((fr : Nat) : Int))), (2, .int (iI ((fr : Nat) : Int)))] := lv_sub hl [1, 2, 0] rfl
    refine loopW (n := (lhN en tp)) (P := fun (i : Nat) (H : Heap) (locs : List Loc) (ls : Array Slot) => (fr ≤ i) ∧ (heF V (lhN en tp - fr) fr = heF V (lhN en tp - i) i) ∧ lv_has ls 3 [(0, .ref a), (1, .int (iI ((fr : Nat) : Int))), (2, .int (iI ((i : Nat) : Int)))] ∧ Wd D τ s A s.heap (bl [[(a, .inr (4, [.int (iI (w)), .int (iI (st)), .int (iI (en)), .int (iI (kw)), .int (iI (ov)), .int (iI (ar)), .int (iI (tp)), .ref v]))], [(v, .inl (τ 0, n, .inl (f)))]]) H locs) fr (by omega) ⟨(Nat.le_refl _), rfl, lv_sub hl [0, 1, 2] rfl, Y.pick [0, 1] (by decide) rfl⟩ (fun H locs ls hP => ?_) (fun i hlt H locs ls hP ih => ?_)
    · obtain ⟨hg, hh, hl, Y⟩ := hP
      refine lv_iload_n B.1 B.2.1 dX2_holeEnd_12 rfl (lv_at hl 2 rfl) ?_
      refine lv_aload_n B.1 B.2.1 dX2_holeEnd_13 rfl (lv_at hl 0 rfl) ?_
      refine qI (Cs := [[(a, .inr (4, [.int (iI (w)), .int (iI (st)), .int (iI (en)), .int (iI (kw)), .int (iI (ov)), .int (iI (ar)), .int (iI (tp)), .ref v]))], [(v, .inl (τ 0, n, .inl (f)))]]) (Rs := []) Y [0, 1] [] (by decide) rfl (cV (As := []) (rest := [.int (iI (((lhN en tp) : Nat) : Int))]) (q0 := 0) B Y [0, 1] (by decide) rfl (k_limit l D τ _ a v n w st en kw ov ar tp (f) V hR (by omega) (by omega)) rfl rfl q_1156 q_1158 qp_36 q_12 q_1159 rfl rfl hd_X2_limit ⟨(Nat.le_of_ble_eq_true rfl), (Nat.le_of_ble_eq_true rfl)⟩ rfl hl.1 rfl (Nat.le_of_ble_eq_true rfl) dX2_holeEnd_14 ⟨(Nat.le_of_ble_eq_true rfl), (Nat.le_of_ble_eq_true rfl)⟩) (fun r u H locs hw Y => ?_)
      obtain rfl := hw
      have Y : Wd D τ s A s.heap (bl [[(a, .inr (4, [.int (iI (w)), .int (iI (st)), .int (iI (en)), .int (iI (kw)), .int (iI (ov)), .int (iI (ar)), .int (iI (tp)), .ref v]))], [(v, .inl (τ 0, n, .inl (f)))]]) _ _ := Y
      refine lv_icmp_ge (tgt := 34) B.1 B.2.1 dX2_holeEnd_17 (by decide) (fun _ => ?_) (fun h => absurd ((iI_le (a := limI en tp) (b := (((lhN en tp) : Nat) : Int)) (by omega) (by omega) (by omega) (by omega)).mpr (by omega)) h) 
      refine lv_iload_n B.1 B.2.1 dX2_holeEnd_34 rfl (lv_at hl 2 rfl) ?_
      exact eI B hr hlk Y () (by rw [if_neg (by omega), hh, Nat.sub_self]; rfl) [0, 1] (by decide) rfl (Nat.le_of_ble_eq_true rfl) (Nat.le_of_ble_eq_true rfl) dX2_holeEnd_35
    · obtain ⟨hg, hh, hl, Y⟩ := hP
      have q1 := knI_01 V ((i : Nat) : Int)
      have e2 := heF_step (V := V) hlt
      refine lv_iload_n B.1 B.2.1 dX2_holeEnd_12 rfl (lv_at hl 2 rfl) ?_
      refine lv_aload_n B.1 B.2.1 dX2_holeEnd_13 rfl (lv_at hl 0 rfl) ?_
      refine qI (Cs := [[(a, .inr (4, [.int (iI (w)), .int (iI (st)), .int (iI (en)), .int (iI (kw)), .int (iI (ov)), .int (iI (ar)), .int (iI (tp)), .ref v]))], [(v, .inl (τ 0, n, .inl (f)))]]) (Rs := []) Y [0, 1] [] (by decide) rfl (cV (As := []) (rest := [.int (iI ((i : Nat) : Int))]) (q0 := 0) B Y [0, 1] (by decide) rfl (k_limit l D τ _ a v n w st en kw ov ar tp (f) V hR (by omega) (by omega)) rfl rfl q_1156 q_1158 qp_36 q_12 q_1159 rfl rfl hd_X2_limit ⟨(Nat.le_of_ble_eq_true rfl), (Nat.le_of_ble_eq_true rfl)⟩ rfl hl.1 rfl (Nat.le_of_ble_eq_true rfl) dX2_holeEnd_14 ⟨(Nat.le_of_ble_eq_true rfl), (Nat.le_of_ble_eq_true rfl)⟩) (fun r u H locs hw Y => ?_)
      obtain rfl := hw
      have Y : Wd D τ s A s.heap (bl [[(a, .inr (4, [.int (iI (w)), .int (iI (st)), .int (iI (en)), .int (iI (kw)), .int (iI (ov)), .int (iI (ar)), .int (iI (tp)), .ref v]))], [(v, .inl (τ 0, n, .inl (f)))]]) _ _ := Y
      refine lv_icmp_ge (tgt := 34) B.1 B.2.1 dX2_holeEnd_17 (by decide) (fun h => absurd h (mt (iI_le (a := limI en tp) (b := ((i : Nat) : Int)) (by omega) (by omega) (by omega) (by omega)).mp (by omega))) (fun _ => ?_)
      refine lv_aload_n B.1 B.2.1 dX2_holeEnd_20 rfl (lv_at hl 0 rfl) ?_
      refine lv_iload_n B.1 B.2.1 dX2_holeEnd_21 rfl (lv_at hl 2 rfl) ?_
      refine qI (Cs := [[(a, .inr (4, [.int (iI (w)), .int (iI (st)), .int (iI (en)), .int (iI (kw)), .int (iI (ov)), .int (iI (ar)), .int (iI (tp)), .ref v]))], [(v, .inl (τ 0, n, .inl (f)))]]) (Rs := []) Y [0, 1] [] (by decide) rfl (cV (As := [.int (iI ((i : Nat) : Int))]) (rest := []) (q0 := 0) B Y [0, 1] (by decide) rfl (k_isKnown l D τ _ a v n w st en kw ov ar tp (f) V hR (((i : Nat) : Int)) (by omega) (by omega)) rfl rfl q_1164 q_1165 q_1166 q_12 q_1167 rfl rfl hd_X2_isKnown ⟨(Nat.le_of_ble_eq_true rfl), (Nat.le_of_ble_eq_true rfl)⟩ rfl hl.1 rfl (Nat.le_of_ble_eq_true rfl) dX2_holeEnd_22 ⟨(Nat.le_of_ble_eq_true rfl), (Nat.le_of_ble_eq_true rfl)⟩) (fun r u H locs hw Y => ?_)
      obtain rfl := hw
      have Y : Wd D τ s A s.heap (bl [[(a, .inr (4, [.int (iI (w)), .int (iI (st)), .int (iI (en)), .int (iI (kw)), .int (iI (ov)), .int (iI (ar)), .int (iI (tp)), .ref v]))], [(v, .inl (τ 0, n, .inl (f)))]]) _ _ := Y
      refine lv_if_ne (tgt := 34) B.1 B.2.1 dX2_holeEnd_25 (by decide) (fun c2 => ?_) (fun c2 => ?_)
      · have c2 := mt (iI_eq0 (a := knI V (((i : Nat) : Int))) (by omega) (by omega)).mpr c2
        refine lv_iload_n B.1 B.2.1 dX2_holeEnd_34 rfl (lv_at hl 2 rfl) ?_
        exact eI B hr hlk Y () (by rw [if_neg (by omega), hh, e2, if_neg (by omega)]) [0, 1] (by decide) rfl (Nat.le_of_ble_eq_true rfl) (Nat.le_of_ble_eq_true rfl) dX2_holeEnd_35
      · have c2 := (iI_eq0 (a := knI V (((i : Nat) : Int))) (by omega) (by omega)).mp c2
        refine lv_iinc (v := (iI (((i + 1) : Nat) : Int))) (lv' := [(2, .int (iI (((i + 1) : Nat) : Int))), (0, .ref a), (1, .int (iI ((fr : Nat) : Int)))]) B.1 B.2.1 dX2_holeEnd_28 hl (k := 2) rfl (iI_inc _) (by decide) rfl (fun ls hl => ?_)
        refine lv_goto (tgt := 12) B.1 B.2.1 dX2_holeEnd_31 (by decide) ?_
        exact ih H locs ls ⟨(by omega), (by rw [hh, e2, if_pos (by omega)]), lv_sub hl [1, 2, 0] rfl, Y.pick [0, 1] (by decide) rfl⟩
  · have c1 := mt (iI_lt (a := ((fr : Nat) : Int)) (b := limI en tp) (by omega) (by omega) (by omega) (by omega)).mpr c1
    refine lv_iconst (v := (iI (-1))) B.1 B.2.1 dX2_holeEnd_8 (by decide) ?_
    exact eI B hr hlk Y () (by rw [if_pos (by omega)]) [0, 1] (by decide) rfl (Nat.le_of_ble_eq_true rfl) (Nat.le_of_ble_eq_true rfl) dX2_holeEnd_9

set_option maxHeartbeats 4000000 in
set_option maxRecDepth 100000 in
theorem k_missingFrom (l : Launch) (D : va_G) (τ : Nat → ClassId) (sz : Nat) (a v n : Nat) (w st en kw ov ar tp : Int) (f : Nat → Int32) (V : Int → Int) (hR : HpRep tp n f V) (h1 : -1 ≤ en) (h2 : en ≤ 3000) (of la : Int) (h3 : 0 ≤ of) (h4 : of ≤ 3000) (h5 : 0 ≤ la) (h6 : la ≤ 3000) : Met l yX2_missingFrom (Cond.code yX2_missingFrom cX2_missingFrom 5 (some .int) :: wALL) { frames := 2, cells := 0, slots := 0, locals := 42 } (Pw D τ (bl [[(a, .inr (4, [.int (iI (w)), .int (iI (st)), .int (iI (en)), .int (iI (kw)), .int (iI (ov)), .int (iI (ar)), .int (iI (tp)), .ref v]))], [(v, .inl (τ 0, n, .inl (f)))]]) sz [.ref a, .int (iI (of)), .int (iI (la))]) (va_Qi (fun (r : Int32) (_ : Unit) => r = iI (if en = -1 then -1 else missI V of la en.toNat)) (Bb D (va_A (bl [[(a, .inr (4, [.int (iI (w)), .int (iI (st)), .int (iI (en)), .int (iI (kw)), .int (iI (ov)), .int (iI (ar)), .int (iI (tp)), .ref v]))], [(v, .inl (τ 0, n, .inl (f)))]]) sz) (fun (_ : Unit) => [[(a, .inr (4, [.int (iI (w)), .int (iI (st)), .int (iI (en)), .int (iI (kw)), .int (iI (ov)), .int (iI (ar)), .int (iI (tp)), .ref v]))], [(v, .inl (τ 0, n, .inl (f)))]])) (va_A (bl [[(a, .inr (4, [.int (iI (w)), .int (iI (st)), .int (iI (en)), .int (iI (kw)), .int (iI (ov)), .int (iI (ar)), .int (iI (tp)), .ref v]))], [(v, .inl (τ 0, n, .inl (f)))]]) sz)) 0 0 (va_A (bl [[(a, .inr (4, [.int (iI (w)), .int (iI (st)), .int (iI (en)), .int (iI (kw)), .int (iI (ov)), .int (iI (ar)), .int (iI (tp)), .ref v]))], [(v, .inl (τ 0, n, .inl (f)))]]) sz) := by
  refine bodyW (by decide) (Nat.le_of_ble_eq_true rfl) (fun p e s m below meth c ls B hr hlk hin hsz Y hl => ?_)
  have hl : lv_has ls 5 [(0, .ref a), (1, .int (iI (of))), (2, .int (iI (la)))] := hl
  have B : CallFix p m c cX2_missingFrom 5 s _ wALL RX2 := B
  generalize va_A (bl [[(a, .inr (4, [.int (iI (w)), .int (iI (st)), .int (iI (en)), .int (iI (kw)), .int (iI (ov)), .int (iI (ar)), .int (iI (tp)), .ref v]))], [(v, .inl (τ 0, n, .inl (f)))]]) sz = A at Y ⊢
  have q0 := hR
  obtain ⟨r1, r2, r3, r4, r5, r6⟩ := q0
  have hN : limI en tp = lhN en tp := lhN_eq h1 r1
  have hN2 : lhN en tp ≤ 3000 := by unfold lhN limI; split <;> omega
  refine lv_aload_n B.1 B.2.1 dX2_missingFrom_0 rfl (lv_at hl 0 rfl) ?_
  refine gf_X2_18 B Y 0 rfl rfl dX2_missingFrom_1 ?_
  refine lv_iconst (v := (iI (-1))) B.1 B.2.1 dX2_missingFrom_4 (by decide) ?_
  refine lv_icmp_ne (tgt := 10) B.1 B.2.1 dX2_missingFrom_5 (by decide) (fun c1 => ?_) (fun c1 => ?_)
  · have c1 := mt (iI_eq (a := en) (b := (-1)) (by omega) (by omega) (by omega) (by omega)).mpr c1
    refine lv_iconst (v := (iI (0))) B.1 B.2.1 dX2_missingFrom_10 (by decide) ?_
    refine lv_istore_n (lv' := [(3, .int (iI (0))), (0, .ref a), (1, .int (iI (of))), (2, .int (iI (la)))]) B.1 B.2.1 dX2_missingFrom_11 rfl hl (by decide) rfl (fun ls hl => ?_)
    refine lv_iconst (v := (iI (0))) B.1 B.2.1 dX2_missingFrom_12 (by decide) ?_
    refine lv_istore (lv' := [(4, .int (iI (0))), (3, .int (iI (0))), (0, .ref a), (1, .int (iI (of))), (2, .int (iI (la)))]) B.1 B.2.1 dX2_missingFrom_13 hl (by decide) rfl (fun ls hl => ?_)
    obtain ⟨N, hN⟩ : ∃ N : Nat, en = N := ⟨en.toNat, by omega⟩
    have hl : lv_has ls 5 [(0, .ref a), (1, .int (iI (of))), (2, .int (iI (la))), (3, .int (iI (missI V of la 0))), (4, .int (iI ((0 : Nat) : Int)))] := lv_sub hl [2, 3, 4, 1, 0] rfl
    have q3 := missI_le V of la N
    refine loopW (n := N) (P := fun (i : Nat) (H : Heap) (locs : List Loc) (ls : Array Slot) => lv_has ls 5 [(0, .ref a), (1, .int (iI (of))), (2, .int (iI (la))), (3, .int (iI (missI V of la i))), (4, .int (iI ((i : Nat) : Int)))] ∧ Wd D τ s A s.heap (bl [[(a, .inr (4, [.int (iI (w)), .int (iI (st)), .int (iI (en)), .int (iI (kw)), .int (iI (ov)), .int (iI (ar)), .int (iI (tp)), .ref v]))], [(v, .inl (τ 0, n, .inl (f)))]]) H locs) 0 (Nat.zero_le _) ⟨lv_sub hl [0, 1, 2, 3, 4] rfl, Y.pick [0, 1] (by decide) rfl⟩ (fun H locs ls hP => ?_) (fun i hlt H locs ls hP ih => ?_)
    · obtain ⟨hl, Y⟩ := hP
      refine lv_iload B.1 B.2.1 dX2_missingFrom_15 (lv_at hl 4 rfl) ?_
      refine lv_aload_n B.1 B.2.1 dX2_missingFrom_17 rfl (lv_at hl 0 rfl) ?_
      refine gf_X2_18 B Y 0 rfl rfl dX2_missingFrom_18 ?_
      refine lv_icmp_ge (tgt := 54) B.1 B.2.1 dX2_missingFrom_21 (by decide) (fun _ => ?_) (fun h => absurd ((iI_le (a := en) (b := ((N : Nat) : Int)) (by omega) (by omega) (by omega) (by omega)).mpr (by omega)) h) 
      refine lv_iload_n B.1 B.2.1 dX2_missingFrom_54 rfl (lv_at hl 3 rfl) ?_
      exact eI B hr hlk Y () (by rw [if_neg (by omega), show en.toNat = N from by omega]) [0, 1] (by decide) rfl (Nat.le_of_ble_eq_true rfl) (Nat.le_of_ble_eq_true rfl) dX2_missingFrom_55
    · obtain ⟨hl, Y⟩ := hP
      have q1 := knI_01 V ((i : Nat) : Int)
      have q2 := missI_le V of la i
      have q4 := knI_0 (V := V) (z := ((i : Nat) : Int))
      refine lv_iload B.1 B.2.1 dX2_missingFrom_15 (lv_at hl 4 rfl) ?_
      refine lv_aload_n B.1 B.2.1 dX2_missingFrom_17 rfl (lv_at hl 0 rfl) ?_
      refine gf_X2_18 B Y 0 rfl rfl dX2_missingFrom_18 ?_
      refine lv_icmp_ge (tgt := 54) B.1 B.2.1 dX2_missingFrom_21 (by decide) (fun h => absurd h (mt (iI_le (a := en) (b := ((i : Nat) : Int)) (by omega) (by omega) (by omega) (by omega)).mp (by omega))) (fun _ => ?_)
      refine lv_aload_n B.1 B.2.1 dX2_missingFrom_24 rfl (lv_at hl 0 rfl) ?_
      refine lv_iload B.1 B.2.1 dX2_missingFrom_25 (lv_at hl 4 rfl) ?_
      refine qI (Cs := [[(a, .inr (4, [.int (iI (w)), .int (iI (st)), .int (iI (en)), .int (iI (kw)), .int (iI (ov)), .int (iI (ar)), .int (iI (tp)), .ref v]))], [(v, .inl (τ 0, n, .inl (f)))]]) (Rs := []) Y [0, 1] [] (by decide) rfl (cV (As := [.int (iI ((i : Nat) : Int))]) (rest := []) (q0 := 0) B Y [0, 1] (by decide) rfl (k_isKnown l D τ _ a v n w st en kw ov ar tp (f) V hR (((i : Nat) : Int)) (by omega) (by omega)) rfl rfl q_1164 q_1165 q_1166 q_12 q_1167 rfl rfl hd_X2_isKnown ⟨(Nat.le_of_ble_eq_true rfl), (Nat.le_of_ble_eq_true rfl)⟩ rfl hl.1 rfl (Nat.le_of_ble_eq_true rfl) dX2_missingFrom_27 ⟨(Nat.le_of_ble_eq_true rfl), (Nat.le_of_ble_eq_true rfl)⟩) (fun r u H locs hw Y => ?_)
      obtain rfl := hw
      have Y : Wd D τ s A s.heap (bl [[(a, .inr (4, [.int (iI (w)), .int (iI (st)), .int (iI (en)), .int (iI (kw)), .int (iI (ov)), .int (iI (ar)), .int (iI (tp)), .ref v]))], [(v, .inl (τ 0, n, .inl (f)))]]) _ _ := Y
      refine lv_if_ne (tgt := 48) B.1 B.2.1 dX2_missingFrom_30 (by decide) (fun c2 => ?_) (fun c2 => ?_)
      · have c2 := mt (iI_eq0 (a := knI V (((i : Nat) : Int))) (by omega) (by omega)).mpr c2
        refine lv_iinc (v := (iI (((i + 1) : Nat) : Int))) (lv' := [(4, .int (iI (((i + 1) : Nat) : Int))), (0, .ref a), (1, .int (iI (of))), (2, .int (iI (la))), (3, .int (iI (missI V of la i)))]) B.1 B.2.1 dX2_missingFrom_48 hl (k := 4) rfl (iI_inc _) (by decide) rfl (fun ls hl => ?_)
        refine lv_goto (tgt := 15) B.1 B.2.1 dX2_missingFrom_51 (by decide) ?_
        have e1 : missI V of la i = missI V of la (i + 1) := by show _ = missI V of la i + _; rw [if_neg (by omega)]; omega
        rw [e1] at hl
        exact ih H locs ls ⟨lv_sub hl [1, 2, 3, 4, 0] rfl, Y.pick [0, 1] (by decide) rfl⟩
      · have c2 := (iI_eq0 (a := knI V (((i : Nat) : Int))) (by omega) (by omega)).mp c2
        refine lv_iload B.1 B.2.1 dX2_missingFrom_33 (lv_at hl 4 rfl) ?_
        refine lv_iload_n B.1 B.2.1 dX2_missingFrom_35 rfl (lv_at hl 1 rfl) ?_
        refine lv_icmp_lt (tgt := 45) B.1 B.2.1 dX2_missingFrom_36 (by decide) (fun c3 => ?_) (fun c3 => ?_)
        · have c3 := (iI_lt (a := ((i : Nat) : Int)) (b := of) (by omega) (by omega) (by omega) (by omega)).mp c3
          refine lv_iinc (v := (iI (missI V of la (i + 1)))) (lv' := [(3, .int (iI (missI V of la (i + 1)))), (0, .ref a), (1, .int (iI (of))), (2, .int (iI (la))), (4, .int (iI ((i : Nat) : Int)))]) B.1 B.2.1 dX2_missingFrom_45 hl (k := 3) rfl (by show iI _ + iI 1 = _; rw [iI_add]; congr 1; show _ = missI V of la i + _; rw [if_pos (by omega)]) (by decide) rfl (fun ls hl => ?_)
          refine lv_iinc (v := (iI (((i + 1) : Nat) : Int))) (lv' := [(4, .int (iI (((i + 1) : Nat) : Int))), (3, .int (iI (missI V of la (i + 1)))), (0, .ref a), (1, .int (iI (of))), (2, .int (iI (la)))]) B.1 B.2.1 dX2_missingFrom_48 hl (k := 4) rfl (iI_inc _) (by decide) rfl (fun ls hl => ?_)
          refine lv_goto (tgt := 15) B.1 B.2.1 dX2_missingFrom_51 (by decide) ?_
          exact ih H locs ls ⟨lv_sub hl [2, 3, 4, 1, 0] rfl, Y.pick [0, 1] (by decide) rfl⟩
        · have c3 := mt (iI_lt (a := ((i : Nat) : Int)) (b := of) (by omega) (by omega) (by omega) (by omega)).mpr c3
          refine lv_iload B.1 B.2.1 dX2_missingFrom_39 (lv_at hl 4 rfl) ?_
          refine lv_iload_n B.1 B.2.1 dX2_missingFrom_41 rfl (lv_at hl 2 rfl) ?_
          refine lv_icmp_lt (tgt := 48) B.1 B.2.1 dX2_missingFrom_42 (by decide) (fun c4 => ?_) (fun c4 => ?_)
          · have c4 := (iI_lt (a := ((i : Nat) : Int)) (b := la) (by omega) (by omega) (by omega) (by omega)).mp c4
            refine lv_iinc (v := (iI (((i + 1) : Nat) : Int))) (lv' := [(4, .int (iI (((i + 1) : Nat) : Int))), (0, .ref a), (1, .int (iI (of))), (2, .int (iI (la))), (3, .int (iI (missI V of la i)))]) B.1 B.2.1 dX2_missingFrom_48 hl (k := 4) rfl (iI_inc _) (by decide) rfl (fun ls hl => ?_)
            refine lv_goto (tgt := 15) B.1 B.2.1 dX2_missingFrom_51 (by decide) ?_
            have e1 : missI V of la i = missI V of la (i + 1) := by show _ = missI V of la i + _; rw [if_neg (by omega)]; omega
            rw [e1] at hl
            exact ih H locs ls ⟨lv_sub hl [1, 2, 3, 4, 0] rfl, Y.pick [0, 1] (by decide) rfl⟩
          · have c4 := mt (iI_lt (a := ((i : Nat) : Int)) (b := la) (by omega) (by omega) (by omega) (by omega)).mpr c4
            refine lv_iinc (v := (iI (missI V of la (i + 1)))) (lv' := [(3, .int (iI (missI V of la (i + 1)))), (0, .ref a), (1, .int (iI (of))), (2, .int (iI (la))), (4, .int (iI ((i : Nat) : Int)))]) B.1 B.2.1 dX2_missingFrom_45 hl (k := 3) rfl (by show iI _ + iI 1 = _; rw [iI_add]; congr 1; show _ = missI V of la i + _; rw [if_pos (by omega)]) (by decide) rfl (fun ls hl => ?_)
            refine lv_iinc (v := (iI (((i + 1) : Nat) : Int))) (lv' := [(4, .int (iI (((i + 1) : Nat) : Int))), (3, .int (iI (missI V of la (i + 1)))), (0, .ref a), (1, .int (iI (of))), (2, .int (iI (la)))]) B.1 B.2.1 dX2_missingFrom_48 hl (k := 4) rfl (iI_inc _) (by decide) rfl (fun ls hl => ?_)
            refine lv_goto (tgt := 15) B.1 B.2.1 dX2_missingFrom_51 (by decide) ?_
            exact ih H locs ls ⟨lv_sub hl [2, 3, 4, 1, 0] rfl, Y.pick [0, 1] (by decide) rfl⟩
  · have c1 := (iI_eq (a := en) (b := (-1)) (by omega) (by omega) (by omega) (by omega)).mp c1
    refine lv_iconst (v := (iI (-1))) B.1 B.2.1 dX2_missingFrom_8 (by decide) ?_
    exact eI B hr hlk Y () (by rw [if_pos (by omega)]) [0, 1] (by decide) rfl (Nat.le_of_ble_eq_true rfl) (Nat.le_of_ble_eq_true rfl) dX2_missingFrom_9

