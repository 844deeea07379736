theorem putN_full {L : List Nte} {x : Nte} (h : ¬ L.length < 2100) : putN L x = L := if_neg h
theorem putN_len {L : List Nte} {x : Nte} (h : L.length < 2100) : (putN L x).length = L.length + 1 := by unfold putN; rw [if_pos h, List.length_append]; rfl
theorem ntX_up {G Z : Nat → Nat → Int} {q j : Nat} {a b c : Int} (h : j ≠ q) (h0 : Z 0 = upz (G 0) q a) (h1 : Z 1 = upz (G 1) q b) (h2 : Z 2 = upz (G 2) q c) : ntX Z j = ntX G j := by
  unfold ntX; rw [h0, h1, h2, upz_ne _ _ h, upz_ne _ _ h, upz_ne _ _ h]
theorem ntX_at {G Z : Nat → Nat → Int} {q : Nat} {a b c : Int} (h0 : Z 0 = upz (G 0) q a) (h1 : Z 1 = upz (G 1) q b) (h2 : Z 2 = upz (G 2) q c) : ntX Z q = (a, b, c) := by
  unfold ntX; rw [h0, h1, h2, upz_k, upz_k, upz_k]
theorem ntX_cp {G Z : Nat → Nat → Int} {g : Nat → Nat → Int} {n j : Nat} (h : j < n) (h0 : Z 0 = cpz (G 0) (g 0) n) (h1 : Z 1 = cpz (G 1) (g 1) n) (h2 : Z 2 = cpz (G 2) (g 2) n) : ntX Z j = ntX G j := by
  unfold ntX cpz at *; rw [h0, h1, h2]; simp only [if_pos h]
set_option maxHeartbeats 4000000 in
set_option maxRecDepth 100000 in
theorem k_X4_put (l : Launch) (D : va_G) (τ : Nat → ClassId) (sz T0 KC KS : Nat) (nk : Nat) (na : Nat → Nat) (cap : Nat) (G : Nat → Nat → Int) (ct so : Int) (L : List Nte) (hR : NtRep G ct so L) (hK : CapOk cap) (hc : L.length ≤ cap) (hI : NtIn L) (tm zv ab : Int) (h1 : 0 ≤ tm ∧ tm < 1000000) : Met l yX4_put (Cond.code yX4_put cX4_put 4 none :: wALL) { frames := 3, cells := KC - sz, slots := KS - T0, locals := 103 } (Pz D τ (bl [(ntB τ nk na cap G ct so)]) sz T0 [.ref nk, .int (iI (tm)), .int (iI (zv)), .int (iI (ab))] KC KS (4096 - cap) (6 * (4096 - cap))) (va_Qv (fun (u : ((Nat → Nat) × Nat × (Nat → Nat → Int) × Int × Int)) => NtRep u.2.2.1 u.2.2.2.1 u.2.2.2.2 (putN L (tm, zv, ab)) ∧ CapOk u.2.1 ∧ (putN L (tm, zv, ab)).length ≤ u.2.1) (Bz D (va_A (bl [(ntB τ nk na cap G ct so)]) sz) (fun (u : ((Nat → Nat) × Nat × (Nat → Nat → Int) × Int × Int)) => [(ntB τ nk u.1 u.2.1 u.2.2.1 u.2.2.2.1 u.2.2.2.2)]) KC KS (fun (u : ((Nat → Nat) × Nat × (Nat → Nat → Int) × Int × Int)) => 4096 - u.2.1) (fun (u : ((Nat → Nat) × Nat × (Nat → Nat → Int) × Int × Int)) => 6 * (4096 - u.2.1))) (va_A (bl [(ntB τ nk na cap G ct so)]) sz)) (KC - sz) (KS - T0) (va_A (bl [(ntB τ nk na cap G ct so)]) sz) := by
  refine bodyZ (by decide) (Nat.le_of_ble_eq_true rfl) (fun p e s m below meth c ls B hr hlk hin hsz hT0 hz1 hz2 Y hl => ?_)
  have hl : lv_has ls 4 [(0, .ref nk), (1, .int (iI (tm))), (2, .int (iI (zv))), (3, .int (iI (ab)))] := hl
  have B : CallFix p m c cX4_put 4 s _ wALL RX4 := B
  generalize va_A (bl [(ntB τ nk na cap G ct so)]) sz = A at Y ⊢
  have hk1 := hK.le
  have hso := soonL_in hI
  have q0 := hR
  obtain ⟨g1, g2, g3, g4⟩ := q0
  obtain ⟨q, hq⟩ : ∃ q : Nat, ct = q := ⟨L.length, g1⟩
  subst hq
  have Y : Wd D τ s A s.heap (bl [(ntB τ nk na cap G ((q : Nat) : Int) so)]) _ _ := Y
  have Y : Wd D τ s A s.heap (bl [[(nk, .inr (6, [.ref (na 0), .ref (na 1), .ref (na 2), .int (iI (((q : Nat) : Int))), .int (iI (so))]))], [((na 0), .inl (τ 0, cap, .inl (fun j => iI ((G 0) j))))], [((na 1), .inl (τ 0, cap, .inl (fun j => iI ((G 1) j))))], [((na 2), .inl (τ 0, cap, .inl (fun j => iI ((G 2) j))))]]) _ _ := Y
  refine lv_aload_n B.1 B.2.1 dX4_put_0 rfl (lv_at hl 0 rfl) ?_
  refine gf_X4_21 B Y 0 rfl rfl dX4_put_1 ?_
  refine lv_if_lt (tgt := 17) B.1 B.2.1 dX4_put_4 (by decide) (fun h => absurd h (mt (iI_lt0 (a := ((q : Nat) : Int)) (by omega) (by omega)).mp (by omega))) (fun _ => ?_)
  refine lv_aload_n B.1 B.2.1 dX4_put_7 rfl (lv_at hl 0 rfl) ?_
  refine gf_X4_21 B Y 0 rfl rfl dX4_put_8 ?_
  refine lv_sipush (v := (iI (2100))) B.1 B.2.1 dX4_put_11 (by decide) ?_
  refine lv_icmp_lt (tgt := 18) B.1 B.2.1 dX4_put_14 (by decide) (fun c1 => ?_) (fun c1 => ?_)
  · have c1 := (iI_lt (a := ((q : Nat) : Int)) (b := 2100) (by omega) (by omega) (by omega) (by omega)).mp c1
    refine lv_aload_n B.1 B.2.1 dX4_put_18 rfl (lv_at hl 0 rfl) ?_
    refine gf_X4_21 B Y 0 rfl rfl dX4_put_19 ?_
    refine lv_aload_n B.1 B.2.1 dX4_put_22 rfl (lv_at hl 0 rfl) ?_
    refine gf_X4_9 B Y 0 rfl rfl dX4_put_23 ?_
    refine b_alen (v := (iI ((cap : Nat) : Int))) B Y 1 rfl 0 rfl (iI_nat _) dX4_put_26 ?_
    refine lv_icmp_lt (tgt := 41) B.1 B.2.1 dX4_put_27 (by decide) (fun c2 => ?_) (fun c2 => ?_)
    · have c2 := (iI_lt (a := ((q : Nat) : Int)) (b := ((cap : Nat) : Int)) (by omega) (by omega) (by omega) (by omega)).mp c2
      refine lv_aload_n B.1 B.2.1 dX4_put_41 rfl (lv_at hl 0 rfl) ?_
      refine gf_X4_9 B Y 0 rfl rfl dX4_put_42 ?_
      refine lv_aload_n B.1 B.2.1 dX4_put_45 rfl (lv_at hl 0 rfl) ?_
      refine gf_X4_21 B Y 0 rfl rfl dX4_put_46 ?_
      refine lv_iload_n B.1 B.2.1 dX4_put_49 rfl (lv_at hl 1 rfl) ?_
      refine qV (Cs := [[((na 0), .inl (τ 0, cap, .inl (fun j => iI ((G 0) j))))]]) (Rs := [[(nk, .inr (6, [.ref (na 0), .ref (na 1), .ref (na 2), .int (iI (((q : Nat) : Int))), .int (iI (so))]))], [((na 1), .inl (τ 0, cap, .inl (fun j => iI ((G 1) j))))], [((na 2), .inl (τ 0, cap, .inl (fun j => iI ((G 2) j))))]]) Y [1] [0, 2, 3] (by decide) rfl (cSN (As := [.ref (na 0), .int (iI (((q : Nat) : Int))), .int (iI (tm))]) (rest := []) B Y [1] (by decide) rfl (k_setIn l D τ _ (na 0) cap q (fun j => iI ((G 0) j)) (iI (tm)) (by omega) (by omega)) (Y.1.2.1 _ nw_934) q_831 q_2 q_832 rfl rfl hd_X9_setIn ⟨(Nat.le_of_ble_eq_true rfl), (Nat.le_of_ble_eq_true rfl)⟩ rfl hl.1 rfl (Nat.le_of_ble_eq_true rfl) dX4_put_50 ⟨by show _ ≤ KC - s.heap.size; omega, by show _ ≤ KS - totS s.heap; omega⟩) (fun u H locs hw Y => ?_)
      rw [upz_ok] at Y
      have Y : Wd D τ s A s.heap (bl [[((na 0), .inl (τ 0, cap, .inl (fun j => iI ((upz (G 0) q (tm)) j))))], [(nk, .inr (6, [.ref (na 0), .ref (na 1), .ref (na 2), .int (iI (((q : Nat) : Int))), .int (iI (so))]))], [((na 1), .inl (τ 0, cap, .inl (fun j => iI ((G 1) j))))], [((na 2), .inl (τ 0, cap, .inl (fun j => iI ((G 2) j))))]]) _ _ := Y
      refine lv_aload_n B.1 B.2.1 dX4_put_53 rfl (lv_at hl 0 rfl) ?_
      refine gf_X4_15 B Y 1 rfl rfl dX4_put_54 ?_
      refine lv_aload_n B.1 B.2.1 dX4_put_57 rfl (lv_at hl 0 rfl) ?_
      refine gf_X4_21 B Y 1 rfl rfl dX4_put_58 ?_
      refine lv_iload_n B.1 B.2.1 dX4_put_61 rfl (lv_at hl 2 rfl) ?_
      refine qV (Cs := [[((na 1), .inl (τ 0, cap, .inl (fun j => iI ((G 1) j))))]]) (Rs := [[((na 0), .inl (τ 0, cap, .inl (fun j => iI ((upz (G 0) q (tm)) j))))], [(nk, .inr (6, [.ref (na 0), .ref (na 1), .ref (na 2), .int (iI (((q : Nat) : Int))), .int (iI (so))]))], [((na 2), .inl (τ 0, cap, .inl (fun j => iI ((G 2) j))))]]) Y [2] [0, 1, 3] (by decide) rfl (cSN (As := [.ref (na 1), .int (iI (((q : Nat) : Int))), .int (iI (zv))]) (rest := []) B Y [2] (by decide) rfl (k_setIn l D τ _ (na 1) cap q (fun j => iI ((G 1) j)) (iI (zv)) (by omega) (by omega)) (Y.1.2.1 _ nw_934) q_831 q_2 q_832 rfl rfl hd_X9_setIn ⟨(Nat.le_of_ble_eq_true rfl), (Nat.le_of_ble_eq_true rfl)⟩ rfl hl.1 rfl (Nat.le_of_ble_eq_true rfl) dX4_put_62 ⟨by show _ ≤ KC - s.heap.size; omega, by show _ ≤ KS - totS s.heap; omega⟩) (fun u H locs hw Y => ?_)
      rw [upz_ok] at Y
      have Y : Wd D τ s A s.heap (bl [[((na 1), .inl (τ 0, cap, .inl (fun j => iI ((upz (G 1) q (zv)) j))))], [((na 0), .inl (τ 0, cap, .inl (fun j => iI ((upz (G 0) q (tm)) j))))], [(nk, .inr (6, [.ref (na 0), .ref (na 1), .ref (na 2), .int (iI (((q : Nat) : Int))), .int (iI (so))]))], [((na 2), .inl (τ 0, cap, .inl (fun j => iI ((G 2) j))))]]) _ _ := Y
      refine lv_aload_n B.1 B.2.1 dX4_put_65 rfl (lv_at hl 0 rfl) ?_
      refine gf_X4_18 B Y 2 rfl rfl dX4_put_66 ?_
      refine lv_aload_n B.1 B.2.1 dX4_put_69 rfl (lv_at hl 0 rfl) ?_
      refine gf_X4_21 B Y 2 rfl rfl dX4_put_70 ?_
      refine lv_iload_n B.1 B.2.1 dX4_put_73 rfl (lv_at hl 3 rfl) ?_
      refine qV (Cs := [[((na 2), .inl (τ 0, cap, .inl (fun j => iI ((G 2) j))))]]) (Rs := [[((na 1), .inl (τ 0, cap, .inl (fun j => iI ((upz (G 1) q (zv)) j))))], [((na 0), .inl (τ 0, cap, .inl (fun j => iI ((upz (G 0) q (tm)) j))))], [(nk, .inr (6, [.ref (na 0), .ref (na 1), .ref (na 2), .int (iI (((q : Nat) : Int))), .int (iI (so))]))]]) Y [3] [0, 1, 2] (by decide) rfl (cSN (As := [.ref (na 2), .int (iI (((q : Nat) : Int))), .int (iI (ab))]) (rest := []) B Y [3] (by decide) rfl (k_setIn l D τ _ (na 2) cap q (fun j => iI ((G 2) j)) (iI (ab)) (by omega) (by omega)) (Y.1.2.1 _ nw_934) q_831 q_2 q_832 rfl rfl hd_X9_setIn ⟨(Nat.le_of_ble_eq_true rfl), (Nat.le_of_ble_eq_true rfl)⟩ rfl hl.1 rfl (Nat.le_of_ble_eq_true rfl) dX4_put_74 ⟨by show _ ≤ KC - s.heap.size; omega, by show _ ≤ KS - totS s.heap; omega⟩) (fun u H locs hw Y => ?_)
      rw [upz_ok] at Y
      have Y : Wd D τ s A s.heap (bl [[((na 2), .inl (τ 0, cap, .inl (fun j => iI ((upz (G 2) q (ab)) j))))], [((na 1), .inl (τ 0, cap, .inl (fun j => iI ((upz (G 1) q (zv)) j))))], [((na 0), .inl (τ 0, cap, .inl (fun j => iI ((upz (G 0) q (tm)) j))))], [(nk, .inr (6, [.ref (na 0), .ref (na 1), .ref (na 2), .int (iI (((q : Nat) : Int))), .int (iI (so))]))]]) _ _ := Y
      refine lv_aload_n B.1 B.2.1 dX4_put_77 rfl (lv_at hl 0 rfl) ?_
      refine lv_dup B.1 B.2.1 dX4_put_78 rfl ?_
      refine gf_X4_21 B Y 3 rfl rfl dX4_put_79 ?_
      refine lv_iconst (v := (iI (1))) B.1 B.2.1 dX4_put_82 (by decide) ?_
      refine lv_iadd B.1 B.2.1 dX4_put_83 ?_
      refine lv_cv (v := (iI (((q : Nat) : Int) + 1))) (iI_add _ _) ?_
      refine pf_X4_21 (B' := [[((na 2), .inl (τ 0, cap, .inl (fun j => iI ((upz (G 2) q (ab)) j))))], [((na 1), .inl (τ 0, cap, .inl (fun j => iI ((upz (G 1) q (zv)) j))))], [((na 0), .inl (τ 0, cap, .inl (fun j => iI ((upz (G 0) q (tm)) j))))], [(nk, .inr (6, [.ref (na 0), .ref (na 1), .ref (na 2), .int (iI (((q : Nat) : Int) + 1)), .int (iI (so))]))]]) B Y 3 rfl (Nat.le_of_ble_eq_true rfl) rfl dX4_put_84 (fun H locs Y => ?_)
      refine lv_aload_n B.1 B.2.1 dX4_put_87 rfl (lv_at hl 0 rfl) ?_
      refine lv_aload_n B.1 B.2.1 dX4_put_88 rfl (lv_at hl 0 rfl) ?_
      refine gf_X4_26 B Y 3 rfl rfl dX4_put_89 ?_
      refine lv_iload_n B.1 B.2.1 dX4_put_92 rfl (lv_at hl 1 rfl) ?_
      refine t_mmin (v := (iI (min so tm))) B q_652 q_618 q_1 q_619 hl.1 (Nat.le_of_ble_eq_true rfl) (Nat.le_of_ble_eq_true rfl) (by show _ ≤ KC - s.heap.size; omega) (by show _ ≤ KS - totS s.heap; omega) (iI_mn (by omega) (by omega) (by omega) (by omega)) dX4_put_93 ?_
      refine pf_X4_26 (B' := [[((na 2), .inl (τ 0, cap, .inl (fun j => iI ((upz (G 2) q (ab)) j))))], [((na 1), .inl (τ 0, cap, .inl (fun j => iI ((upz (G 1) q (zv)) j))))], [((na 0), .inl (τ 0, cap, .inl (fun j => iI ((upz (G 0) q (tm)) j))))], [(nk, .inr (6, [.ref (na 0), .ref (na 1), .ref (na 2), .int (iI (((q : Nat) : Int) + 1)), .int (iI (min so tm))]))]]) B Y 3 rfl (Nat.le_of_ble_eq_true rfl) rfl dX4_put_96 (fun H locs Y => ?_)
      have Y : Wd D τ s A s.heap (bl [[(nk, .inr (6, [.ref (na 0), .ref (na 1), .ref (na 2), .int (iI (((q : Nat) : Int) + 1)), .int (iI (min so tm))]))], [((na 0), .inl (τ 0, cap, .inl (fun j => iI ((upz (G 0) q (tm)) j))))], [((na 1), .inl (τ 0, cap, .inl (fun j => iI ((upz (G 1) q (zv)) j))))], [((na 2), .inl (τ 0, cap, .inl (fun j => iI ((upz (G 2) q (ab)) j))))]]) _ _ := Y.pick [3, 2, 1, 0] (by decide) rfl
      have Y : Wd D τ s A s.heap (bl [(ntB τ nk (vecA [(na 0), (na 1), (na 2)]) cap (vecF [upz (G 0) q (tm), upz (G 1) q (zv), upz (G 2) q (ab)]) (((q : Nat) : Int) + 1) (min so tm))]) _ _ := Y
      have hr1 : NtRep (vecF [upz (G 0) q (tm), upz (G 1) q (zv), upz (G 2) q (ab)]) (((q : Nat) : Int) + 1) (min so tm) (putN L (tm, zv, ab)) := NtRep.put hR rfl (by omega) (fun j hj => (ntX_up (G := G) (q := q) (by omega) rfl rfl rfl)) (ntX_at (G := G) rfl rfl rfl) rfl
      exact eVz (w1 := fun (u : ((Nat → Nat) × Nat × (Nat → Nat → Int) × Int × Int)) => [(ntB τ nk u.1 u.2.1 u.2.2.1 u.2.2.2.1 u.2.2.2.2)]) B hr hlk Y (vecA [(na 0), (na 1), (na 2)], cap, vecF [upz (G 0) q (tm), upz (G 1) q (zv), upz (G 2) q (ab)], ((q : Nat) : Int) + 1, min so tm) ⟨hr1, hK, by rw [putN_len (by omega)]; show _ ≤ cap; omega⟩ [0] (by decide) rfl (by show _ + _ + (4096 - cap) ≤ KC; omega) (by show _ + _ + (6 * (4096 - cap)) ≤ KS; omega) dX4_put_99
    · have c2 := mt (iI_lt (a := ((q : Nat) : Int)) (b := ((cap : Nat) : Int)) (by omega) (by omega) (by omega) (by omega)).mpr c2
      refine lv_aload_n B.1 B.2.1 dX4_put_30 rfl (lv_at hl 0 rfl) ?_
      refine lv_aload_n B.1 B.2.1 dX4_put_31 rfl (lv_at hl 0 rfl) ?_
      refine gf_X4_9 B Y 0 rfl rfl dX4_put_32 ?_
      refine b_alen (v := (iI ((cap : Nat) : Int))) B Y 1 rfl 0 rfl (iI_nat _) dX4_put_35 ?_
      refine lv_iconst (v := (iI (2))) B.1 B.2.1 dX4_put_36 (by decide) ?_
      refine lv_imul B.1 B.2.1 dX4_put_37 ?_
      refine lv_cv (v := (iI (((cap * 2) : Nat) : Int))) (by rw [iI_mul] <;> congr 1 <;> omega) ?_
      have hkd := hK.dbl (by omega)
      have Y : Wd D τ s A s.heap (bl [(ntB τ nk na cap G ((q : Nat) : Int) so)]) _ _ := Y
      refine qVz (Cs := [(ntB τ nk na cap G ((q : Nat) : Int) so)]) (Rs := []) (pcn := 3) (psn := 3 * (cap * 2)) (xc := 4096 - (cap * 2)) (xs := 6 * (4096 - (cap * 2))) Y [0] [] (by decide) rfl hz1 hz2 (by omega) (by omega) (fun hz hf => cVbz (As := [.int (iI (((cap * 2) : Nat) : Int))]) (rest := []) (q0 := 0) B Y [0] (by decide) rfl (k_X4_widen l D τ _ _ _ _ nk na cap G ((q : Nat) : Int) so hK (cap * 2) (by omega) (by omega)) rfl rfl q_636 q_638 qp_4 q_8 q_639 rfl rfl hd_X4_widen ⟨(Nat.le_of_ble_eq_true rfl), (Nat.le_of_ble_eq_true rfl)⟩ rfl hl.1 rfl (Nat.le_of_ble_eq_true rfl) dX4_put_38 hz hf) (fun na2 H locs cells slots hw Y hz1 hz2 => ?_)
      have Y : Wd D τ s A s.heap (bl [(ntB τ nk na2 (cap * 2) (fun i => cpz (G i) (fun _ => 0) cap) ((q : Nat) : Int) so)]) _ _ := Y
      have Y : Wd D τ s A s.heap (bl [[(nk, .inr (6, [.ref (na2 0), .ref (na2 1), .ref (na2 2), .int (iI (((q : Nat) : Int))), .int (iI (so))]))], [((na2 0), .inl (τ 0, (cap * 2), .inl (fun j => iI (((fun i => cpz (G i) (fun _ => 0) cap) 0) j))))], [((na2 1), .inl (τ 0, (cap * 2), .inl (fun j => iI (((fun i => cpz (G i) (fun _ => 0) cap) 1) j))))], [((na2 2), .inl (τ 0, (cap * 2), .inl (fun j => iI (((fun i => cpz (G i) (fun _ => 0) cap) 2) j))))]]) _ _ := Y
      refine lv_aload_n B.1 B.2.1 dX4_put_41 rfl (lv_at hl 0 rfl) ?_
      refine gf_X4_9 B Y 0 rfl rfl dX4_put_42 ?_
      refine lv_aload_n B.1 B.2.1 dX4_put_45 rfl (lv_at hl 0 rfl) ?_
      refine gf_X4_21 B Y 0 rfl rfl dX4_put_46 ?_
      refine lv_iload_n B.1 B.2.1 dX4_put_49 rfl (lv_at hl 1 rfl) ?_
      refine qV (Cs := [[((na2 0), .inl (τ 0, (cap * 2), .inl (fun j => iI (((fun i => cpz (G i) (fun _ => 0) cap) 0) j))))]]) (Rs := [[(nk, .inr (6, [.ref (na2 0), .ref (na2 1), .ref (na2 2), .int (iI (((q : Nat) : Int))), .int (iI (so))]))], [((na2 1), .inl (τ 0, (cap * 2), .inl (fun j => iI (((fun i => cpz (G i) (fun _ => 0) cap) 1) j))))], [((na2 2), .inl (τ 0, (cap * 2), .inl (fun j => iI (((fun i => cpz (G i) (fun _ => 0) cap) 2) j))))]]) Y [1] [0, 2, 3] (by decide) rfl (cSN (As := [.ref (na2 0), .int (iI (((q : Nat) : Int))), .int (iI (tm))]) (rest := []) B Y [1] (by decide) rfl (k_setIn l D τ _ (na2 0) (cap * 2) q (fun j => iI (((fun i => cpz (G i) (fun _ => 0) cap) 0) j)) (iI (tm)) (by omega) (by omega)) (Y.1.2.1 _ nw_934) q_831 q_2 q_832 rfl rfl hd_X9_setIn ⟨(Nat.le_of_ble_eq_true rfl), (Nat.le_of_ble_eq_true rfl)⟩ rfl hl.1 rfl (Nat.le_of_ble_eq_true rfl) dX4_put_50 ⟨by show _ ≤ KC - s.heap.size; omega, by show _ ≤ KS - totS s.heap; omega⟩) (fun u H locs hw Y => ?_)
      rw [upz_ok] at Y
      have Y : Wd D τ s A s.heap (bl [[((na2 0), .inl (τ 0, (cap * 2), .inl (fun j => iI ((upz ((fun i => cpz (G i) (fun _ => 0) cap) 0) q (tm)) j))))], [(nk, .inr (6, [.ref (na2 0), .ref (na2 1), .ref (na2 2), .int (iI (((q : Nat) : Int))), .int (iI (so))]))], [((na2 1), .inl (τ 0, (cap * 2), .inl (fun j => iI (((fun i => cpz (G i) (fun _ => 0) cap) 1) j))))], [((na2 2), .inl (τ 0, (cap * 2), .inl (fun j => iI (((fun i => cpz (G i) (fun _ => 0) cap) 2) j))))]]) _ _ := Y
      refine lv_aload_n B.1 B.2.1 dX4_put_53 rfl (lv_at hl 0 rfl) ?_
      refine gf_X4_15 B Y 1 rfl rfl dX4_put_54 ?_
      refine lv_aload_n B.1 B.2.1 dX4_put_57 rfl (lv_at hl 0 rfl) ?_
      refine gf_X4_21 B Y 1 rfl rfl dX4_put_58 ?_
      refine lv_iload_n B.1 B.2.1 dX4_put_61 rfl (lv_at hl 2 rfl) ?_
      refine qV (Cs := [[((na2 1), .inl (τ 0, (cap * 2), .inl (fun j => iI (((fun i => cpz (G i) (fun _ => 0) cap) 1) j))))]]) (Rs := [[((na2 0), .inl (τ 0, (cap * 2), .inl (fun j => iI ((upz ((fun i => cpz (G i) (fun _ => 0) cap) 0) q (tm)) j))))], [(nk, .inr (6, [.ref (na2 0), .ref (na2 1), .ref (na2 2), .int (iI (((q : Nat) : Int))), .int (iI (so))]))], [((na2 2), .inl (τ 0, (cap * 2), .inl (fun j => iI (((fun i => cpz (G i) (fun _ => 0) cap) 2) j))))]]) Y [2] [0, 1, 3] (by decide) rfl (cSN (As := [.ref (na2 1), .int (iI (((q : Nat) : Int))), .int (iI (zv))]) (rest := []) B Y [2] (by decide) rfl (k_setIn l D τ _ (na2 1) (cap * 2) q (fun j => iI (((fun i => cpz (G i) (fun _ => 0) cap) 1) j)) (iI (zv)) (by omega) (by omega)) (Y.1.2.1 _ nw_934) q_831 q_2 q_832 rfl rfl hd_X9_setIn ⟨(Nat.le_of_ble_eq_true rfl), (Nat.le_of_ble_eq_true rfl)⟩ rfl hl.1 rfl (Nat.le_of_ble_eq_true rfl) dX4_put_62 ⟨by show _ ≤ KC - s.heap.size; omega, by show _ ≤ KS - totS s.heap; omega⟩) (fun u H locs hw Y => ?_)
      rw [upz_ok] at Y
      have Y : Wd D τ s A s.heap (bl [[((na2 1), .inl (τ 0, (cap * 2), .inl (fun j => iI ((upz ((fun i => cpz (G i) (fun _ => 0) cap) 1) q (zv)) j))))], [((na2 0), .inl (τ 0, (cap * 2), .inl (fun j => iI ((upz ((fun i => cpz (G i) (fun _ => 0) cap) 0) q (tm)) j))))], [(nk, .inr (6, [.ref (na2 0), .ref (na2 1), .ref (na2 2), .int (iI (((q : Nat) : Int))), .int (iI (so))]))], [((na2 2), .inl (τ 0, (cap * 2), .inl (fun j => iI (((fun i => cpz (G i) (fun _ => 0) cap) 2) j))))]]) _ _ := Y
      refine lv_aload_n B.1 B.2.1 dX4_put_65 rfl (lv_at hl 0 rfl) ?_
      refine gf_X4_18 B Y 2 rfl rfl dX4_put_66 ?_
      refine lv_aload_n B.1 B.2.1 dX4_put_69 rfl (lv_at hl 0 rfl) ?_
      refine gf_X4_21 B Y 2 rfl rfl dX4_put_70 ?_
      refine lv_iload_n B.1 B.2.1 dX4_put_73 rfl (lv_at hl 3 rfl) ?_
      refine qV (Cs := [[((na2 2), .inl (τ 0, (cap * 2), .inl (fun j => iI (((fun i => cpz (G i) (fun _ => 0) cap) 2) j))))]]) (Rs := [[((na2 1), .inl (τ 0, (cap * 2), .inl (fun j => iI ((upz ((fun i => cpz (G i) (fun _ => 0) cap) 1) q (zv)) j))))], [((na2 0), .inl (τ 0, (cap * 2), .inl (fun j => iI ((upz ((fun i => cpz (G i) (fun _ => 0) cap) 0) q (tm)) j))))], [(nk, .inr (6, [.ref (na2 0), .ref (na2 1), .ref (na2 2), .int (iI (((q : Nat) : Int))), .int (iI (so))]))]]) Y [3] [0, 1, 2] (by decide) rfl (cSN (As := [.ref (na2 2), .int (iI (((q : Nat) : Int))), .int (iI (ab))]) (rest := []) B Y [3] (by decide) rfl (k_setIn l D τ _ (na2 2) (cap * 2) q (fun j => iI (((fun i => cpz (G i) (fun _ => 0) cap) 2) j)) (iI (ab)) (by omega) (by omega)) (Y.1.2.1 _ nw_934) q_831 q_2 q_832 rfl rfl hd_X9_setIn ⟨(Nat.le_of_ble_eq_true rfl), (Nat.le_of_ble_eq_true rfl)⟩ rfl hl.1 rfl (Nat.le_of_ble_eq_true rfl) dX4_put_74 ⟨by show _ ≤ KC - s.heap.size; omega, by show _ ≤ KS - totS s.heap; omega⟩) (fun u H locs hw Y => ?_)
      rw [upz_ok] at Y
      have Y : Wd D τ s A s.heap (bl [[((na2 2), .inl (τ 0, (cap * 2), .inl (fun j => iI ((upz ((fun i => cpz (G i) (fun _ => 0) cap) 2) q (ab)) j))))], [((na2 1), .inl (τ 0, (cap * 2), .inl (fun j => iI ((upz ((fun i => cpz (G i) (fun _ => 0) cap) 1) q (zv)) j))))], [((na2 0), .inl (τ 0, (cap * 2), .inl (fun j => iI ((upz ((fun i => cpz (G i) (fun _ => 0) cap) 0) q (tm)) j))))], [(nk, .inr (6, [.ref (na2 0), .ref (na2 1), .ref (na2 2), .int (iI (((q : Nat) : Int))), .int (iI (so))]))]]) _ _ := Y
      refine lv_aload_n B.1 B.2.1 dX4_put_77 rfl (lv_at hl 0 rfl) ?_
      refine lv_dup B.1 B.2.1 dX4_put_78 rfl ?_
      refine gf_X4_21 B Y 3 rfl rfl dX4_put_79 ?_
      refine lv_iconst (v := (iI (1))) B.1 B.2.1 dX4_put_82 (by decide) ?_
      refine lv_iadd B.1 B.2.1 dX4_put_83 ?_
      refine lv_cv (v := (iI (((q : Nat) : Int) + 1))) (iI_add _ _) ?_
      refine pf_X4_21 (B' := [[((na2 2), .inl (τ 0, (cap * 2), .inl (fun j => iI ((upz ((fun i => cpz (G i) (fun _ => 0) cap) 2) q (ab)) j))))], [((na2 1), .inl (τ 0, (cap * 2), .inl (fun j => iI ((upz ((fun i => cpz (G i) (fun _ => 0) cap) 1) q (zv)) j))))], [((na2 0), .inl (τ 0, (cap * 2), .inl (fun j => iI ((upz ((fun i => cpz (G i) (fun _ => 0) cap) 0) q (tm)) j))))], [(nk, .inr (6, [.ref (na2 0), .ref (na2 1), .ref (na2 2), .int (iI (((q : Nat) : Int) + 1)), .int (iI (so))]))]]) B Y 3 rfl (Nat.le_of_ble_eq_true rfl) rfl dX4_put_84 (fun H locs Y => ?_)
      refine lv_aload_n B.1 B.2.1 dX4_put_87 rfl (lv_at hl 0 rfl) ?_
      refine lv_aload_n B.1 B.2.1 dX4_put_88 rfl (lv_at hl 0 rfl) ?_
      refine gf_X4_26 B Y 3 rfl rfl dX4_put_89 ?_
      refine lv_iload_n B.1 B.2.1 dX4_put_92 rfl (lv_at hl 1 rfl) ?_
      refine t_mmin (v := (iI (min so tm))) B q_652 q_618 q_1 q_619 hl.1 (Nat.le_of_ble_eq_true rfl) (Nat.le_of_ble_eq_true rfl) (by show _ ≤ KC - s.heap.size; omega) (by show _ ≤ KS - totS s.heap; omega) (iI_mn (by omega) (by omega) (by omega) (by omega)) dX4_put_93 ?_
      refine pf_X4_26 (B' := [[((na2 2), .inl (τ 0, (cap * 2), .inl (fun j => iI ((upz ((fun i => cpz (G i) (fun _ => 0) cap) 2) q (ab)) j))))], [((na2 1), .inl (τ 0, (cap * 2), .inl (fun j => iI ((upz ((fun i => cpz (G i) (fun _ => 0) cap) 1) q (zv)) j))))], [((na2 0), .inl (τ 0, (cap * 2), .inl (fun j => iI ((upz ((fun i => cpz (G i) (fun _ => 0) cap) 0) q (tm)) j))))], [(nk, .inr (6, [.ref (na2 0), .ref (na2 1), .ref (na2 2), .int (iI (((q : Nat) : Int) + 1)), .int (iI (min so tm))]))]]) B Y 3 rfl (Nat.le_of_ble_eq_true rfl) rfl dX4_put_96 (fun H locs Y => ?_)
      have Y : Wd D τ s A s.heap (bl [[(nk, .inr (6, [.ref (na2 0), .ref (na2 1), .ref (na2 2), .int (iI (((q : Nat) : Int) + 1)), .int (iI (min so tm))]))], [((na2 0), .inl (τ 0, (cap * 2), .inl (fun j => iI ((upz ((fun i => cpz (G i) (fun _ => 0) cap) 0) q (tm)) j))))], [((na2 1), .inl (τ 0, (cap * 2), .inl (fun j => iI ((upz ((fun i => cpz (G i) (fun _ => 0) cap) 1) q (zv)) j))))], [((na2 2), .inl (τ 0, (cap * 2), .inl (fun j => iI ((upz ((fun i => cpz (G i) (fun _ => 0) cap) 2) q (ab)) j))))]]) _ _ := Y.pick [3, 2, 1, 0] (by decide) rfl
      have Y : Wd D τ s A s.heap (bl [(ntB τ nk (vecA [(na2 0), (na2 1), (na2 2)]) (cap * 2) (vecF [upz ((fun i => cpz (G i) (fun _ => 0) cap) 0) q (tm), upz ((fun i => cpz (G i) (fun _ => 0) cap) 1) q (zv), upz ((fun i => cpz (G i) (fun _ => 0) cap) 2) q (ab)]) (((q : Nat) : Int) + 1) (min so tm))]) _ _ := Y
      have hr1 : NtRep (vecF [upz ((fun i => cpz (G i) (fun _ => 0) cap) 0) q (tm), upz ((fun i => cpz (G i) (fun _ => 0) cap) 1) q (zv), upz ((fun i => cpz (G i) (fun _ => 0) cap) 2) q (ab)]) (((q : Nat) : Int) + 1) (min so tm) (putN L (tm, zv, ab)) := NtRep.put hR rfl (by omega) (fun j hj => (ntX_up (G := (fun i => cpz (G i) (fun _ => 0) cap)) (q := q) (by omega) rfl rfl rfl).trans (ntX_cp (G := G) (g := fun _ _ => 0) (n := cap) (by omega) rfl rfl rfl)) (ntX_at (G := (fun i => cpz (G i) (fun _ => 0) cap)) rfl rfl rfl) rfl
      exact eVz (w1 := fun (u : ((Nat → Nat) × Nat × (Nat → Nat → Int) × Int × Int)) => [(ntB τ nk u.1 u.2.1 u.2.2.1 u.2.2.2.1 u.2.2.2.2)]) B hr hlk Y (vecA [(na2 0), (na2 1), (na2 2)], (cap * 2), vecF [upz ((fun i => cpz (G i) (fun _ => 0) cap) 0) q (tm), upz ((fun i => cpz (G i) (fun _ => 0) cap) 1) q (zv), upz ((fun i => cpz (G i) (fun _ => 0) cap) 2) q (ab)], ((q : Nat) : Int) + 1, min so tm) ⟨hr1, hkd.1, by rw [putN_len (by omega)]; show _ ≤ cap * 2; omega⟩ [0] (by decide) rfl (by show _ + _ + (4096 - (cap * 2)) ≤ KC; omega) (by show _ + _ + (6 * (4096 - (cap * 2))) ≤ KS; omega) dX4_put_99
  · have c1 := mt (iI_lt (a := ((q : Nat) : Int)) (b := 2100) (by omega) (by omega) (by omega) (by omega)).mpr c1
    have Y : Wd D τ s A s.heap (bl [(ntB τ nk na cap G ((q : Nat) : Int) so)]) _ _ := Y
    exact eVz (w1 := fun (u : ((Nat → Nat) × Nat × (Nat → Nat → Int) × Int × Int)) => [(ntB τ nk u.1 u.2.1 u.2.2.1 u.2.2.2.1 u.2.2.2.2)]) B hr hlk Y (na, cap, G, ((q : Nat) : Int), so) (by rw [putN_full (by omega)]; exact ⟨hR, hK, hc⟩) [0] (by decide) rfl (by show _ + _ + (4096 - cap) ≤ KC; omega) (by show _ + _ + (6 * (4096 - cap)) ≤ KS; omega) dX4_put_17

set_option maxHeartbeats 4000000 in
set_option maxRecDepth 100000 in
theorem k_X4_copyFrom (l : Launch) (D : va_G) (τ : Nat → ClassId) (sz T0 KC KS : Nat) (nk : Nat) (na : Nat → Nat) (cap : Nat) (G : Nat → Nat → Int) (ct so : Int) (hK : CapOk cap) (nk2 : Nat) (na2 : Nat → Nat) (cap2 : Nat) (G2 : Nat → Nat → Int) (ct2 so2 : Int) (L : List Nte) (hR : NtRep G2 ct2 so2 L) (hK2 : CapOk cap2) (hc : L.length ≤ cap2) : Met l yX4_copyFrom (Cond.code yX4_copyFrom cX4_copyFrom 2 none :: wALL) { frames := 3, cells := KC - sz, slots := KS - T0, locals := 103 } (Pz D τ (bl [(ntB τ nk na cap G ct so), (ntB τ nk2 na2 cap2 G2 ct2 so2)]) sz T0 [.ref nk, .ref nk2] KC KS (4096 - cap) (6 * (4096 - cap))) (va_Qv (fun (u : ((Nat → Nat) × Nat × (Nat → Nat → Int) × Int × Int)) => NtRep u.2.2.1 u.2.2.2.1 u.2.2.2.2 L ∧ CapOk u.2.1 ∧ L.length ≤ u.2.1) (Bz D (va_A (bl [(ntB τ nk na cap G ct so), (ntB τ nk2 na2 cap2 G2 ct2 so2)]) sz) (fun (u : ((Nat → Nat) × Nat × (Nat → Nat → Int) × Int × Int)) => [(ntB τ nk u.1 u.2.1 u.2.2.1 u.2.2.2.1 u.2.2.2.2), (ntB τ nk2 na2 cap2 G2 ct2 so2)]) KC KS (fun (u : ((Nat → Nat) × Nat × (Nat → Nat → Int) × Int × Int)) => 4096 - u.2.1) (fun (u : ((Nat → Nat) × Nat × (Nat → Nat → Int) × Int × Int)) => 6 * (4096 - u.2.1))) (va_A (bl [(ntB τ nk na cap G ct so), (ntB τ nk2 na2 cap2 G2 ct2 so2)]) sz)) (KC - sz) (KS - T0) (va_A (bl [(ntB τ nk na cap G ct so), (ntB τ nk2 na2 cap2 G2 ct2 so2)]) sz) := by
  refine bodyZ (by decide) (Nat.le_of_ble_eq_true rfl) (fun p e s m below meth c ls B hr hlk hin hsz hT0 hz1 hz2 Y hl => ?_)
  have hl : lv_has ls 2 [(0, .ref nk), (1, .ref nk2)] := hl
  have B : CallFix p m c cX4_copyFrom 2 s _ wALL RX4 := B
  generalize va_A (bl [(ntB τ nk na cap G ct so), (ntB τ nk2 na2 cap2 G2 ct2 so2)]) sz = A at Y ⊢
  have hk1 := hK.le
  have hk2 := hK2.le
  have q0 := hR
  obtain ⟨g1, g2, g3, g4⟩ := q0
  obtain ⟨q, hq⟩ : ∃ q : Nat, ct2 = q := ⟨L.length, g1⟩
  subst hq
  have Y : Wd D τ s A s.heap (bl [(ntB τ nk na cap G ct so), (ntB τ nk2 na2 cap2 G2 ((q : Nat) : Int) so2)]) _ _ := Y
  have Y : Wd D τ s A s.heap (bl [[(nk, .inr (6, [.ref (na 0), .ref (na 1), .ref (na 2), .int (iI (ct)), .int (iI (so))]))], [((na 0), .inl (τ 0, cap, .inl (fun j => iI ((G 0) j))))], [((na 1), .inl (τ 0, cap, .inl (fun j => iI ((G 1) j))))], [((na 2), .inl (τ 0, cap, .inl (fun j => iI ((G 2) j))))], (ntB τ nk2 na2 cap2 G2 ((q : Nat) : Int) so2)]) _ _ := Y
  have Y : Wd D τ s A s.heap (bl [(ntB τ nk2 na2 cap2 G2 ((q : Nat) : Int) so2), [(nk, .inr (6, [.ref (na 0), .ref (na 1), .ref (na 2), .int (iI (ct)), .int (iI (so))]))], [((na 0), .inl (τ 0, cap, .inl (fun j => iI ((G 0) j))))], [((na 1), .inl (τ 0, cap, .inl (fun j => iI ((G 1) j))))], [((na 2), .inl (τ 0, cap, .inl (fun j => iI ((G 2) j))))]]) _ _ := Y.pick [4, 0, 1, 2, 3] (by decide) rfl
  have Y : Wd D τ s A s.heap (bl [[(nk2, .inr (6, [.ref (na2 0), .ref (na2 1), .ref (na2 2), .int (iI (((q : Nat) : Int))), .int (iI (so2))]))], [((na2 0), .inl (τ 0, cap2, .inl (fun j => iI ((G2 0) j))))], [((na2 1), .inl (τ 0, cap2, .inl (fun j => iI ((G2 1) j))))], [((na2 2), .inl (τ 0, cap2, .inl (fun j => iI ((G2 2) j))))], [(nk, .inr (6, [.ref (na 0), .ref (na 1), .ref (na 2), .int (iI (ct)), .int (iI (so))]))], [((na 0), .inl (τ 0, cap, .inl (fun j => iI ((G 0) j))))], [((na 1), .inl (τ 0, cap, .inl (fun j => iI ((G 1) j))))], [((na 2), .inl (τ 0, cap, .inl (fun j => iI ((G 2) j))))]]) _ _ := Y
  refine lv_aload_n B.1 B.2.1 dX4_copyFrom_0 rfl (lv_at hl 0 rfl) ?_
  refine gf_X4_9 B Y 4 rfl rfl dX4_copyFrom_1 ?_
  refine b_alen (v := (iI ((cap : Nat) : Int))) B Y 5 rfl 0 rfl (iI_nat _) dX4_copyFrom_4 ?_
  refine lv_aload_n B.1 B.2.1 dX4_copyFrom_5 rfl (lv_at hl 1 rfl) ?_
  refine gf_X4_21 B Y 0 rfl rfl dX4_copyFrom_6 ?_
  refine lv_icmp_ge (tgt := 21) B.1 B.2.1 dX4_copyFrom_9 (by decide) (fun c1 => ?_) (fun c1 => ?_)
  · have c1 := (iI_le (a := ((q : Nat) : Int)) (b := ((cap : Nat) : Int)) (by omega) (by omega) (by omega) (by omega)).mp c1
    refine lv_aload_n B.1 B.2.1 dX4_copyFrom_21 rfl (lv_at hl 0 rfl) ?_
    refine lv_iconst (v := (iI (0))) B.1 B.2.1 dX4_copyFrom_22 (by decide) ?_
    refine lv_aload_n B.1 B.2.1 dX4_copyFrom_23 rfl (lv_at hl 1 rfl) ?_
    refine gf_X4_21 B Y 0 rfl rfl dX4_copyFrom_24 ?_
    refine lv_aload_n B.1 B.2.1 dX4_copyFrom_27 rfl (lv_at hl 0 rfl) ?_
    refine gf_X4_9 B Y 4 rfl rfl dX4_copyFrom_28 ?_
    refine b_alen (v := (iI ((cap : Nat) : Int))) B Y 5 rfl 0 rfl (iI_nat _) dX4_copyFrom_31 ?_
    refine t_mmin (v := (iI ((q : Nat) : Int))) B q_652 q_618 q_1 q_619 hl.1 (Nat.le_of_ble_eq_true rfl) (Nat.le_of_ble_eq_true rfl) (by show _ ≤ KC - s.heap.size; omega) (by show _ ≤ KS - totS s.heap; omega) (by rw [iI_mn (by omega) (by omega) (by omega) (by omega)] <;> congr 1 <;> omega) dX4_copyFrom_32 ?_
    refine t_mmax (v := (iI ((q : Nat) : Int))) B q_653 q_629 q_1 q_630 hl.1 (Nat.le_of_ble_eq_true rfl) (Nat.le_of_ble_eq_true rfl) (by show _ ≤ KC - s.heap.size; omega) (by show _ ≤ KS - totS s.heap; omega) (by rw [iI_mx (by omega) (by omega) (by omega) (by omega)] <;> congr 1 <;> omega) dX4_copyFrom_35 ?_
    refine pf_X4_21 (B' := [[(nk2, .inr (6, [.ref (na2 0), .ref (na2 1), .ref (na2 2), .int (iI (((q : Nat) : Int))), .int (iI (so2))]))], [((na2 0), .inl (τ 0, cap2, .inl (fun j => iI ((G2 0) j))))], [((na2 1), .inl (τ 0, cap2, .inl (fun j => iI ((G2 1) j))))], [((na2 2), .inl (τ 0, cap2, .inl (fun j => iI ((G2 2) j))))], [(nk, .inr (6, [.ref (na 0), .ref (na 1), .ref (na 2), .int (iI ((q : Nat) : Int)), .int (iI (so))]))], [((na 0), .inl (τ 0, cap, .inl (fun j => iI ((G 0) j))))], [((na 1), .inl (τ 0, cap, .inl (fun j => iI ((G 1) j))))], [((na 2), .inl (τ 0, cap, .inl (fun j => iI ((G 2) j))))]]) B Y 4 rfl (Nat.le_of_ble_eq_true rfl) rfl dX4_copyFrom_38 (fun H locs Y => ?_)
    refine lv_aload_n B.1 B.2.1 dX4_copyFrom_41 rfl (lv_at hl 0 rfl) ?_
    refine lv_aload_n B.1 B.2.1 dX4_copyFrom_42 rfl (lv_at hl 1 rfl) ?_
    refine gf_X4_26 B Y 0 rfl rfl dX4_copyFrom_43 ?_
    refine pf_X4_26 (B' := [[(nk2, .inr (6, [.ref (na2 0), .ref (na2 1), .ref (na2 2), .int (iI (((q : Nat) : Int))), .int (iI (so2))]))], [((na2 0), .inl (τ 0, cap2, .inl (fun j => iI ((G2 0) j))))], [((na2 1), .inl (τ 0, cap2, .inl (fun j => iI ((G2 1) j))))], [((na2 2), .inl (τ 0, cap2, .inl (fun j => iI ((G2 2) j))))], [(nk, .inr (6, [.ref (na 0), .ref (na 1), .ref (na 2), .int (iI ((q : Nat) : Int)), .int (iI (so2))]))], [((na 0), .inl (τ 0, cap, .inl (fun j => iI ((G 0) j))))], [((na 1), .inl (τ 0, cap, .inl (fun j => iI ((G 1) j))))], [((na 2), .inl (τ 0, cap, .inl (fun j => iI ((G 2) j))))]]) B Y 4 rfl (Nat.le_of_ble_eq_true rfl) rfl dX4_copyFrom_46 (fun H locs Y => ?_)
    refine lv_aload_n B.1 B.2.1 dX4_copyFrom_49 rfl (lv_at hl 1 rfl) ?_
    refine gf_X4_9 B Y 0 rfl rfl dX4_copyFrom_50 ?_
    refine lv_iconst (v := (iI (0))) B.1 B.2.1 dX4_copyFrom_53 (by decide) ?_
    refine lv_aload_n B.1 B.2.1 dX4_copyFrom_54 rfl (lv_at hl 0 rfl) ?_
    refine gf_X4_9 B Y 4 rfl rfl dX4_copyFrom_55 ?_
    refine lv_iconst (v := (iI (0))) B.1 B.2.1 dX4_copyFrom_58 (by decide) ?_
    refine lv_aload_n B.1 B.2.1 dX4_copyFrom_59 rfl (lv_at hl 0 rfl) ?_
    refine gf_X4_21 B Y 4 rfl rfl dX4_copyFrom_60 ?_
    refine b_copyi (n' := q) (h := fun j => iI ((cpz (G2 0) (G 0) q) j)) (B' := [[(nk2, .inr (6, [.ref (na2 0), .ref (na2 1), .ref (na2 2), .int (iI (((q : Nat) : Int))), .int (iI (so2))]))], [((na2 0), .inl (τ 0, cap2, .inl (fun j => iI ((G2 0) j))))], [((na2 1), .inl (τ 0, cap2, .inl (fun j => iI ((G2 1) j))))], [((na2 2), .inl (τ 0, cap2, .inl (fun j => iI ((G2 2) j))))], [(nk, .inr (6, [.ref (na 0), .ref (na 1), .ref (na 2), .int (iI ((q : Nat) : Int)), .int (iI (so2))]))], [((na 0), .inl (τ 0, cap, .inl (fun j => iI ((cpz (G2 0) (G 0) q) j))))], [((na 1), .inl (τ 0, cap, .inl (fun j => iI ((G 1) j))))], [((na 2), .inl (τ 0, cap, .inl (fun j => iI ((G 2) j))))]]) B Y q_654 q_622 q_621 q_18 hl.1 1 5 rfl rfl (iI_pos (by omega)) (iI_clamp (by omega)) (by omega) (by omega) cpz_ok rfl (Nat.le_of_ble_eq_true rfl) (Nat.le_of_ble_eq_true rfl) dX4_copyFrom_63 (fun H locs Y => ?_)
    refine lv_aload_n B.1 B.2.1 dX4_copyFrom_66 rfl (lv_at hl 1 rfl) ?_
    refine gf_X4_15 B Y 0 rfl rfl dX4_copyFrom_67 ?_
    refine lv_iconst (v := (iI (0))) B.1 B.2.1 dX4_copyFrom_70 (by decide) ?_
    refine lv_aload_n B.1 B.2.1 dX4_copyFrom_71 rfl (lv_at hl 0 rfl) ?_
    refine gf_X4_15 B Y 4 rfl rfl dX4_copyFrom_72 ?_
    refine lv_iconst (v := (iI (0))) B.1 B.2.1 dX4_copyFrom_75 (by decide) ?_
    refine lv_aload_n B.1 B.2.1 dX4_copyFrom_76 rfl (lv_at hl 0 rfl) ?_
    refine gf_X4_21 B Y 4 rfl rfl dX4_copyFrom_77 ?_
    refine b_copyi (n' := q) (h := fun j => iI ((cpz (G2 1) (G 1) q) j)) (B' := [[(nk2, .inr (6, [.ref (na2 0), .ref (na2 1), .ref (na2 2), .int (iI (((q : Nat) : Int))), .int (iI (so2))]))], [((na2 0), .inl (τ 0, cap2, .inl (fun j => iI ((G2 0) j))))], [((na2 1), .inl (τ 0, cap2, .inl (fun j => iI ((G2 1) j))))], [((na2 2), .inl (τ 0, cap2, .inl (fun j => iI ((G2 2) j))))], [(nk, .inr (6, [.ref (na 0), .ref (na 1), .ref (na 2), .int (iI ((q : Nat) : Int)), .int (iI (so2))]))], [((na 0), .inl (τ 0, cap, .inl (fun j => iI ((cpz (G2 0) (G 0) q) j))))], [((na 1), .inl (τ 0, cap, .inl (fun j => iI ((cpz (G2 1) (G 1) q) j))))], [((na 2), .inl (τ 0, cap, .inl (fun j => iI ((G 2) j))))]]) B Y q_654 q_622 q_621 q_18 hl.1 2 6 rfl rfl (iI_pos (by omega)) (iI_clamp (by omega)) (by omega) (by omega) cpz_ok rfl (Nat.le_of_ble_eq_true rfl) (Nat.le_of_ble_eq_true rfl) dX4_copyFrom_80 (fun H locs Y => ?_)
    refine lv_aload_n B.1 B.2.1 dX4_copyFrom_83 rfl (lv_at hl 1 rfl) ?_
    refine gf_X4_18 B Y 0 rfl rfl dX4_copyFrom_84 ?_
    refine lv_iconst (v := (iI (0))) B.1 B.2.1 dX4_copyFrom_87 (by decide) ?_
    refine lv_aload_n B.1 B.2.1 dX4_copyFrom_88 rfl (lv_at hl 0 rfl) ?_
    refine gf_X4_18 B Y 4 rfl rfl dX4_copyFrom_89 ?_
    refine lv_iconst (v := (iI (0))) B.1 B.2.1 dX4_copyFrom_92 (by decide) ?_
    refine lv_aload_n B.1 B.2.1 dX4_copyFrom_93 rfl (lv_at hl 0 rfl) ?_
    refine gf_X4_21 B Y 4 rfl rfl dX4_copyFrom_94 ?_
    refine b_copyi (n' := q) (h := fun j => iI ((cpz (G2 2) (G 2) q) j)) (B' := [[(nk2, .inr (6, [.ref (na2 0), .ref (na2 1), .ref (na2 2), .int (iI (((q : Nat) : Int))), .int (iI (so2))]))], [((na2 0), .inl (τ 0, cap2, .inl (fun j => iI ((G2 0) j))))], [((na2 1), .inl (τ 0, cap2, .inl (fun j => iI ((G2 1) j))))], [((na2 2), .inl (τ 0, cap2, .inl (fun j => iI ((G2 2) j))))], [(nk, .inr (6, [.ref (na 0), .ref (na 1), .ref (na 2), .int (iI ((q : Nat) : Int)), .int (iI (so2))]))], [((na 0), .inl (τ 0, cap, .inl (fun j => iI ((cpz (G2 0) (G 0) q) j))))], [((na 1), .inl (τ 0, cap, .inl (fun j => iI ((cpz (G2 1) (G 1) q) j))))], [((na 2), .inl (τ 0, cap, .inl (fun j => iI ((cpz (G2 2) (G 2) q) j))))]]) B Y q_654 q_622 q_621 q_18 hl.1 3 7 rfl rfl (iI_pos (by omega)) (iI_clamp (by omega)) (by omega) (by omega) cpz_ok rfl (Nat.le_of_ble_eq_true rfl) (Nat.le_of_ble_eq_true rfl) dX4_copyFrom_97 (fun H locs Y => ?_)
    have Y : Wd D τ s A s.heap (bl [(ntB τ nk2 na2 cap2 G2 ((q : Nat) : Int) so2), [(nk, .inr (6, [.ref (na 0), .ref (na 1), .ref (na 2), .int (iI ((q : Nat) : Int)), .int (iI (so2))]))], [((na 0), .inl (τ 0, cap, .inl (fun j => iI ((cpz (G2 0) (G 0) q) j))))], [((na 1), .inl (τ 0, cap, .inl (fun j => iI ((cpz (G2 1) (G 1) q) j))))], [((na 2), .inl (τ 0, cap, .inl (fun j => iI ((cpz (G2 2) (G 2) q) j))))]]) _ _ := Y
    have Y : Wd D τ s A s.heap (bl [[(nk, .inr (6, [.ref (na 0), .ref (na 1), .ref (na 2), .int (iI ((q : Nat) : Int)), .int (iI (so2))]))], [((na 0), .inl (τ 0, cap, .inl (fun j => iI ((cpz (G2 0) (G 0) q) j))))], [((na 1), .inl (τ 0, cap, .inl (fun j => iI ((cpz (G2 1) (G 1) q) j))))], [((na 2), .inl (τ 0, cap, .inl (fun j => iI ((cpz (G2 2) (G 2) q) j))))], (ntB τ nk2 na2 cap2 G2 ((q : Nat) : Int) so2)]) _ _ := Y.pick [1, 2, 3, 4, 0] (by decide) rfl
    have Y : Wd D τ s A s.heap (bl [(ntB τ nk (vecA [(na 0), (na 1), (na 2)]) cap (vecF [cpz (G2 0) (G 0) q, cpz (G2 1) (G 1) q, cpz (G2 2) (G 2) q]) ((q : Nat) : Int) so2), (ntB τ nk2 na2 cap2 G2 ((q : Nat) : Int) so2)]) _ _ := Y
    have hr1 : NtRep (vecF [cpz (G2 0) (G 0) q, cpz (G2 1) (G 1) q, cpz (G2 2) (G 2) q]) ((q : Nat) : Int) so2 L := hR.cp (fun j hj => ntX_cp (G := G2) (g := G) (n := q) (by omega) rfl rfl rfl)
    exact eVz (w1 := fun (u : ((Nat → Nat) × Nat × (Nat → Nat → Int) × Int × Int)) => [(ntB τ nk u.1 u.2.1 u.2.2.1 u.2.2.2.1 u.2.2.2.2), (ntB τ nk2 na2 cap2 G2 ((q : Nat) : Int) so2)]) B hr hlk Y (vecA [(na 0), (na 1), (na 2)], cap, vecF [cpz (G2 0) (G 0) q, cpz (G2 1) (G 1) q, cpz (G2 2) (G 2) q], ((q : Nat) : Int), so2) ⟨hr1, hK, by show _ ≤ cap; omega⟩ [0, 1] (by decide) rfl (by show _ + _ + (4096 - cap) ≤ KC; omega) (by show _ + _ + (6 * (4096 - cap)) ≤ KS; omega) dX4_copyFrom_100
  · have c1 := mt (iI_le (a := ((q : Nat) : Int)) (b := ((cap : Nat) : Int)) (by omega) (by omega) (by omega) (by omega)).mpr c1
    refine lv_aload_n B.1 B.2.1 dX4_copyFrom_12 rfl (lv_at hl 0 rfl) ?_
    refine lv_aload_n B.1 B.2.1 dX4_copyFrom_13 rfl (lv_at hl 1 rfl) ?_
    refine gf_X4_9 B Y 0 rfl rfl dX4_copyFrom_14 ?_
    refine b_alen (v := (iI ((cap2 : Nat) : Int))) B Y 1 rfl 0 rfl (iI_nat _) dX4_copyFrom_17 ?_
    have hku := hK.up hK2 (by omega)
    have Y : Wd D τ s A s.heap (bl [[(nk, .inr (6, [.ref (na 0), .ref (na 1), .ref (na 2), .int (iI (ct)), .int (iI (so))]))], [((na 0), .inl (τ 0, cap, .inl (fun j => iI ((G 0) j))))], [((na 1), .inl (τ 0, cap, .inl (fun j => iI ((G 1) j))))], [((na 2), .inl (τ 0, cap, .inl (fun j => iI ((G 2) j))))], [(nk2, .inr (6, [.ref (na2 0), .ref (na2 1), .ref (na2 2), .int (iI (((q : Nat) : Int))), .int (iI (so2))]))], [((na2 0), .inl (τ 0, cap2, .inl (fun j => iI ((G2 0) j))))], [((na2 1), .inl (τ 0, cap2, .inl (fun j => iI ((G2 1) j))))], [((na2 2), .inl (τ 0, cap2, .inl (fun j => iI ((G2 2) j))))]]) _ _ := Y.pick [4, 5, 6, 7, 0, 1, 2, 3] (by decide) rfl
    have Y : Wd D τ s A s.heap (bl [(ntB τ nk na cap G ct so), [(nk2, .inr (6, [.ref (na2 0), .ref (na2 1), .ref (na2 2), .int (iI (((q : Nat) : Int))), .int (iI (so2))]))], [((na2 0), .inl (τ 0, cap2, .inl (fun j => iI ((G2 0) j))))], [((na2 1), .inl (τ 0, cap2, .inl (fun j => iI ((G2 1) j))))], [((na2 2), .inl (τ 0, cap2, .inl (fun j => iI ((G2 2) j))))]]) _ _ := Y
    refine qVz (Cs := [(ntB τ nk na cap G ct so)]) (Rs := [[(nk2, .inr (6, [.ref (na2 0), .ref (na2 1), .ref (na2 2), .int (iI (((q : Nat) : Int))), .int (iI (so2))]))], [((na2 0), .inl (τ 0, cap2, .inl (fun j => iI ((G2 0) j))))], [((na2 1), .inl (τ 0, cap2, .inl (fun j => iI ((G2 1) j))))], [((na2 2), .inl (τ 0, cap2, .inl (fun j => iI ((G2 2) j))))]]) (pcn := 3) (psn := 3 * cap2) (xc := 4096 - cap2) (xs := 6 * (4096 - cap2)) Y [0] [1, 2, 3, 4] (by decide) rfl hz1 hz2 (by omega) (by omega) (fun hz hf => cVbz (As := [.int (iI ((cap2 : Nat) : Int))]) (rest := []) (q0 := 0) B Y [0] (by decide) rfl (k_X4_widen l D τ _ _ _ _ nk na cap G ct so hK cap2 (by omega) (by omega)) rfl rfl q_636 q_638 qp_4 q_8 q_639 rfl rfl hd_X4_widen ⟨(Nat.le_of_ble_eq_true rfl), (Nat.le_of_ble_eq_true rfl)⟩ rfl hl.1 rfl (Nat.le_of_ble_eq_true rfl) dX4_copyFrom_18 hz hf) (fun na3 H locs cells slots hw Y hz1 hz2 => ?_)
    have Y : Wd D τ s A s.heap (bl [(ntB τ nk na3 cap2 (fun i => cpz (G i) (fun _ => 0) cap) ct so), [(nk2, .inr (6, [.ref (na2 0), .ref (na2 1), .ref (na2 2), .int (iI (((q : Nat) : Int))), .int (iI (so2))]))], [((na2 0), .inl (τ 0, cap2, .inl (fun j => iI ((G2 0) j))))], [((na2 1), .inl (τ 0, cap2, .inl (fun j => iI ((G2 1) j))))], [((na2 2), .inl (τ 0, cap2, .inl (fun j => iI ((G2 2) j))))]]) _ _ := Y
    have Y : Wd D τ s A s.heap (bl [[(nk, .inr (6, [.ref (na3 0), .ref (na3 1), .ref (na3 2), .int (iI (ct)), .int (iI (so))]))], [((na3 0), .inl (τ 0, cap2, .inl (fun j => iI (((fun i => cpz (G i) (fun _ => 0) cap) 0) j))))], [((na3 1), .inl (τ 0, cap2, .inl (fun j => iI (((fun i => cpz (G i) (fun _ => 0) cap) 1) j))))], [((na3 2), .inl (τ 0, cap2, .inl (fun j => iI (((fun i => cpz (G i) (fun _ => 0) cap) 2) j))))], [(nk2, .inr (6, [.ref (na2 0), .ref (na2 1), .ref (na2 2), .int (iI (((q : Nat) : Int))), .int (iI (so2))]))], [((na2 0), .inl (τ 0, cap2, .inl (fun j => iI ((G2 0) j))))], [((na2 1), .inl (τ 0, cap2, .inl (fun j => iI ((G2 1) j))))], [((na2 2), .inl (τ 0, cap2, .inl (fun j => iI ((G2 2) j))))]]) _ _ := Y
    refine lv_aload_n B.1 B.2.1 dX4_copyFrom_21 rfl (lv_at hl 0 rfl) ?_
    refine lv_iconst (v := (iI (0))) B.1 B.2.1 dX4_copyFrom_22 (by decide) ?_
    refine lv_aload_n B.1 B.2.1 dX4_copyFrom_23 rfl (lv_at hl 1 rfl) ?_
    refine gf_X4_21 B Y 4 rfl rfl dX4_copyFrom_24 ?_
    refine lv_aload_n B.1 B.2.1 dX4_copyFrom_27 rfl (lv_at hl 0 rfl) ?_
    refine gf_X4_9 B Y 0 rfl rfl dX4_copyFrom_28 ?_
    refine b_alen (v := (iI ((cap2 : Nat) : Int))) B Y 1 rfl 0 rfl (iI_nat _) dX4_copyFrom_31 ?_
    refine t_mmin (v := (iI ((q : Nat) : Int))) B q_652 q_618 q_1 q_619 hl.1 (Nat.le_of_ble_eq_true rfl) (Nat.le_of_ble_eq_true rfl) (by show _ ≤ KC - s.heap.size; omega) (by show _ ≤ KS - totS s.heap; omega) (by rw [iI_mn (by omega) (by omega) (by omega) (by omega)] <;> congr 1 <;> omega) dX4_copyFrom_32 ?_
    refine t_mmax (v := (iI ((q : Nat) : Int))) B q_653 q_629 q_1 q_630 hl.1 (Nat.le_of_ble_eq_true rfl) (Nat.le_of_ble_eq_true rfl) (by show _ ≤ KC - s.heap.size; omega) (by show _ ≤ KS - totS s.heap; omega) (by rw [iI_mx (by omega) (by omega) (by omega) (by omega)] <;> congr 1 <;> omega) dX4_copyFrom_35 ?_
    refine pf_X4_21 (B' := [[(nk, .inr (6, [.ref (na3 0), .ref (na3 1), .ref (na3 2), .int (iI ((q : Nat) : Int)), .int (iI (so))]))], [((na3 0), .inl (τ 0, cap2, .inl (fun j => iI (((fun i => cpz (G i) (fun _ => 0) cap) 0) j))))], [((na3 1), .inl (τ 0, cap2, .inl (fun j => iI (((fun i => cpz (G i) (fun _ => 0) cap) 1) j))))], [((na3 2), .inl (τ 0, cap2, .inl (fun j => iI (((fun i => cpz (G i) (fun _ => 0) cap) 2) j))))], [(nk2, .inr (6, [.ref (na2 0), .ref (na2 1), .ref (na2 2), .int (iI (((q : Nat) : Int))), .int (iI (so2))]))], [((na2 0), .inl (τ 0, cap2, .inl (fun j => iI ((G2 0) j))))], [((na2 1), .inl (τ 0, cap2, .inl (fun j => iI ((G2 1) j))))], [((na2 2), .inl (τ 0, cap2, .inl (fun j => iI ((G2 2) j))))]]) B Y 0 rfl (Nat.le_of_ble_eq_true rfl) rfl dX4_copyFrom_38 (fun H locs Y => ?_)
    refine lv_aload_n B.1 B.2.1 dX4_copyFrom_41 rfl (lv_at hl 0 rfl) ?_
    refine lv_aload_n B.1 B.2.1 dX4_copyFrom_42 rfl (lv_at hl 1 rfl) ?_
    refine gf_X4_26 B Y 4 rfl rfl dX4_copyFrom_43 ?_
    refine pf_X4_26 (B' := [[(nk, .inr (6, [.ref (na3 0), .ref (na3 1), .ref (na3 2), .int (iI ((q : Nat) : Int)), .int (iI (so2))]))], [((na3 0), .inl (τ 0, cap2, .inl (fun j => iI (((fun i => cpz (G i) (fun _ => 0) cap) 0) j))))], [((na3 1), .inl (τ 0, cap2, .inl (fun j => iI (((fun i => cpz (G i) (fun _ => 0) cap) 1) j))))], [((na3 2), .inl (τ 0, cap2, .inl (fun j => iI (((fun i => cpz (G i) (fun _ => 0) cap) 2) j))))], [(nk2, .inr (6, [.ref (na2 0), .ref (na2 1), .ref (na2 2), .int (iI (((q : Nat) : Int))), .int (iI (so2))]))], [((na2 0), .inl (τ 0, cap2, .inl (fun j => iI ((G2 0) j))))], [((na2 1), .inl (τ 0, cap2, .inl (fun j => iI ((G2 1) j))))], [((na2 2), .inl (τ 0, cap2, .inl (fun j => iI ((G2 2) j))))]]) B Y 0 rfl (Nat.le_of_ble_eq_true rfl) rfl dX4_copyFrom_46 (fun H locs Y => ?_)
    refine lv_aload_n B.1 B.2.1 dX4_copyFrom_49 rfl (lv_at hl 1 rfl) ?_
    refine gf_X4_9 B Y 4 rfl rfl dX4_copyFrom_50 ?_
    refine lv_iconst (v := (iI (0))) B.1 B.2.1 dX4_copyFrom_53 (by decide) ?_
    refine lv_aload_n B.1 B.2.1 dX4_copyFrom_54 rfl (lv_at hl 0 rfl) ?_
    refine gf_X4_9 B Y 0 rfl rfl dX4_copyFrom_55 ?_
    refine lv_iconst (v := (iI (0))) B.1 B.2.1 dX4_copyFrom_58 (by decide) ?_
    refine lv_aload_n B.1 B.2.1 dX4_copyFrom_59 rfl (lv_at hl 0 rfl) ?_
    refine gf_X4_21 B Y 0 rfl rfl dX4_copyFrom_60 ?_
    refine b_copyi (n' := q) (h := fun j => iI ((cpz (G2 0) ((fun i => cpz (G i) (fun _ => 0) cap) 0) q) j)) (B' := [[(nk, .inr (6, [.ref (na3 0), .ref (na3 1), .ref (na3 2), .int (iI ((q : Nat) : Int)), .int (iI (so2))]))], [((na3 0), .inl (τ 0, cap2, .inl (fun j => iI ((cpz (G2 0) ((fun i => cpz (G i) (fun _ => 0) cap) 0) q) j))))], [((na3 1), .inl (τ 0, cap2, .inl (fun j => iI (((fun i => cpz (G i) (fun _ => 0) cap) 1) j))))], [((na3 2), .inl (τ 0, cap2, .inl (fun j => iI (((fun i => cpz (G i) (fun _ => 0) cap) 2) j))))], [(nk2, .inr (6, [.ref (na2 0), .ref (na2 1), .ref (na2 2), .int (iI (((q : Nat) : Int))), .int (iI (so2))]))], [((na2 0), .inl (τ 0, cap2, .inl (fun j => iI ((G2 0) j))))], [((na2 1), .inl (τ 0, cap2, .inl (fun j => iI ((G2 1) j))))], [((na2 2), .inl (τ 0, cap2, .inl (fun j => iI ((G2 2) j))))]]) B Y q_654 q_622 q_621 q_18 hl.1 5 1 rfl rfl (iI_pos (by omega)) (iI_clamp (by omega)) (by omega) (by omega) cpz_ok rfl (Nat.le_of_ble_eq_true rfl) (Nat.le_of_ble_eq_true rfl) dX4_copyFrom_63 (fun H locs Y => ?_)
    refine lv_aload_n B.1 B.2.1 dX4_copyFrom_66 rfl (lv_at hl 1 rfl) ?_
    refine gf_X4_15 B Y 4 rfl rfl dX4_copyFrom_67 ?_
    refine lv_iconst (v := (iI (0))) B.1 B.2.1 dX4_copyFrom_70 (by decide) ?_
    refine lv_aload_n B.1 B.2.1 dX4_copyFrom_71 rfl (lv_at hl 0 rfl) ?_
    refine gf_X4_15 B Y 0 rfl rfl dX4_copyFrom_72 ?_
    refine lv_iconst (v := (iI (0))) B.1 B.2.1 dX4_copyFrom_75 (by decide) ?_
    refine lv_aload_n B.1 B.2.1 dX4_copyFrom_76 rfl (lv_at hl 0 rfl) ?_
    refine gf_X4_21 B Y 0 rfl rfl dX4_copyFrom_77 ?_
    refine b_copyi (n' := q) (h := fun j => iI ((cpz (G2 1) ((fun i => cpz (G i) (fun _ => 0) cap) 1) q) j)) (B' := [[(nk, .inr (6, [.ref (na3 0), .ref (na3 1), .ref (na3 2), .int (iI ((q : Nat) : Int)), .int (iI (so2))]))], [((na3 0), .inl (τ 0, cap2, .inl (fun j => iI ((cpz (G2 0) ((fun i => cpz (G i) (fun _ => 0) cap) 0) q) j))))], [((na3 1), .inl (τ 0, cap2, .inl (fun j => iI ((cpz (G2 1) ((fun i => cpz (G i) (fun _ => 0) cap) 1) q) j))))], [((na3 2), .inl (τ 0, cap2, .inl (fun j => iI (((fun i => cpz (G i) (fun _ => 0) cap) 2) j))))], [(nk2, .inr (6, [.ref (na2 0), .ref (na2 1), .ref (na2 2), .int (iI (((q : Nat) : Int))), .int (iI (so2))]))], [((na2 0), .inl (τ 0, cap2, .inl (fun j => iI ((G2 0) j))))], [((na2 1), .inl (τ 0, cap2, .inl (fun j => iI ((G2 1) j))))], [((na2 2), .inl (τ 0, cap2, .inl (fun j => iI ((G2 2) j))))]]) B Y q_654 q_622 q_621 q_18 hl.1 6 2 rfl rfl (iI_pos (by omega)) (iI_clamp (by omega)) (by omega) (by omega) cpz_ok rfl (Nat.le_of_ble_eq_true rfl) (Nat.le_of_ble_eq_true rfl) dX4_copyFrom_80 (fun H locs Y => ?_)
    refine lv_aload_n B.1 B.2.1 dX4_copyFrom_83 rfl (lv_at hl 1 rfl) ?_
    refine gf_X4_18 B Y 4 rfl rfl dX4_copyFrom_84 ?_
    refine lv_iconst (v := (iI (0))) B.1 B.2.1 dX4_copyFrom_87 (by decide) ?_
    refine lv_aload_n B.1 B.2.1 dX4_copyFrom_88 rfl (lv_at hl 0 rfl) ?_
    refine gf_X4_18 B Y 0 rfl rfl dX4_copyFrom_89 ?_
    refine lv_iconst (v := (iI (0))) B.1 B.2.1 dX4_copyFrom_92 (by decide) ?_
    refine lv_aload_n B.1 B.2.1 dX4_copyFrom_93 rfl (lv_at hl 0 rfl) ?_
    refine gf_X4_21 B Y 0 rfl rfl dX4_copyFrom_94 ?_
    refine b_copyi (n' := q) (h := fun j => iI ((cpz (G2 2) ((fun i => cpz (G i) (fun _ => 0) cap) 2) q) j)) (B' := [[(nk, .inr (6, [.ref (na3 0), .ref (na3 1), .ref (na3 2), .int (iI ((q : Nat) : Int)), .int (iI (so2))]))], [((na3 0), .inl (τ 0, cap2, .inl (fun j => iI ((cpz (G2 0) ((fun i => cpz (G i) (fun _ => 0) cap) 0) q) j))))], [((na3 1), .inl (τ 0, cap2, .inl (fun j => iI ((cpz (G2 1) ((fun i => cpz (G i) (fun _ => 0) cap) 1) q) j))))], [((na3 2), .inl (τ 0, cap2, .inl (fun j => iI ((cpz (G2 2) ((fun i => cpz (G i) (fun _ => 0) cap) 2) q) j))))], [(nk2, .inr (6, [.ref (na2 0), .ref (na2 1), .ref (na2 2), .int (iI (((q : Nat) : Int))), .int (iI (so2))]))], [((na2 0), .inl (τ 0, cap2, .inl (fun j => iI ((G2 0) j))))], [((na2 1), .inl (τ 0, cap2, .inl (fun j => iI ((G2 1) j))))], [((na2 2), .inl (τ 0, cap2, .inl (fun j => iI ((G2 2) j))))]]) B Y q_654 q_622 q_621 q_18 hl.1 7 3 rfl rfl (iI_pos (by omega)) (iI_clamp (by omega)) (by omega) (by omega) cpz_ok rfl (Nat.le_of_ble_eq_true rfl) (Nat.le_of_ble_eq_true rfl) dX4_copyFrom_97 (fun H locs Y => ?_)
    have Y : Wd D τ s A s.heap (bl [[(nk2, .inr (6, [.ref (na2 0), .ref (na2 1), .ref (na2 2), .int (iI (((q : Nat) : Int))), .int (iI (so2))]))], [((na2 0), .inl (τ 0, cap2, .inl (fun j => iI ((G2 0) j))))], [((na2 1), .inl (τ 0, cap2, .inl (fun j => iI ((G2 1) j))))], [((na2 2), .inl (τ 0, cap2, .inl (fun j => iI ((G2 2) j))))], [(nk, .inr (6, [.ref (na3 0), .ref (na3 1), .ref (na3 2), .int (iI ((q : Nat) : Int)), .int (iI (so2))]))], [((na3 0), .inl (τ 0, cap2, .inl (fun j => iI ((cpz (G2 0) ((fun i => cpz (G i) (fun _ => 0) cap) 0) q) j))))], [((na3 1), .inl (τ 0, cap2, .inl (fun j => iI ((cpz (G2 1) ((fun i => cpz (G i) (fun _ => 0) cap) 1) q) j))))], [((na3 2), .inl (τ 0, cap2, .inl (fun j => iI ((cpz (G2 2) ((fun i => cpz (G i) (fun _ => 0) cap) 2) q) j))))]]) _ _ := Y.pick [4, 5, 6, 7, 0, 1, 2, 3] (by decide) rfl
    have Y : Wd D τ s A s.heap (bl [(ntB τ nk2 na2 cap2 G2 ((q : Nat) : Int) so2), [(nk, .inr (6, [.ref (na3 0), .ref (na3 1), .ref (na3 2), .int (iI ((q : Nat) : Int)), .int (iI (so2))]))], [((na3 0), .inl (τ 0, cap2, .inl (fun j => iI ((cpz (G2 0) ((fun i => cpz (G i) (fun _ => 0) cap) 0) q) j))))], [((na3 1), .inl (τ 0, cap2, .inl (fun j => iI ((cpz (G2 1) ((fun i => cpz (G i) (fun _ => 0) cap) 1) q) j))))], [((na3 2), .inl (τ 0, cap2, .inl (fun j => iI ((cpz (G2 2) ((fun i => cpz (G i) (fun _ => 0) cap) 2) q) j))))]]) _ _ := Y
    have Y : Wd D τ s A s.heap (bl [[(nk, .inr (6, [.ref (na3 0), .ref (na3 1), .ref (na3 2), .int (iI ((q : Nat) : Int)), .int (iI (so2))]))], [((na3 0), .inl (τ 0, cap2, .inl (fun j => iI ((cpz (G2 0) ((fun i => cpz (G i) (fun _ => 0) cap) 0) q) j))))], [((na3 1), .inl (τ 0, cap2, .inl (fun j => iI ((cpz (G2 1) ((fun i => cpz (G i) (fun _ => 0) cap) 1) q) j))))], [((na3 2), .inl (τ 0, cap2, .inl (fun j => iI ((cpz (G2 2) ((fun i => cpz (G i) (fun _ => 0) cap) 2) q) j))))], (ntB τ nk2 na2 cap2 G2 ((q : Nat) : Int) so2)]) _ _ := Y.pick [1, 2, 3, 4, 0] (by decide) rfl
    have Y : Wd D τ s A s.heap (bl [(ntB τ nk (vecA [(na3 0), (na3 1), (na3 2)]) cap2 (vecF [cpz (G2 0) ((fun i => cpz (G i) (fun _ => 0) cap) 0) q, cpz (G2 1) ((fun i => cpz (G i) (fun _ => 0) cap) 1) q, cpz (G2 2) ((fun i => cpz (G i) (fun _ => 0) cap) 2) q]) ((q : Nat) : Int) so2), (ntB τ nk2 na2 cap2 G2 ((q : Nat) : Int) so2)]) _ _ := Y
    have hr1 : NtRep (vecF [cpz (G2 0) ((fun i => cpz (G i) (fun _ => 0) cap) 0) q, cpz (G2 1) ((fun i => cpz (G i) (fun _ => 0) cap) 1) q, cpz (G2 2) ((fun i => cpz (G i) (fun _ => 0) cap) 2) q]) ((q : Nat) : Int) so2 L := hR.cp (fun j hj => ntX_cp (G := G2) (g := (fun i => cpz (G i) (fun _ => 0) cap)) (n := q) (by omega) rfl rfl rfl)
    exact eVz (w1 := fun (u : ((Nat → Nat) × Nat × (Nat → Nat → Int) × Int × Int)) => [(ntB τ nk u.1 u.2.1 u.2.2.1 u.2.2.2.1 u.2.2.2.2), (ntB τ nk2 na2 cap2 G2 ((q : Nat) : Int) so2)]) B hr hlk Y (vecA [(na3 0), (na3 1), (na3 2)], cap2, vecF [cpz (G2 0) ((fun i => cpz (G i) (fun _ => 0) cap) 0) q, cpz (G2 1) ((fun i => cpz (G i) (fun _ => 0) cap) 1) q, cpz (G2 2) ((fun i => cpz (G i) (fun _ => 0) cap) 2) q], ((q : Nat) : Int), so2) ⟨hr1, hK2, by show _ ≤ cap2; omega⟩ [0, 1] (by decide) rfl (by show _ + _ + (4096 - cap2) ≤ KC; omega) (by show _ + _ + (6 * (4096 - cap2)) ≤ KS; omega) dX4_copyFrom_100

