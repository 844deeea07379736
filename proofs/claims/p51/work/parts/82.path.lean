theorem SbR0 : SbR (jnX []) 16 (fun _ => (0 : Int32)) := ⟨by decide, by decide, fun j hj => absurd hj (Nat.not_lt_zero j), fun _ => (by decide : fits .byte (.int (0 : Int32)) = true)⟩
theorem pathX_split (cv : Nat → Nat) : (((List.range (1 + cv 0 % 4)).map (lkX cv) ++ (List.range (cv 13 % 4)).map (sdX cv)) ++ [lfX cv]) ++ [poX cv] = pathX cv := by
  unfold pathX
  simp only [List.append_assoc, List.cons_append, List.nil_append]
theorem rng_s (f : Nat → SX) (k : Nat) : (List.range (k + 1)).map f = (List.range k).map f ++ [f k] := by
  rw [List.range_succ, List.map_append]; rfl
theorem lks_len (cv : Nat → Nat) (n : Nat) : (jnX ((List.range n).map (lkX cv))).length ≤ 31 * n := by
  have h := jnX_len ((List.range n).map (lkX cv)) (fun x hx => by
    obtain ⟨k, -, rfl⟩ := List.mem_map.mp hx
    exact lkX_ok cv k)
  rwa [List.length_map, List.length_range] at h
theorem sds_ok (cv : Nat → Nat) (n k : Nat) : ∀ x ∈ (List.range n).map (lkX cv) ++ (List.range k).map (sdX cv), SOk x := fun x hx => by
  rcases List.mem_append.mp hx with h | h
  · obtain ⟨k, -, rfl⟩ := List.mem_map.mp h
    exact lkX_ok cv k
  · obtain ⟨k, -, rfl⟩ := List.mem_map.mp h
    exact sdX_ok cv k
theorem sds_len (cv : Nat → Nat) (n k : Nat) : (jnX ((List.range n).map (lkX cv) ++ (List.range k).map (sdX cv))).length ≤ 31 * (n + k) := by
  have h := jnX_len _ (sds_ok cv n k)
  rwa [List.length_append, List.length_map, List.length_range, List.length_map, List.length_range] at h
theorem sdl_len (cv : Nat → Nat) (n k : Nat) : (jnX (((List.range n).map (lkX cv) ++ (List.range k).map (sdX cv)) ++ [lfX cv])).length ≤ 31 * (n + k + 1) := by
  have h := jnX_len (((List.range n).map (lkX cv) ++ (List.range k).map (sdX cv)) ++ [lfX cv]) (fun x hx => by
    rcases List.mem_append.mp hx with h | h
    · exact sds_ok cv n k x h
    · rw [List.mem_singleton.mp h]; exact lfX_ok cv)
  rwa [List.length_append, List.length_append, List.length_map, List.length_range, List.length_map, List.length_range] at h
theorem rng_ne {f : Nat → SX} {n : Nat} (h : n ≠ 0) : (List.range n).map f ≠ [] := fun e => h (by
  have e := congrArg List.length e
  rwa [List.length_map, List.length_range] at e)
set_option maxHeartbeats 8000000 in
set_option maxRecDepth 100000 in
theorem h_path (l : Launch) (D : va_G) (τ : Nat → ClassId) (sz T0 KC KS : Nat) (K : Nat → Nat) (bs Ln : Nat) (xs : Nat → Int32) (hLn : Ln ≤ 260) : Met l yL_path (Cond.code yL_path cL_path 4 (some (.object "java/lang/String")) :: wALL) { frames := 6, cells := KC - sz, slots := KS - T0, locals := 174 } (PzE (EL K bs Ln xs) D τ (bl []) sz T0 [.ref bs] KC KS (60) (100000)) (va_Qq (fun (r : Option Nat) (u : (Nat × Nat × (Nat → Int32))) => r = some u.1 ∧ ∀ j : Nat, j < (jnX (pathX (cellN xs Ln))).length → u.2.2 j = iI ((jnX (pathX (cellN xs Ln))).getD j 0)) (Bz D (va_A (bl []) sz) (fun (u : (Nat × Nat × (Nat → Int32))) => [[(u.1, .inr (0, [.ref u.2.1, .int (iI (0)), .int (iI (0)), .int (iI (0))]))], [(u.2.1, .inl (τ 1, (jnX (pathX (cellN xs Ln))).length, .inl (u.2.2)))]]) KC KS (fun (u : (Nat × Nat × (Nat → Int32))) => 0) (fun (u : (Nat × Nat × (Nat → Int32))) => 0)) (va_A (bl []) sz)) (KC - sz) (KS - T0) (va_A (bl []) sz) := by
  refine bodyZE (by decide +kernel) (Nat.le_of_ble_eq_true rfl) (fun p e s m below meth c ls B hr hlk hin hsz hT0 hz1 hz2 Y hL hl => ?_)
  have hl : lv_has ls 4 [(0, .ref bs)] := hl
  have B : CallFix p m c cL_path 4 s _ wALL RL := B
  generalize va_A (bl []) sz = A at Y hL ⊢
  have hK := hL.1
  have hE := hK.1
  have z12 : (ksZ 12).length = 0 := by decide
  have z13 : (ksZ 13).length = 1 := by decide
  have z14 : (ksZ 14).length = 5 := by decide
  have z15 : (ksZ 15).length = 6 := by decide
  have z16 : (ksZ 16).length = 5 := by decide
  have z17 : (ksZ 17).length = 6 := by decide
  have z18 : (ksZ 18).length = 8 := by decide
  refine b_new (ci := 1) (fs := [.null, .int 0, .int 0, .int 0]) B Y inJ4 tyJ4_ok q_1273 q_1274 q_14 rfl nwJ4 (by show _ ≤ KC - s.heap.size; omega) (by show _ ≤ KS - totS s.heap; omega) dL_path_0 (fun sb H Y => ?_)
  have Y : Wd D τ s A s.heap (bl [[(sb, .inr (1, [.null, .int 0, .int 0, .int 0]))]]) _ _ := Y
  refine lv_dup B.1 B.2.1 dL_path_3 rfl ?_
  refine qV (Cs := [[(sb, .inr (1, [.null, .int 0, .int 0, .int 0]))]]) (Rs := []) Y [0] [] (by decide) rfl (cIE (As := []) (rest := [.ref sb]) (KJ.ok K) hK B Y [0] (by decide) rfl (k4_init l D τ _ K sb) q_1275 q_1276 q_14 q_1277 rfl rfl rfl hd_J4_init_da8c8 ⟨(Nat.le_of_ble_eq_true rfl), (Nat.le_of_ble_eq_true rfl)⟩ rfl hl.1 rfl (Nat.le_of_ble_eq_true rfl) dL_path_4 ⟨by show _ ≤ KC - s.heap.size; omega, by show _ ≤ KS - totS s.heap; omega⟩) (fun u6 H locs hw Y => ?_)
  have Y : Wd D τ s A s.heap (bl [[(sb, .inr (1, [.ref u6, .int (iI (0)), .int (iI (0)), .int (iI (0))]))], [(u6, .inl (τ 1, 16, .inl (fun _ => 0)))]]) _ _ := Y
  refine lv_astore_n (lv' := [(1, .ref sb), (0, .ref bs)]) B.1 B.2.1 dL_path_7 rfl hl (by decide) rfl (fun ls hl => ?_)
  obtain ⟨nl, hnl⟩ : ∃ n : Nat, n = 1 + cellN xs Ln 0 % 4 := ⟨_, rfl⟩
  refine lv_iconst (v := (iI (1))) B.1 B.2.1 dL_path_8 (by decide) ?_
  refine lv_aload_n B.1 B.2.1 dL_path_9 rfl (lv_at hl 1 rfl) ?_
  refine lv_iconst (v := (iI (0))) B.1 B.2.1 dL_path_10 (by decide) ?_
  refine qI (Cs := []) (Rs := [[(sb, .inr (1, [.ref u6, .int (iI (0)), .int (iI (0)), .int (iI (0))]))], [(u6, .inl (τ 1, 16, .inl (fun _ => 0)))]]) Y [] [0, 1] (by decide) rfl (cSE (As := [.ref bs, .int (iI (0))]) (rest := [.int (iI (1))]) (EL.ok K bs Ln xs) hL B Y [] (by decide) rfl (h_cell l D τ _ K bs Ln xs 0 (by omega) hLn) q_687 q_688 q_0 q_689 rfl rfl hd_L_cell ⟨(Nat.le_of_ble_eq_true rfl), (Nat.le_of_ble_eq_true rfl)⟩ rfl hl.1 rfl (Nat.le_of_ble_eq_true rfl) dL_path_11 ⟨by show _ ≤ KC - s.heap.size; omega, by show _ ≤ KS - totS s.heap; omega⟩) (fun r u H locs hw Y => ?_)
  subst hw
  have hcn1 := cellN_lt xs Ln 0
  have Y : Wd D τ s A s.heap (bl [[(sb, .inr (1, [.ref u6, .int (iI (0)), .int (iI (0)), .int (iI (0))]))], [(u6, .inl (τ 1, 16, .inl (fun _ => 0)))]]) _ _ := Y
  refine lv_iconst (v := (iI (4))) B.1 B.2.1 dL_path_14 (by decide) ?_
  refine lv_irem B.1 B.2.1 dL_path_15 (by decide) ?_
  refine lv_cv (v := (iI ((((cellN xs Ln 0) % 4) : Nat) : Int))) ((iI_rem (by omega) (by omega) (by decide) (by decide)).trans (congrArg iI (Int.natCast_emod (cellN xs Ln 0) 4).symm)) ?_
  refine lv_iadd B.1 B.2.1 dL_path_16 ?_
  refine lv_cv (v := (iI ((nl : Nat) : Int))) ((iI_add _ _).trans (congrArg iI (by rw [hnl]; rfl))) ?_
  refine lv_istore_n (lv' := [(2, .int (iI ((nl : Nat) : Int))), (1, .ref sb), (0, .ref bs)]) B.1 B.2.1 dL_path_17 rfl hl (by decide) rfl (fun ls hl => ?_)
  refine lv_iconst (v := (iI (0))) B.1 B.2.1 dL_path_18 (by decide) ?_
  refine lv_istore_n (lv' := [(3, .int (iI (0))), (2, .int (iI ((nl : Nat) : Int))), (1, .ref sb), (0, .ref bs)]) B.1 B.2.1 dL_path_19 rfl hl (by decide) rfl (fun ls hl => ?_)
  have hl : lv_has ls 4 [(0, .ref bs), (1, .ref sb), (2, .int (iI ((nl : Nat) : Int))), (3, .int (iI ((0 : Nat) : Int)))] := lv_sub hl [3, 2, 1, 0] rfl
  have hnl4 : nl ≤ 4 := by omega
  have Y : Wd D τ s A s.heap (bl [[(sb, .inr (1, [.ref u6, .int (iI (0)), .int (iI (0)), .int (iI ((((jnX ((List.range 0).map (lkX (cellN xs Ln)))).length : Nat) : Int)))]))], [(u6, .inl (τ 1, 16, .inl (fun _ => 0)))]]) _ _ := Y
  refine loopZ (n := nl) (P := fun (i : Nat) (H : Heap) (locs : List Loc) (ls : Array Slot) (cells slots : Nat) => ∃ w6 : Nat × Nat × (Nat → Int32), (SbR (jnX ((List.range i).map (lkX (cellN xs Ln)))) w6.2.1 w6.2.2) ∧ lv_has ls 4 [(0, .ref bs), (1, .ref sb), (2, .int (iI ((nl : Nat) : Int))), (3, .int (iI ((i : Nat) : Int)))] ∧ Wd D τ s A s.heap (bl [[(sb, .inr (1, [.ref w6.1, .int (iI (0)), .int (iI (0)), .int (iI ((((jnX ((List.range i).map (lkX (cellN xs Ln)))).length : Nat) : Int)))]))], [(w6.1, .inl (τ 1, w6.2.1, .inl (w6.2.2)))]]) H locs ∧ s.heap.size + cells + (7 * (4 - i) + 21) ≤ KC ∧ totS s.heap + slots + (2006 * (7 * (4 - i)) + 2006 * 19 + 1006) ≤ KS) 0 (Nat.zero_le _) ⟨(u6, 16, fun _ => (0 : Int32)), SbR0, lv_sub hl [0, 1, 2, 3] rfl, Y.pick [0, 1] (by decide) rfl, by omega, by omega⟩ (fun H locs ls cells slots hP => ?_) (fun i hlt H locs ls cells slots hP ih => ?_)
  · obtain ⟨w6, hS6, hl, Y, hz1, hz2⟩ := hP
    refine lv_iload_n B.1 B.2.1 dL_path_20 rfl (lv_at hl 3 rfl) ?_
    refine lv_iload_n B.1 B.2.1 dL_path_21 rfl (lv_at hl 2 rfl) ?_
    refine lv_icmp_ge (tgt := 137) B.1 B.2.1 dL_path_22 (by decide) (fun _ => ?_) (fun h => absurd ((iI_le (a := ((nl : Nat) : Int)) (b := ((nl : Nat) : Int)) (by omega) (by omega) (by omega) (by omega)).mpr (by omega)) h) 
    refine lv_iconst (v := (iI (0))) B.1 B.2.1 dL_path_137 (by decide) ?_
    refine lv_istore_n (lv' := [(3, .int (iI (0))), (0, .ref bs), (1, .ref sb), (2, .int (iI ((nl : Nat) : Int)))]) B.1 B.2.1 dL_path_138 rfl hl (by decide) rfl (fun ls hl => ?_)
    have hl : lv_has ls 4 [(0, .ref bs), (1, .ref sb), (3, .int (iI ((0 : Nat) : Int)))] := lv_sub hl [1, 2, 0] rfl
    obtain ⟨ns, hns⟩ : ∃ n : Nat, n = cellN xs Ln 13 % 4 := ⟨_, rfl⟩
    have e20 : (jnX ((List.range nl).map (lkX (cellN xs Ln)))) = (jnX (((List.range nl).map (lkX (cellN xs Ln))) ++ (List.range 0).map (sdX (cellN xs Ln)))) := by rw [List.range_zero, List.map_nil, List.append_nil]
    rw [e20] at Y hS6
    have Y : Wd D τ s A s.heap (bl [[(sb, .inr (1, [.ref w6.1, .int (iI (0)), .int (iI (0)), .int (iI ((((jnX (((List.range nl).map (lkX (cellN xs Ln))) ++ (List.range 0).map (sdX (cellN xs Ln)))).length : Nat) : Int)))]))], [(w6.1, .inl (τ 1, w6.2.1, .inl (w6.2.2)))]]) _ _ := Y
    have hns4 : ns ≤ 3 := by omega
    refine loopZ (n := ns) (P := fun (k : Nat) (H : Heap) (locs : List Loc) (ls : Array Slot) (cells slots : Nat) => ∃ w6 : Nat × Nat × (Nat → Int32), (SbR (jnX (((List.range nl).map (lkX (cellN xs Ln))) ++ (List.range k).map (sdX (cellN xs Ln)))) w6.2.1 w6.2.2) ∧ lv_has ls 4 [(0, .ref bs), (1, .ref sb), (3, .int (iI ((k : Nat) : Int)))] ∧ Wd D τ s A s.heap (bl [[(sb, .inr (1, [.ref w6.1, .int (iI (0)), .int (iI (0)), .int (iI ((((jnX (((List.range nl).map (lkX (cellN xs Ln))) ++ (List.range k).map (sdX (cellN xs Ln)))).length : Nat) : Int)))]))], [(w6.1, .inl (τ 1, w6.2.1, .inl (w6.2.2)))]]) H locs ∧ s.heap.size + cells + (5 * (3 - k) + 6) ≤ KC ∧ totS s.heap + slots + (2006 * (5 * (3 - k) + 4) + 1006) ≤ KS) 0 (Nat.zero_le _) ⟨w6, hS6, lv_sub hl [0, 1, 2] rfl, Y.pick [0, 1] (by decide) rfl, by omega, by omega⟩ (fun H locs ls cells slots hP => ?_) (fun k hlt_k H locs ls cells slots hP ih_k => ?_)
    · obtain ⟨w6, hS6, hl, Y, hz1, hz2⟩ := hP
      have hle := sds_len (cellN xs Ln) nl ns
      obtain ⟨T2, hT2⟩ : ∃ t : List Int, t = (jnX (((List.range nl).map (lkX (cellN xs Ln))) ++ (List.range ns).map (sdX (cellN xs Ln)))) := ⟨_, rfl⟩
      rw [← hT2] at Y hS6 hle
      have Y : Wd D τ s A s.heap (bl [[(sb, .inr (1, [.ref w6.1, .int (iI (0)), .int (iI (0)), .int (iI (((T2.length : Nat) : Int)))]))], [(w6.1, .inl (τ 1, w6.2.1, .inl (w6.2.2)))]]) _ _ := Y
      have hlf := sdl_len (cellN xs Ln) nl ns
      have hdl1 := dgL_le (10 + cellN xs Ln 26 % 100)
      have hdl2 := dgL_le (cellN xs Ln 27 % 3)
      have hne : (((List.range nl).map (lkX (cellN xs Ln))) ++ (List.range ns).map (sdX (cellN xs Ln))) ≠ [] := fun e => rng_ne (f := lkX (cellN xs Ln)) (n := nl) (by omega) (List.append_eq_nil_iff.mp e).1
      refine lv_iload_n B.1 B.2.1 dL_path_139 rfl (lv_at hl 2 rfl) ?_
      refine lv_aload_n B.1 B.2.1 dL_path_140 rfl (lv_at hl 0 rfl) ?_
      refine lv_bipush (v := (iI (13))) B.1 B.2.1 dL_path_141 (by decide) ?_
      refine qI (Cs := []) (Rs := [[(sb, .inr (1, [.ref w6.1, .int (iI (0)), .int (iI (0)), .int (iI (((T2.length : Nat) : Int)))]))], [(w6.1, .inl (τ 1, w6.2.1, .inl (w6.2.2)))]]) Y [] [0, 1] (by decide) rfl (cSE (As := [.ref bs, .int (iI (13))]) (rest := [.int (iI ((ns : Nat) : Int))]) (EL.ok K bs Ln xs) hL B Y [] (by decide) rfl (h_cell l D τ _ K bs Ln xs 13 (by omega) hLn) q_687 q_688 q_0 q_689 rfl rfl hd_L_cell ⟨(Nat.le_of_ble_eq_true rfl), (Nat.le_of_ble_eq_true rfl)⟩ rfl hl.1 rfl (Nat.le_of_ble_eq_true rfl) dL_path_143 ⟨by show _ ≤ KC - s.heap.size; omega, by show _ ≤ KS - totS s.heap; omega⟩) (fun r u H locs hw Y => ?_)
      subst hw
      have hcn3 := cellN_lt xs Ln 13
      have Y : Wd D τ s A s.heap (bl [[(sb, .inr (1, [.ref w6.1, .int (iI (0)), .int (iI (0)), .int (iI (((T2.length : Nat) : Int)))]))], [(w6.1, .inl (τ 1, w6.2.1, .inl (w6.2.2)))]]) _ _ := Y
      refine lv_iconst (v := (iI (4))) B.1 B.2.1 dL_path_146 (by decide) ?_
      refine lv_irem B.1 B.2.1 dL_path_147 (by decide) ?_
      refine lv_cv (v := (iI ((ns : Nat) : Int))) ((iI_rem (by omega) (by omega) (by decide) (by decide)).trans (congrArg iI (by rw [hns]; exact (Int.natCast_emod _ 4).symm))) ?_
      refine lv_icmp_ge (tgt := 224) B.1 B.2.1 dL_path_148 (by decide) (fun _ => ?_) (fun h => absurd ((iI_le (a := ((ns : Nat) : Int)) (b := ((ns : Nat) : Int)) (by omega) (by omega) (by omega) (by omega)).mpr (by omega)) h) 
      refine lv_aload_n B.1 B.2.1 dL_path_224 rfl (lv_at hl 1 rfl) ?_
      refine va_ldcS (tx := ";life ") B.1 B.2.1 B.2.2.2.1 (hE.lit 17 (by decide)) dL_path_225 ?_
      refine qQ (Cs := [[(sb, .inr (1, [.ref w6.1, .int (iI (0)), .int (iI (0)), .int (iI (((T2.length : Nat) : Int)))]))], [(w6.1, .inl (τ 1, w6.2.1, .inl (w6.2.2)))]]) (Rs := []) Y [0, 1] [] (by decide) rfl (cVE (As := [.ref (K (2 * 17))]) (rest := []) (q0 := 0) (KJ.ok K) hK B Y [0, 1] (by decide) rfl (k4_appStr l D τ _ K sb w6.1 w6.2.1 T2 (w6.2.2) hS6 17 (by decide) (by omega)) rfl rfl q_1305 q_1306 q_1307 q_14 q_1308 rfl rfl hd_J4_append_15ec4 ⟨(Nat.le_of_ble_eq_true rfl), (Nat.le_of_ble_eq_true rfl)⟩ rfl hl.1 rfl (Nat.le_of_ble_eq_true rfl) dL_path_227 ⟨by show _ ≤ KC - s.heap.size; omega, by show _ ≤ KS - totS s.heap; omega⟩) (fun r u6 H locs hw Y => ?_)
      obtain ⟨hw, hS6⟩ := hw
      subst hw
      obtain ⟨T4, hT4⟩ : ∃ t : List Int, t = T2 ++ ksZ 17 := ⟨_, rfl⟩
      rw [← hT4] at Y hS6
      have hLT4 : T4.length = T2.length + (ksZ 17).length := by rw [hT4, List.length_append]
      have Y : Wd D τ s A s.heap (bl [[(sb, .inr (1, [.ref u6.1, .int (iI (0)), .int (iI (0)), .int (iI (((T4.length : Nat) : Int)))]))], [(u6.1, .inl (τ 1, u6.2.1, .inl (u6.2.2)))]]) _ _ := Y
      show W _ _ _ _ _ _ _ _ _ _ _ _ _ _ _ (F0 m _ ls (.ref sb :: []))
      refine lv_bipush (v := (iI (10))) B.1 B.2.1 dL_path_230 (by decide) ?_
      refine lv_aload_n B.1 B.2.1 dL_path_232 rfl (lv_at hl 0 rfl) ?_
      refine lv_bipush (v := (iI (26))) B.1 B.2.1 dL_path_233 (by decide) ?_
      refine qI (Cs := []) (Rs := [[(sb, .inr (1, [.ref u6.1, .int (iI (0)), .int (iI (0)), .int (iI (((T4.length : Nat) : Int)))]))], [(u6.1, .inl (τ 1, u6.2.1, .inl (u6.2.2)))]]) Y [] [0, 1] (by decide) rfl (cSE (As := [.ref bs, .int (iI (26))]) (rest := [.int (iI (10)), .ref sb]) (EL.ok K bs Ln xs) hL B Y [] (by decide) rfl (h_cell l D τ _ K bs Ln xs 26 (by omega) hLn) q_687 q_688 q_0 q_689 rfl rfl hd_L_cell ⟨(Nat.le_of_ble_eq_true rfl), (Nat.le_of_ble_eq_true rfl)⟩ rfl hl.1 rfl (Nat.le_of_ble_eq_true rfl) dL_path_235 ⟨by show _ ≤ KC - s.heap.size; omega, by show _ ≤ KS - totS s.heap; omega⟩) (fun r u H locs hw Y => ?_)
      subst hw
      have hcn5 := cellN_lt xs Ln 26
      have Y : Wd D τ s A s.heap (bl [[(sb, .inr (1, [.ref u6.1, .int (iI (0)), .int (iI (0)), .int (iI (((T4.length : Nat) : Int)))]))], [(u6.1, .inl (τ 1, u6.2.1, .inl (u6.2.2)))]]) _ _ := Y
      refine lv_bipush (v := (iI (100))) B.1 B.2.1 dL_path_238 (by decide) ?_
      refine lv_irem B.1 B.2.1 dL_path_240 (by decide) ?_
      refine lv_cv (v := (iI ((((cellN xs Ln 26) % 100) : Nat) : Int))) ((iI_rem (by omega) (by omega) (by decide) (by decide)).trans (congrArg iI (Int.natCast_emod (cellN xs Ln 26) 100).symm)) ?_
      refine lv_iadd B.1 B.2.1 dL_path_241 ?_
      refine lv_cv (v := (iI (((10 + ((cellN xs Ln 26) % 100)) : Nat) : Int))) (iI_add _ _) ?_
      refine qQ (Cs := [[(sb, .inr (1, [.ref u6.1, .int (iI (0)), .int (iI (0)), .int (iI (((T4.length : Nat) : Int)))]))], [(u6.1, .inl (τ 1, u6.2.1, .inl (u6.2.2)))]]) (Rs := []) Y [0, 1] [] (by decide) rfl (cVE (As := [.int (iI (((10 + ((cellN xs Ln 26) % 100)) : Nat) : Int))]) (rest := []) (q0 := 0) (KJ.ok K) hK B Y [0, 1] (by decide) rfl (k4_appInt l D τ _ K sb u6.1 u6.2.1 T4 (u6.2.2) hS6 (10 + ((cellN xs Ln 26) % 100)) (by omega) (by omega)) rfl rfl q_1397 q_1398 q_1399 q_14 q_1400 rfl rfl hd_J4_append_bf812 ⟨(Nat.le_of_ble_eq_true rfl), (Nat.le_of_ble_eq_true rfl)⟩ rfl hl.1 rfl (Nat.le_of_ble_eq_true rfl) dL_path_242 ⟨by show _ ≤ KC - s.heap.size; omega, by show _ ≤ KS - totS s.heap; omega⟩) (fun r u6 H locs hw Y => ?_)
      obtain ⟨hw, hS6⟩ := hw
      subst hw
      obtain ⟨T6, hT6⟩ : ∃ t : List Int, t = T4 ++ dgL (10 + ((cellN xs Ln 26) % 100)) := ⟨_, rfl⟩
      rw [← hT6] at Y hS6
      have hLT6 : T6.length = T4.length + (dgL (10 + ((cellN xs Ln 26) % 100))).length := by rw [hT6, List.length_append]
      have Y : Wd D τ s A s.heap (bl [[(sb, .inr (1, [.ref u6.1, .int (iI (0)), .int (iI (0)), .int (iI (((T6.length : Nat) : Int)))]))], [(u6.1, .inl (τ 1, u6.2.1, .inl (u6.2.2)))]]) _ _ := Y
      show W _ _ _ _ _ _ _ _ _ _ _ _ _ _ _ (F0 m _ ls (.ref sb :: []))
      refine va_ldcS (tx := ";policy ") B.1 B.2.1 B.2.2.2.1 (hE.lit 18 (by decide)) dL_path_245 ?_
      refine qQ (Cs := [[(sb, .inr (1, [.ref u6.1, .int (iI (0)), .int (iI (0)), .int (iI (((T6.length : Nat) : Int)))]))], [(u6.1, .inl (τ 1, u6.2.1, .inl (u6.2.2)))]]) (Rs := []) Y [0, 1] [] (by decide) rfl (cVE (As := [.ref (K (2 * 18))]) (rest := []) (q0 := 0) (KJ.ok K) hK B Y [0, 1] (by decide) rfl (k4_appStr l D τ _ K sb u6.1 u6.2.1 T6 (u6.2.2) hS6 18 (by decide) (by omega)) rfl rfl q_1305 q_1306 q_1307 q_14 q_1308 rfl rfl hd_J4_append_15ec4 ⟨(Nat.le_of_ble_eq_true rfl), (Nat.le_of_ble_eq_true rfl)⟩ rfl hl.1 rfl (Nat.le_of_ble_eq_true rfl) dL_path_247 ⟨by show _ ≤ KC - s.heap.size; omega, by show _ ≤ KS - totS s.heap; omega⟩) (fun r u6 H locs hw Y => ?_)
      obtain ⟨hw, hS6⟩ := hw
      subst hw
      obtain ⟨T7, hT7⟩ : ∃ t : List Int, t = T6 ++ ksZ 18 := ⟨_, rfl⟩
      rw [← hT7] at Y hS6
      have hLT7 : T7.length = T6.length + (ksZ 18).length := by rw [hT7, List.length_append]
      have Y : Wd D τ s A s.heap (bl [[(sb, .inr (1, [.ref u6.1, .int (iI (0)), .int (iI (0)), .int (iI (((T7.length : Nat) : Int)))]))], [(u6.1, .inl (τ 1, u6.2.1, .inl (u6.2.2)))]]) _ _ := Y
      show W _ _ _ _ _ _ _ _ _ _ _ _ _ _ _ (F0 m _ ls (.ref sb :: []))
      refine lv_aload_n B.1 B.2.1 dL_path_250 rfl (lv_at hl 0 rfl) ?_
      refine lv_bipush (v := (iI (27))) B.1 B.2.1 dL_path_251 (by decide) ?_
      refine qI (Cs := []) (Rs := [[(sb, .inr (1, [.ref u6.1, .int (iI (0)), .int (iI (0)), .int (iI (((T7.length : Nat) : Int)))]))], [(u6.1, .inl (τ 1, u6.2.1, .inl (u6.2.2)))]]) Y [] [0, 1] (by decide) rfl (cSE (As := [.ref bs, .int (iI (27))]) (rest := [.ref sb]) (EL.ok K bs Ln xs) hL B Y [] (by decide) rfl (h_cell l D τ _ K bs Ln xs 27 (by omega) hLn) q_687 q_688 q_0 q_689 rfl rfl hd_L_cell ⟨(Nat.le_of_ble_eq_true rfl), (Nat.le_of_ble_eq_true rfl)⟩ rfl hl.1 rfl (Nat.le_of_ble_eq_true rfl) dL_path_253 ⟨by show _ ≤ KC - s.heap.size; omega, by show _ ≤ KS - totS s.heap; omega⟩) (fun r u H locs hw Y => ?_)
      subst hw
      have hcn8 := cellN_lt xs Ln 27
      have Y : Wd D τ s A s.heap (bl [[(sb, .inr (1, [.ref u6.1, .int (iI (0)), .int (iI (0)), .int (iI (((T7.length : Nat) : Int)))]))], [(u6.1, .inl (τ 1, u6.2.1, .inl (u6.2.2)))]]) _ _ := Y
      refine lv_iconst (v := (iI (3))) B.1 B.2.1 dL_path_256 (by decide) ?_
      refine lv_irem B.1 B.2.1 dL_path_257 (by decide) ?_
      refine lv_cv (v := (iI ((((cellN xs Ln 27) % 3) : Nat) : Int))) ((iI_rem (by omega) (by omega) (by decide) (by decide)).trans (congrArg iI (Int.natCast_emod (cellN xs Ln 27) 3).symm)) ?_
      refine qQ (Cs := [[(sb, .inr (1, [.ref u6.1, .int (iI (0)), .int (iI (0)), .int (iI (((T7.length : Nat) : Int)))]))], [(u6.1, .inl (τ 1, u6.2.1, .inl (u6.2.2)))]]) (Rs := []) Y [0, 1] [] (by decide) rfl (cVE (As := [.int (iI ((((cellN xs Ln 27) % 3) : Nat) : Int))]) (rest := []) (q0 := 0) (KJ.ok K) hK B Y [0, 1] (by decide) rfl (k4_appInt l D τ _ K sb u6.1 u6.2.1 T7 (u6.2.2) hS6 ((cellN xs Ln 27) % 3) (by omega) (by omega)) rfl rfl q_1397 q_1398 q_1399 q_14 q_1400 rfl rfl hd_J4_append_bf812 ⟨(Nat.le_of_ble_eq_true rfl), (Nat.le_of_ble_eq_true rfl)⟩ rfl hl.1 rfl (Nat.le_of_ble_eq_true rfl) dL_path_258 ⟨by show _ ≤ KC - s.heap.size; omega, by show _ ≤ KS - totS s.heap; omega⟩) (fun r u6 H locs hw Y => ?_)
      obtain ⟨hw, hS6⟩ := hw
      subst hw
      obtain ⟨T9, hT9⟩ : ∃ t : List Int, t = T7 ++ dgL ((cellN xs Ln 27) % 3) := ⟨_, rfl⟩
      rw [← hT9] at Y hS6
      have hLT9 : T9.length = T7.length + (dgL ((cellN xs Ln 27) % 3)).length := by rw [hT9, List.length_append]
      have Y : Wd D τ s A s.heap (bl [[(sb, .inr (1, [.ref u6.1, .int (iI (0)), .int (iI (0)), .int (iI (((T9.length : Nat) : Int)))]))], [(u6.1, .inl (τ 1, u6.2.1, .inl (u6.2.2)))]]) _ _ := Y
      show W _ _ _ _ _ _ _ _ _ _ _ _ _ _ _ (F0 m _ ls (.ref sb :: []))
      have e1 : T9 = (jnX (pathX (cellN xs Ln))) := by
        have h1 := lfX_more (cellN xs Ln) (((List.range nl).map (lkX (cellN xs Ln))) ++ (List.range ns).map (sdX (cellN xs Ln))) hne
        have h2 := poX_more (cellN xs Ln) ((((List.range nl).map (lkX (cellN xs Ln))) ++ (List.range ns).map (sdX (cellN xs Ln))) ++ [lfX (cellN xs Ln)]) (fun e => hne (List.append_eq_nil_iff.mp e).1)
        rw [hT9, hT7, hT6, hT4, hT2]
        rw [← h1] at h2
        refine h2.trans ?_
        rw [← pathX_split (cellN xs Ln), ← hnl, ← hns]
      rw [e1] at Y hS6
      have Y : Wd D τ s A s.heap (bl [[(sb, .inr (1, [.ref u6.1, .int (iI (0)), .int (iI (0)), .int (iI ((((jnX (pathX (cellN xs Ln))).length : Nat) : Int)))]))], [(u6.1, .inl (τ 1, u6.2.1, .inl (u6.2.2)))]]) _ _ := Y
      refine qQ (Cs := [[(sb, .inr (1, [.ref u6.1, .int (iI (0)), .int (iI (0)), .int (iI ((((jnX (pathX (cellN xs Ln))).length : Nat) : Int)))]))], [(u6.1, .inl (τ 1, u6.2.1, .inl (u6.2.2)))]]) (Rs := []) Y [0, 1] [] (by decide) rfl (cVE (As := []) (rest := []) (q0 := 0) (KJ.ok K) hK B Y [0, 1] (by decide) rfl (k4_toString l D τ _ K sb u6.1 u6.2.1 (jnX (pathX (cellN xs Ln))) (u6.2.2) hS6) rfl rfl q_1439 q_1440 q_1441 q_14 q_1442 rfl rfl hd_J4_toString_0e30d ⟨(Nat.le_of_ble_eq_true rfl), (Nat.le_of_ble_eq_true rfl)⟩ rfl hl.1 rfl (Nat.le_of_ble_eq_true rfl) dL_path_261 ⟨by show _ ≤ KC - s.heap.size; omega, by show _ ≤ KS - totS s.heap; omega⟩) (fun r u7 H locs hw Y => ?_)
      obtain ⟨hw, hfu⟩ := hw
      subst hw
      have Y : Wd D τ s A s.heap (bl [[(sb, .inr (1, [.ref u6.1, .int (iI (0)), .int (iI (0)), .int (iI ((((jnX (pathX (cellN xs Ln))).length : Nat) : Int)))]))], [(u6.1, .inl (τ 1, u6.2.1, .inl (u6.2.2)))], [(u7.1, .inr (0, [.ref u7.2.1, .int (iI (0)), .int (iI (0)), .int (iI (0))]))], [(u7.2.1, .inl (τ 1, (jnX (pathX (cellN xs Ln))).length, .inl (u7.2.2)))]]) _ _ := Y
      show W _ _ _ _ _ _ _ _ _ _ _ _ _ _ _ (F0 m _ ls (.ref u7.1 :: []))
      exact eQz (r := some u7.1) B hr hlk Y u7 ⟨rfl, hfu⟩ [2, 3] (by decide) rfl (by omega) (by omega) dL_path_264
    · obtain ⟨w6, hS6, hl, Y, hz1, hz2⟩ := hP
      have hle := sds_len (cellN xs Ln) nl k
      obtain ⟨T10, hT10⟩ : ∃ t : List Int, t = (jnX (((List.range nl).map (lkX (cellN xs Ln))) ++ (List.range k).map (sdX (cellN xs Ln)))) := ⟨_, rfl⟩
      rw [← hT10] at Y hS6 hle
      have Y : Wd D τ s A s.heap (bl [[(sb, .inr (1, [.ref w6.1, .int (iI (0)), .int (iI (0)), .int (iI (((T10.length : Nat) : Int)))]))], [(w6.1, .inl (τ 1, w6.2.1, .inl (w6.2.2)))]]) _ _ := Y
      have hdl1 := dgL_le (1 + cellN xs Ln (14 + k) % 400)
      have hdl2 := dgL_le (cellN xs Ln (18 + k) % 256)
      have hne : (((List.range nl).map (lkX (cellN xs Ln))) ++ (List.range k).map (sdX (cellN xs Ln))) ≠ [] := fun e => rng_ne (f := lkX (cellN xs Ln)) (n := nl) (by omega) (List.append_eq_nil_iff.mp e).1
      refine lv_iload_n B.1 B.2.1 dL_path_139 rfl (lv_at hl 2 rfl) ?_
      refine lv_aload_n B.1 B.2.1 dL_path_140 rfl (lv_at hl 0 rfl) ?_
      refine lv_bipush (v := (iI (13))) B.1 B.2.1 dL_path_141 (by decide) ?_
      refine qI (Cs := []) (Rs := [[(sb, .inr (1, [.ref w6.1, .int (iI (0)), .int (iI (0)), .int (iI (((T10.length : Nat) : Int)))]))], [(w6.1, .inl (τ 1, w6.2.1, .inl (w6.2.2)))]]) Y [] [0, 1] (by decide) rfl (cSE (As := [.ref bs, .int (iI (13))]) (rest := [.int (iI ((k : Nat) : Int))]) (EL.ok K bs Ln xs) hL B Y [] (by decide) rfl (h_cell l D τ _ K bs Ln xs 13 (by omega) hLn) q_687 q_688 q_0 q_689 rfl rfl hd_L_cell ⟨(Nat.le_of_ble_eq_true rfl), (Nat.le_of_ble_eq_true rfl)⟩ rfl hl.1 rfl (Nat.le_of_ble_eq_true rfl) dL_path_143 ⟨by show _ ≤ KC - s.heap.size; omega, by show _ ≤ KS - totS s.heap; omega⟩) (fun r u H locs hw Y => ?_)
      subst hw
      have hcn11 := cellN_lt xs Ln 13
      have Y : Wd D τ s A s.heap (bl [[(sb, .inr (1, [.ref w6.1, .int (iI (0)), .int (iI (0)), .int (iI (((T10.length : Nat) : Int)))]))], [(w6.1, .inl (τ 1, w6.2.1, .inl (w6.2.2)))]]) _ _ := Y
      refine lv_iconst (v := (iI (4))) B.1 B.2.1 dL_path_146 (by decide) ?_
      refine lv_irem B.1 B.2.1 dL_path_147 (by decide) ?_
      refine lv_cv (v := (iI ((ns : Nat) : Int))) ((iI_rem (by omega) (by omega) (by decide) (by decide)).trans (congrArg iI (by rw [hns]; exact (Int.natCast_emod _ 4).symm))) ?_
      refine lv_icmp_ge (tgt := 224) B.1 B.2.1 dL_path_148 (by decide) (fun h => absurd h (mt (iI_le (a := ((ns : Nat) : Int)) (b := ((k : Nat) : Int)) (by omega) (by omega) (by omega) (by omega)).mp (by omega))) (fun _ => ?_)
      refine lv_aload_n B.1 B.2.1 dL_path_151 rfl (lv_at hl 1 rfl) ?_
      refine va_ldcS (tx := ";send ") B.1 B.2.1 B.2.2.2.1 (hE.lit 15 (by decide)) dL_path_152 ?_
      refine qQ (Cs := [[(sb, .inr (1, [.ref w6.1, .int (iI (0)), .int (iI (0)), .int (iI (((T10.length : Nat) : Int)))]))], [(w6.1, .inl (τ 1, w6.2.1, .inl (w6.2.2)))]]) (Rs := []) Y [0, 1] [] (by decide) rfl (cVE (As := [.ref (K (2 * 15))]) (rest := []) (q0 := 0) (KJ.ok K) hK B Y [0, 1] (by decide) rfl (k4_appStr l D τ _ K sb w6.1 w6.2.1 T10 (w6.2.2) hS6 15 (by decide) (by omega)) rfl rfl q_1305 q_1306 q_1307 q_14 q_1308 rfl rfl hd_J4_append_15ec4 ⟨(Nat.le_of_ble_eq_true rfl), (Nat.le_of_ble_eq_true rfl)⟩ rfl hl.1 rfl (Nat.le_of_ble_eq_true rfl) dL_path_154 ⟨by show _ ≤ KC - s.heap.size; omega, by show _ ≤ KS - totS s.heap; omega⟩) (fun r u6 H locs hw Y => ?_)
      obtain ⟨hw, hS6⟩ := hw
      subst hw
      obtain ⟨T12, hT12⟩ : ∃ t : List Int, t = T10 ++ ksZ 15 := ⟨_, rfl⟩
      rw [← hT12] at Y hS6
      have hLT12 : T12.length = T10.length + (ksZ 15).length := by rw [hT12, List.length_append]
      have Y : Wd D τ s A s.heap (bl [[(sb, .inr (1, [.ref u6.1, .int (iI (0)), .int (iI (0)), .int (iI (((T12.length : Nat) : Int)))]))], [(u6.1, .inl (τ 1, u6.2.1, .inl (u6.2.2)))]]) _ _ := Y
      show W _ _ _ _ _ _ _ _ _ _ _ _ _ _ _ (F0 m _ ls (.ref sb :: []))
      refine lv_iconst (v := (iI (1))) B.1 B.2.1 dL_path_157 (by decide) ?_
      refine lv_aload_n B.1 B.2.1 dL_path_158 rfl (lv_at hl 0 rfl) ?_
      refine lv_bipush (v := (iI (14))) B.1 B.2.1 dL_path_159 (by decide) ?_
      refine lv_iload_n B.1 B.2.1 dL_path_161 rfl (lv_at hl 2 rfl) ?_
      refine lv_iadd B.1 B.2.1 dL_path_162 ?_
      refine lv_cv (v := (iI (((14 + k) : Nat) : Int))) (iI_add _ _) ?_
      refine qI (Cs := []) (Rs := [[(sb, .inr (1, [.ref u6.1, .int (iI (0)), .int (iI (0)), .int (iI (((T12.length : Nat) : Int)))]))], [(u6.1, .inl (τ 1, u6.2.1, .inl (u6.2.2)))]]) Y [] [0, 1] (by decide) rfl (cSE (As := [.ref bs, .int (iI (((14 + k) : Nat) : Int))]) (rest := [.int (iI (1)), .ref sb]) (EL.ok K bs Ln xs) hL B Y [] (by decide) rfl (h_cell l D τ _ K bs Ln xs (14 + k) (by omega) hLn) q_687 q_688 q_0 q_689 rfl rfl hd_L_cell ⟨(Nat.le_of_ble_eq_true rfl), (Nat.le_of_ble_eq_true rfl)⟩ rfl hl.1 rfl (Nat.le_of_ble_eq_true rfl) dL_path_163 ⟨by show _ ≤ KC - s.heap.size; omega, by show _ ≤ KS - totS s.heap; omega⟩) (fun r u H locs hw Y => ?_)
      subst hw
      have hcn13 := cellN_lt xs Ln (14 + k)
      have Y : Wd D τ s A s.heap (bl [[(sb, .inr (1, [.ref u6.1, .int (iI (0)), .int (iI (0)), .int (iI (((T12.length : Nat) : Int)))]))], [(u6.1, .inl (τ 1, u6.2.1, .inl (u6.2.2)))]]) _ _ := Y
      refine lv_sipush (v := (iI (400))) B.1 B.2.1 dL_path_166 (by decide) ?_
      refine lv_irem B.1 B.2.1 dL_path_169 (by decide) ?_
      refine lv_cv (v := (iI ((((cellN xs Ln (14 + k)) % 400) : Nat) : Int))) ((iI_rem (by omega) (by omega) (by decide) (by decide)).trans (congrArg iI (Int.natCast_emod (cellN xs Ln (14 + k)) 400).symm)) ?_
      refine lv_iadd B.1 B.2.1 dL_path_170 ?_
      refine lv_cv (v := (iI (((1 + ((cellN xs Ln (14 + k)) % 400)) : Nat) : Int))) (iI_add _ _) ?_
      refine qQ (Cs := [[(sb, .inr (1, [.ref u6.1, .int (iI (0)), .int (iI (0)), .int (iI (((T12.length : Nat) : Int)))]))], [(u6.1, .inl (τ 1, u6.2.1, .inl (u6.2.2)))]]) (Rs := []) Y [0, 1] [] (by decide) rfl (cVE (As := [.int (iI (((1 + ((cellN xs Ln (14 + k)) % 400)) : Nat) : Int))]) (rest := []) (q0 := 0) (KJ.ok K) hK B Y [0, 1] (by decide) rfl (k4_appInt l D τ _ K sb u6.1 u6.2.1 T12 (u6.2.2) hS6 (1 + ((cellN xs Ln (14 + k)) % 400)) (by omega) (by omega)) rfl rfl q_1397 q_1398 q_1399 q_14 q_1400 rfl rfl hd_J4_append_bf812 ⟨(Nat.le_of_ble_eq_true rfl), (Nat.le_of_ble_eq_true rfl)⟩ rfl hl.1 rfl (Nat.le_of_ble_eq_true rfl) dL_path_171 ⟨by show _ ≤ KC - s.heap.size; omega, by show _ ≤ KS - totS s.heap; omega⟩) (fun r u6 H locs hw Y => ?_)
      obtain ⟨hw, hS6⟩ := hw
      subst hw
      obtain ⟨T14, hT14⟩ : ∃ t : List Int, t = T12 ++ dgL (1 + ((cellN xs Ln (14 + k)) % 400)) := ⟨_, rfl⟩
      rw [← hT14] at Y hS6
      have hLT14 : T14.length = T12.length + (dgL (1 + ((cellN xs Ln (14 + k)) % 400))).length := by rw [hT14, List.length_append]
      have Y : Wd D τ s A s.heap (bl [[(sb, .inr (1, [.ref u6.1, .int (iI (0)), .int (iI (0)), .int (iI (((T14.length : Nat) : Int)))]))], [(u6.1, .inl (τ 1, u6.2.1, .inl (u6.2.2)))]]) _ _ := Y
      show W _ _ _ _ _ _ _ _ _ _ _ _ _ _ _ (F0 m _ ls (.ref sb :: []))
      refine lv_bipush (v := (iI (32))) B.1 B.2.1 dL_path_174 (by decide) ?_
      refine qQ (Cs := [[(sb, .inr (1, [.ref u6.1, .int (iI (0)), .int (iI (0)), .int (iI (((T14.length : Nat) : Int)))]))], [(u6.1, .inl (τ 1, u6.2.1, .inl (u6.2.2)))]]) (Rs := []) Y [0, 1] [] (by decide) rfl (cVE (As := [.int (iI (32))]) (rest := []) (q0 := 0) (KJ.ok K) hK B Y [0, 1] (by decide) rfl (k4_appChr l D τ _ K sb u6.1 u6.2.1 T14 (u6.2.2) hS6 (32) (by omega) (by omega)) rfl rfl q_1422 q_1423 q_1424 q_14 q_1425 rfl rfl hd_J4_append_cf468 ⟨(Nat.le_of_ble_eq_true rfl), (Nat.le_of_ble_eq_true rfl)⟩ rfl hl.1 rfl (Nat.le_of_ble_eq_true rfl) dL_path_176 ⟨by show _ ≤ KC - s.heap.size; omega, by show _ ≤ KS - totS s.heap; omega⟩) (fun r u6 H locs hw Y => ?_)
      obtain ⟨hw, hS6⟩ := hw
      subst hw
      obtain ⟨T15, hT15⟩ : ∃ t : List Int, t = T14 ++ [32] := ⟨_, rfl⟩
      rw [← hT15] at Y hS6
      have hLT15 : T15.length = T14.length + 1 := by rw [hT15, List.length_append]; rfl
      have Y : Wd D τ s A s.heap (bl [[(sb, .inr (1, [.ref u6.1, .int (iI (0)), .int (iI (0)), .int (iI (((T15.length : Nat) : Int)))]))], [(u6.1, .inl (τ 1, u6.2.1, .inl (u6.2.2)))]]) _ _ := Y
      show W _ _ _ _ _ _ _ _ _ _ _ _ _ _ _ (F0 m _ ls (.ref sb :: []))
      refine lv_aload_n B.1 B.2.1 dL_path_179 rfl (lv_at hl 0 rfl) ?_
      refine lv_bipush (v := (iI (18))) B.1 B.2.1 dL_path_180 (by decide) ?_
      refine lv_iload_n B.1 B.2.1 dL_path_182 rfl (lv_at hl 2 rfl) ?_
      refine lv_iadd B.1 B.2.1 dL_path_183 ?_
      refine lv_cv (v := (iI (((18 + k) : Nat) : Int))) (iI_add _ _) ?_
      refine qI (Cs := []) (Rs := [[(sb, .inr (1, [.ref u6.1, .int (iI (0)), .int (iI (0)), .int (iI (((T15.length : Nat) : Int)))]))], [(u6.1, .inl (τ 1, u6.2.1, .inl (u6.2.2)))]]) Y [] [0, 1] (by decide) rfl (cSE (As := [.ref bs, .int (iI (((18 + k) : Nat) : Int))]) (rest := [.ref sb]) (EL.ok K bs Ln xs) hL B Y [] (by decide) rfl (h_cell l D τ _ K bs Ln xs (18 + k) (by omega) hLn) q_687 q_688 q_0 q_689 rfl rfl hd_L_cell ⟨(Nat.le_of_ble_eq_true rfl), (Nat.le_of_ble_eq_true rfl)⟩ rfl hl.1 rfl (Nat.le_of_ble_eq_true rfl) dL_path_184 ⟨by show _ ≤ KC - s.heap.size; omega, by show _ ≤ KS - totS s.heap; omega⟩) (fun r u H locs hw Y => ?_)
      subst hw
      have hcn16 := cellN_lt xs Ln (18 + k)
      have Y : Wd D τ s A s.heap (bl [[(sb, .inr (1, [.ref u6.1, .int (iI (0)), .int (iI (0)), .int (iI (((T15.length : Nat) : Int)))]))], [(u6.1, .inl (τ 1, u6.2.1, .inl (u6.2.2)))]]) _ _ := Y
      refine lv_sipush (v := (iI (256))) B.1 B.2.1 dL_path_187 (by decide) ?_
      refine lv_irem B.1 B.2.1 dL_path_190 (by decide) ?_
      refine lv_cv (v := (iI ((((cellN xs Ln (18 + k)) % 256) : Nat) : Int))) ((iI_rem (by omega) (by omega) (by decide) (by decide)).trans (congrArg iI (Int.natCast_emod (cellN xs Ln (18 + k)) 256).symm)) ?_
      refine qQ (Cs := [[(sb, .inr (1, [.ref u6.1, .int (iI (0)), .int (iI (0)), .int (iI (((T15.length : Nat) : Int)))]))], [(u6.1, .inl (τ 1, u6.2.1, .inl (u6.2.2)))]]) (Rs := []) Y [0, 1] [] (by decide) rfl (cVE (As := [.int (iI ((((cellN xs Ln (18 + k)) % 256) : Nat) : Int))]) (rest := []) (q0 := 0) (KJ.ok K) hK B Y [0, 1] (by decide) rfl (k4_appInt l D τ _ K sb u6.1 u6.2.1 T15 (u6.2.2) hS6 ((cellN xs Ln (18 + k)) % 256) (by omega) (by omega)) rfl rfl q_1397 q_1398 q_1399 q_14 q_1400 rfl rfl hd_J4_append_bf812 ⟨(Nat.le_of_ble_eq_true rfl), (Nat.le_of_ble_eq_true rfl)⟩ rfl hl.1 rfl (Nat.le_of_ble_eq_true rfl) dL_path_191 ⟨by show _ ≤ KC - s.heap.size; omega, by show _ ≤ KS - totS s.heap; omega⟩) (fun r u6 H locs hw Y => ?_)
      obtain ⟨hw, hS6⟩ := hw
      subst hw
      obtain ⟨T17, hT17⟩ : ∃ t : List Int, t = T15 ++ dgL ((cellN xs Ln (18 + k)) % 256) := ⟨_, rfl⟩
      rw [← hT17] at Y hS6
      have hLT17 : T17.length = T15.length + (dgL ((cellN xs Ln (18 + k)) % 256)).length := by rw [hT17, List.length_append]
      have Y : Wd D τ s A s.heap (bl [[(sb, .inr (1, [.ref u6.1, .int (iI (0)), .int (iI (0)), .int (iI (((T17.length : Nat) : Int)))]))], [(u6.1, .inl (τ 1, u6.2.1, .inl (u6.2.2)))]]) _ _ := Y
      show W _ _ _ _ _ _ _ _ _ _ _ _ _ _ _ (F0 m _ ls (.ref sb :: []))
      refine lv_aload_n B.1 B.2.1 dL_path_194 rfl (lv_at hl 0 rfl) ?_
      refine lv_bipush (v := (iI (22))) B.1 B.2.1 dL_path_195 (by decide) ?_
      refine lv_iload_n B.1 B.2.1 dL_path_197 rfl (lv_at hl 2 rfl) ?_
      refine lv_iadd B.1 B.2.1 dL_path_198 ?_
      refine lv_cv (v := (iI (((22 + k) : Nat) : Int))) (iI_add _ _) ?_
      refine qI (Cs := []) (Rs := [[(sb, .inr (1, [.ref u6.1, .int (iI (0)), .int (iI (0)), .int (iI (((T17.length : Nat) : Int)))]))], [(u6.1, .inl (τ 1, u6.2.1, .inl (u6.2.2)))]]) Y [] [0, 1] (by decide) rfl (cSE (As := [.ref bs, .int (iI (((22 + k) : Nat) : Int))]) (rest := [.ref sb]) (EL.ok K bs Ln xs) hL B Y [] (by decide) rfl (h_cell l D τ _ K bs Ln xs (22 + k) (by omega) hLn) q_687 q_688 q_0 q_689 rfl rfl hd_L_cell ⟨(Nat.le_of_ble_eq_true rfl), (Nat.le_of_ble_eq_true rfl)⟩ rfl hl.1 rfl (Nat.le_of_ble_eq_true rfl) dL_path_199 ⟨by show _ ≤ KC - s.heap.size; omega, by show _ ≤ KS - totS s.heap; omega⟩) (fun r u H locs hw Y => ?_)
      subst hw
      have hcn18 := cellN_lt xs Ln (22 + k)
      have Y : Wd D τ s A s.heap (bl [[(sb, .inr (1, [.ref u6.1, .int (iI (0)), .int (iI (0)), .int (iI (((T17.length : Nat) : Int)))]))], [(u6.1, .inl (τ 1, u6.2.1, .inl (u6.2.2)))]]) _ _ := Y
      refine lv_iconst (v := (iI (2))) B.1 B.2.1 dL_path_202 (by decide) ?_
      refine lv_irem B.1 B.2.1 dL_path_203 (by decide) ?_
      refine lv_cv (v := (iI ((((cellN xs Ln (22 + k)) % 2) : Nat) : Int))) ((iI_rem (by omega) (by omega) (by decide) (by decide)).trans (congrArg iI (Int.natCast_emod (cellN xs Ln (22 + k)) 2).symm)) ?_
      refine lv_if_ne (tgt := 212) B.1 B.2.1 dL_path_204 (by decide) (fun c1 => ?_) (fun c1 => ?_)
      · have c1 := mt (iI_eq0 (a := ((((cellN xs Ln (22 + k)) % 2) : Nat) : Int)) (by omega) (by omega)).mpr c1
        refine va_ldcS (tx := " firm") B.1 B.2.1 B.2.2.2.1 (hE.lit 16 (by decide)) dL_path_212 ?_
        refine qQ (Cs := [[(sb, .inr (1, [.ref u6.1, .int (iI (0)), .int (iI (0)), .int (iI (((T17.length : Nat) : Int)))]))], [(u6.1, .inl (τ 1, u6.2.1, .inl (u6.2.2)))]]) (Rs := []) Y [0, 1] [] (by decide) rfl (cVE (As := [.ref (K (2 * 16))]) (rest := []) (q0 := 0) (KJ.ok K) hK B Y [0, 1] (by decide) rfl (k4_appStr l D τ _ K sb u6.1 u6.2.1 T17 (u6.2.2) hS6 16 (by decide) (by omega)) rfl rfl q_1305 q_1306 q_1307 q_14 q_1308 rfl rfl hd_J4_append_15ec4 ⟨(Nat.le_of_ble_eq_true rfl), (Nat.le_of_ble_eq_true rfl)⟩ rfl hl.1 rfl (Nat.le_of_ble_eq_true rfl) dL_path_214 ⟨by show _ ≤ KC - s.heap.size; omega, by show _ ≤ KS - totS s.heap; omega⟩) (fun r u6 H locs hw Y => ?_)
        obtain ⟨hw, hS6⟩ := hw
        subst hw
        obtain ⟨T19, hT19⟩ : ∃ t : List Int, t = T17 ++ ksZ 16 := ⟨_, rfl⟩
        rw [← hT19] at Y hS6
        have hLT19 : T19.length = T17.length + (ksZ 16).length := by rw [hT19, List.length_append]
        have Y : Wd D τ s A s.heap (bl [[(sb, .inr (1, [.ref u6.1, .int (iI (0)), .int (iI (0)), .int (iI (((T19.length : Nat) : Int)))]))], [(u6.1, .inl (τ 1, u6.2.1, .inl (u6.2.2)))]]) _ _ := Y
        show W _ _ _ _ _ _ _ _ _ _ _ _ _ _ _ (F0 m _ ls (.ref sb :: []))
        refine lv_pop B.1 B.2.1 dL_path_217 rfl ?_
        refine lv_iinc (v := (iI (((k + 1) : Nat) : Int))) (lv' := [(3, .int (iI (((k + 1) : Nat) : Int))), (0, .ref bs), (1, .ref sb)]) B.1 B.2.1 dL_path_218 hl (k := 2) rfl (iI_inc _) (by decide) rfl (fun ls hl => ?_)
        refine lv_goto (tgt := 139) B.1 B.2.1 dL_path_221 (by decide) ?_
        have e1 : T19 = (jnX (((List.range nl).map (lkX (cellN xs Ln))) ++ (List.range (k + 1)).map (sdX (cellN xs Ln)))) := by
          have h1 := sdX_more (cellN xs Ln) (((List.range nl).map (lkX (cellN xs Ln))) ++ (List.range k).map (sdX (cellN xs Ln))) k hne 16 (by rw [if_neg (by omega)])
          rw [hT19, hT17, hT15, hT14, hT12, hT10]
          exact h1.trans (by rw [rng_s, List.append_assoc])
        rw [e1] at Y hS6
        have Y : Wd D τ s A s.heap (bl [[(sb, .inr (1, [.ref u6.1, .int (iI (0)), .int (iI (0)), .int (iI ((((jnX (((List.range nl).map (lkX (cellN xs Ln))) ++ (List.range (k + 1)).map (sdX (cellN xs Ln)))).length : Nat) : Int)))]))], [(u6.1, .inl (τ 1, u6.2.1, .inl (u6.2.2)))]]) _ _ := Y
        exact ih_k H locs ls _ _ ⟨u6, hS6, lv_sub hl [1, 2, 0] rfl, Y.pick [0, 1] (by decide) rfl, by omega, by omega⟩
      · have c1 := (iI_eq0 (a := ((((cellN xs Ln (22 + k)) % 2) : Nat) : Int)) (by omega) (by omega)).mp c1
        refine va_ldcS (tx := "") B.1 B.2.1 B.2.2.2.1 (hE.lit 12 (by decide)) dL_path_207 ?_
        refine lv_goto (tgt := 214) B.1 B.2.1 dL_path_209 (by decide) ?_
        refine qQ (Cs := [[(sb, .inr (1, [.ref u6.1, .int (iI (0)), .int (iI (0)), .int (iI (((T17.length : Nat) : Int)))]))], [(u6.1, .inl (τ 1, u6.2.1, .inl (u6.2.2)))]]) (Rs := []) Y [0, 1] [] (by decide) rfl (cVE (As := [.ref (K (2 * 12))]) (rest := []) (q0 := 0) (KJ.ok K) hK B Y [0, 1] (by decide) rfl (k4_appStr l D τ _ K sb u6.1 u6.2.1 T17 (u6.2.2) hS6 12 (by decide) (by omega)) rfl rfl q_1305 q_1306 q_1307 q_14 q_1308 rfl rfl hd_J4_append_15ec4 ⟨(Nat.le_of_ble_eq_true rfl), (Nat.le_of_ble_eq_true rfl)⟩ rfl hl.1 rfl (Nat.le_of_ble_eq_true rfl) dL_path_214 ⟨by show _ ≤ KC - s.heap.size; omega, by show _ ≤ KS - totS s.heap; omega⟩) (fun r u6 H locs hw Y => ?_)
        obtain ⟨hw, hS6⟩ := hw
        subst hw
        obtain ⟨T20, hT20⟩ : ∃ t : List Int, t = T17 ++ ksZ 12 := ⟨_, rfl⟩
        rw [← hT20] at Y hS6
        have hLT20 : T20.length = T17.length + (ksZ 12).length := by rw [hT20, List.length_append]
        have Y : Wd D τ s A s.heap (bl [[(sb, .inr (1, [.ref u6.1, .int (iI (0)), .int (iI (0)), .int (iI (((T20.length : Nat) : Int)))]))], [(u6.1, .inl (τ 1, u6.2.1, .inl (u6.2.2)))]]) _ _ := Y
        show W _ _ _ _ _ _ _ _ _ _ _ _ _ _ _ (F0 m _ ls (.ref sb :: []))
        refine lv_pop B.1 B.2.1 dL_path_217 rfl ?_
        refine lv_iinc (v := (iI (((k + 1) : Nat) : Int))) (lv' := [(3, .int (iI (((k + 1) : Nat) : Int))), (0, .ref bs), (1, .ref sb)]) B.1 B.2.1 dL_path_218 hl (k := 2) rfl (iI_inc _) (by decide) rfl (fun ls hl => ?_)
        refine lv_goto (tgt := 139) B.1 B.2.1 dL_path_221 (by decide) ?_
        have e1 : T20 = (jnX (((List.range nl).map (lkX (cellN xs Ln))) ++ (List.range (k + 1)).map (sdX (cellN xs Ln)))) := by
          have h1 := sdX_more (cellN xs Ln) (((List.range nl).map (lkX (cellN xs Ln))) ++ (List.range k).map (sdX (cellN xs Ln))) k hne 12 (by rw [if_pos (by omega)])
          rw [hT20, hT17, hT15, hT14, hT12, hT10]
          exact h1.trans (by rw [rng_s, List.append_assoc])
        rw [e1] at Y hS6
        have Y : Wd D τ s A s.heap (bl [[(sb, .inr (1, [.ref u6.1, .int (iI (0)), .int (iI (0)), .int (iI ((((jnX (((List.range nl).map (lkX (cellN xs Ln))) ++ (List.range (k + 1)).map (sdX (cellN xs Ln)))).length : Nat) : Int)))]))], [(u6.1, .inl (τ 1, u6.2.1, .inl (u6.2.2)))]]) _ _ := Y
        exact ih_k H locs ls _ _ ⟨u6, hS6, lv_sub hl [1, 2, 0] rfl, Y.pick [0, 1] (by decide) rfl, by omega, by omega⟩
  · obtain ⟨w6, hS6, hl, Y, hz1, hz2⟩ := hP
    have hle := lks_len (cellN xs Ln) i
    obtain ⟨T21, hT21⟩ : ∃ t : List Int, t = (jnX ((List.range i).map (lkX (cellN xs Ln)))) := ⟨_, rfl⟩
    rw [← hT21] at Y hS6 hle
    have Y : Wd D τ s A s.heap (bl [[(sb, .inr (1, [.ref w6.1, .int (iI (0)), .int (iI (0)), .int (iI (((T21.length : Nat) : Int)))]))], [(w6.1, .inl (τ 1, w6.2.1, .inl (w6.2.2)))]]) _ _ := Y
    have hdl1 := dgL_le (28 + cellN xs Ln (1 + i) % 1200)
    have hdl4 := dgL_le (28 + cellN xs Ln (1 + i) % 300)
    have hdl2 := dgL_le (1 + cellN xs Ln (5 + i) % 20)
    have hdl3 := dgL_le (2 + cellN xs Ln (9 + i) % 30)
    have hdl5 := dgL_le 0
    refine lv_iload_n B.1 B.2.1 dL_path_20 rfl (lv_at hl 3 rfl) ?_
    refine lv_iload_n B.1 B.2.1 dL_path_21 rfl (lv_at hl 2 rfl) ?_
    refine lv_icmp_ge (tgt := 137) B.1 B.2.1 dL_path_22 (by decide) (fun h => absurd h (mt (iI_le (a := ((nl : Nat) : Int)) (b := ((i : Nat) : Int)) (by omega) (by omega) (by omega) (by omega)).mp (by omega))) (fun _ => ?_)
    refine lv_aload_n B.1 B.2.1 dL_path_25 rfl (lv_at hl 1 rfl) ?_
    refine lv_iload_n B.1 B.2.1 dL_path_26 rfl (lv_at hl 3 rfl) ?_
    refine lv_if_ne (tgt := 35) B.1 B.2.1 dL_path_27 (by decide) (fun c2 => ?_) (fun c2 => ?_)
    · have c2 := mt (iI_eq0 (a := ((i : Nat) : Int)) (by omega) (by omega)).mpr c2
      refine va_ldcS (tx := ";") B.1 B.2.1 B.2.2.2.1 (hE.lit 13 (by decide)) dL_path_35 ?_
      refine qQ (Cs := [[(sb, .inr (1, [.ref w6.1, .int (iI (0)), .int (iI (0)), .int (iI (((T21.length : Nat) : Int)))]))], [(w6.1, .inl (τ 1, w6.2.1, .inl (w6.2.2)))]]) (Rs := []) Y [0, 1] [] (by decide) rfl (cVE (As := [.ref (K (2 * 13))]) (rest := []) (q0 := 0) (KJ.ok K) hK B Y [0, 1] (by decide) rfl (k4_appStr l D τ _ K sb w6.1 w6.2.1 T21 (w6.2.2) hS6 13 (by decide) (by omega)) rfl rfl q_1305 q_1306 q_1307 q_14 q_1308 rfl rfl hd_J4_append_15ec4 ⟨(Nat.le_of_ble_eq_true rfl), (Nat.le_of_ble_eq_true rfl)⟩ rfl hl.1 rfl (Nat.le_of_ble_eq_true rfl) dL_path_37 ⟨by show _ ≤ KC - s.heap.size; omega, by show _ ≤ KS - totS s.heap; omega⟩) (fun r u6 H locs hw Y => ?_)
      obtain ⟨hw, hS6⟩ := hw
      subst hw
      obtain ⟨T22, hT22⟩ : ∃ t : List Int, t = T21 ++ ksZ 13 := ⟨_, rfl⟩
      rw [← hT22] at Y hS6
      have hLT22 : T22.length = T21.length + (ksZ 13).length := by rw [hT22, List.length_append]
      have Y : Wd D τ s A s.heap (bl [[(sb, .inr (1, [.ref u6.1, .int (iI (0)), .int (iI (0)), .int (iI (((T22.length : Nat) : Int)))]))], [(u6.1, .inl (τ 1, u6.2.1, .inl (u6.2.2)))]]) _ _ := Y
      show W _ _ _ _ _ _ _ _ _ _ _ _ _ _ _ (F0 m _ ls (.ref sb :: []))
      refine va_ldcS (tx := "link ") B.1 B.2.1 B.2.2.2.1 (hE.lit 14 (by decide)) dL_path_40 ?_
      refine qQ (Cs := [[(sb, .inr (1, [.ref u6.1, .int (iI (0)), .int (iI (0)), .int (iI (((T22.length : Nat) : Int)))]))], [(u6.1, .inl (τ 1, u6.2.1, .inl (u6.2.2)))]]) (Rs := []) Y [0, 1] [] (by decide) rfl (cVE (As := [.ref (K (2 * 14))]) (rest := []) (q0 := 0) (KJ.ok K) hK B Y [0, 1] (by decide) rfl (k4_appStr l D τ _ K sb u6.1 u6.2.1 T22 (u6.2.2) hS6 14 (by decide) (by omega)) rfl rfl q_1305 q_1306 q_1307 q_14 q_1308 rfl rfl hd_J4_append_15ec4 ⟨(Nat.le_of_ble_eq_true rfl), (Nat.le_of_ble_eq_true rfl)⟩ rfl hl.1 rfl (Nat.le_of_ble_eq_true rfl) dL_path_42 ⟨by show _ ≤ KC - s.heap.size; omega, by show _ ≤ KS - totS s.heap; omega⟩) (fun r u6 H locs hw Y => ?_)
      obtain ⟨hw, hS6⟩ := hw
      subst hw
      obtain ⟨T23, hT23⟩ : ∃ t : List Int, t = T22 ++ ksZ 14 := ⟨_, rfl⟩
      rw [← hT23] at Y hS6
      have hLT23 : T23.length = T22.length + (ksZ 14).length := by rw [hT23, List.length_append]
      have Y : Wd D τ s A s.heap (bl [[(sb, .inr (1, [.ref u6.1, .int (iI (0)), .int (iI (0)), .int (iI (((T23.length : Nat) : Int)))]))], [(u6.1, .inl (τ 1, u6.2.1, .inl (u6.2.2)))]]) _ _ := Y
      show W _ _ _ _ _ _ _ _ _ _ _ _ _ _ _ (F0 m _ ls (.ref sb :: []))
      refine lv_bipush (v := (iI (28))) B.1 B.2.1 dL_path_45 (by decide) ?_
      refine lv_aload_n B.1 B.2.1 dL_path_47 rfl (lv_at hl 0 rfl) ?_
      refine lv_iconst (v := (iI (1))) B.1 B.2.1 dL_path_48 (by decide) ?_
      refine lv_iload_n B.1 B.2.1 dL_path_49 rfl (lv_at hl 3 rfl) ?_
      refine lv_iadd B.1 B.2.1 dL_path_50 ?_
      refine lv_cv (v := (iI (((1 + i) : Nat) : Int))) (iI_add _ _) ?_
      refine qI (Cs := []) (Rs := [[(sb, .inr (1, [.ref u6.1, .int (iI (0)), .int (iI (0)), .int (iI (((T23.length : Nat) : Int)))]))], [(u6.1, .inl (τ 1, u6.2.1, .inl (u6.2.2)))]]) Y [] [0, 1] (by decide) rfl (cSE (As := [.ref bs, .int (iI (((1 + i) : Nat) : Int))]) (rest := [.int (iI (28)), .ref sb]) (EL.ok K bs Ln xs) hL B Y [] (by decide) rfl (h_cell l D τ _ K bs Ln xs (1 + i) (by omega) hLn) q_687 q_688 q_0 q_689 rfl rfl hd_L_cell ⟨(Nat.le_of_ble_eq_true rfl), (Nat.le_of_ble_eq_true rfl)⟩ rfl hl.1 rfl (Nat.le_of_ble_eq_true rfl) dL_path_51 ⟨by show _ ≤ KC - s.heap.size; omega, by show _ ≤ KS - totS s.heap; omega⟩) (fun r u H locs hw Y => ?_)
      subst hw
      have hcn24 := cellN_lt xs Ln (1 + i)
      have Y : Wd D τ s A s.heap (bl [[(sb, .inr (1, [.ref u6.1, .int (iI (0)), .int (iI (0)), .int (iI (((T23.length : Nat) : Int)))]))], [(u6.1, .inl (τ 1, u6.2.1, .inl (u6.2.2)))]]) _ _ := Y
      refine lv_iload_n B.1 B.2.1 dL_path_54 rfl (lv_at hl 3 rfl) ?_
      refine lv_if_ne (tgt := 64) B.1 B.2.1 dL_path_55 (by decide) (fun _ => ?_) (fun h => absurd h (mt (iI_eq0 (a := ((i : Nat) : Int)) (by omega) (by omega)).mp (by omega))) 
      refine lv_sipush (v := (iI (300))) B.1 B.2.1 dL_path_64 (by decide) ?_
      refine lv_irem B.1 B.2.1 dL_path_67 (by decide) ?_
      refine lv_cv (v := (iI ((((cellN xs Ln (1 + i)) % 300) : Nat) : Int))) ((iI_rem (by omega) (by omega) (by decide) (by decide)).trans (congrArg iI (Int.natCast_emod (cellN xs Ln (1 + i)) 300).symm)) ?_
      refine lv_iadd B.1 B.2.1 dL_path_68 ?_
      refine lv_cv (v := (iI (((28 + ((cellN xs Ln (1 + i)) % 300)) : Nat) : Int))) (iI_add _ _) ?_
      refine qQ (Cs := [[(sb, .inr (1, [.ref u6.1, .int (iI (0)), .int (iI (0)), .int (iI (((T23.length : Nat) : Int)))]))], [(u6.1, .inl (τ 1, u6.2.1, .inl (u6.2.2)))]]) (Rs := []) Y [0, 1] [] (by decide) rfl (cVE (As := [.int (iI (((28 + ((cellN xs Ln (1 + i)) % 300)) : Nat) : Int))]) (rest := []) (q0 := 0) (KJ.ok K) hK B Y [0, 1] (by decide) rfl (k4_appInt l D τ _ K sb u6.1 u6.2.1 T23 (u6.2.2) hS6 (28 + ((cellN xs Ln (1 + i)) % 300)) (by omega) (by omega)) rfl rfl q_1397 q_1398 q_1399 q_14 q_1400 rfl rfl hd_J4_append_bf812 ⟨(Nat.le_of_ble_eq_true rfl), (Nat.le_of_ble_eq_true rfl)⟩ rfl hl.1 rfl (Nat.le_of_ble_eq_true rfl) dL_path_69 ⟨by show _ ≤ KC - s.heap.size; omega, by show _ ≤ KS - totS s.heap; omega⟩) (fun r u6 H locs hw Y => ?_)
      obtain ⟨hw, hS6⟩ := hw
      subst hw
      obtain ⟨T25, hT25⟩ : ∃ t : List Int, t = T23 ++ dgL (28 + ((cellN xs Ln (1 + i)) % 300)) := ⟨_, rfl⟩
      rw [← hT25] at Y hS6
      have hLT25 : T25.length = T23.length + (dgL (28 + ((cellN xs Ln (1 + i)) % 300))).length := by rw [hT25, List.length_append]
      have Y : Wd D τ s A s.heap (bl [[(sb, .inr (1, [.ref u6.1, .int (iI (0)), .int (iI (0)), .int (iI (((T25.length : Nat) : Int)))]))], [(u6.1, .inl (τ 1, u6.2.1, .inl (u6.2.2)))]]) _ _ := Y
      show W _ _ _ _ _ _ _ _ _ _ _ _ _ _ _ (F0 m _ ls (.ref sb :: []))
      refine lv_bipush (v := (iI (32))) B.1 B.2.1 dL_path_72 (by decide) ?_
      refine qQ (Cs := [[(sb, .inr (1, [.ref u6.1, .int (iI (0)), .int (iI (0)), .int (iI (((T25.length : Nat) : Int)))]))], [(u6.1, .inl (τ 1, u6.2.1, .inl (u6.2.2)))]]) (Rs := []) Y [0, 1] [] (by decide) rfl (cVE (As := [.int (iI (32))]) (rest := []) (q0 := 0) (KJ.ok K) hK B Y [0, 1] (by decide) rfl (k4_appChr l D τ _ K sb u6.1 u6.2.1 T25 (u6.2.2) hS6 (32) (by omega) (by omega)) rfl rfl q_1422 q_1423 q_1424 q_14 q_1425 rfl rfl hd_J4_append_cf468 ⟨(Nat.le_of_ble_eq_true rfl), (Nat.le_of_ble_eq_true rfl)⟩ rfl hl.1 rfl (Nat.le_of_ble_eq_true rfl) dL_path_74 ⟨by show _ ≤ KC - s.heap.size; omega, by show _ ≤ KS - totS s.heap; omega⟩) (fun r u6 H locs hw Y => ?_)
      obtain ⟨hw, hS6⟩ := hw
      subst hw
      obtain ⟨T26, hT26⟩ : ∃ t : List Int, t = T25 ++ [32] := ⟨_, rfl⟩
      rw [← hT26] at Y hS6
      have hLT26 : T26.length = T25.length + 1 := by rw [hT26, List.length_append]; rfl
      have Y : Wd D τ s A s.heap (bl [[(sb, .inr (1, [.ref u6.1, .int (iI (0)), .int (iI (0)), .int (iI (((T26.length : Nat) : Int)))]))], [(u6.1, .inl (τ 1, u6.2.1, .inl (u6.2.2)))]]) _ _ := Y
      show W _ _ _ _ _ _ _ _ _ _ _ _ _ _ _ (F0 m _ ls (.ref sb :: []))
      refine lv_iconst (v := (iI (1))) B.1 B.2.1 dL_path_77 (by decide) ?_
      refine lv_aload_n B.1 B.2.1 dL_path_78 rfl (lv_at hl 0 rfl) ?_
      refine lv_iconst (v := (iI (5))) B.1 B.2.1 dL_path_79 (by decide) ?_
      refine lv_iload_n B.1 B.2.1 dL_path_80 rfl (lv_at hl 3 rfl) ?_
      refine lv_iadd B.1 B.2.1 dL_path_81 ?_
      refine lv_cv (v := (iI (((5 + i) : Nat) : Int))) (iI_add _ _) ?_
      refine qI (Cs := []) (Rs := [[(sb, .inr (1, [.ref u6.1, .int (iI (0)), .int (iI (0)), .int (iI (((T26.length : Nat) : Int)))]))], [(u6.1, .inl (τ 1, u6.2.1, .inl (u6.2.2)))]]) Y [] [0, 1] (by decide) rfl (cSE (As := [.ref bs, .int (iI (((5 + i) : Nat) : Int))]) (rest := [.int (iI (1)), .ref sb]) (EL.ok K bs Ln xs) hL B Y [] (by decide) rfl (h_cell l D τ _ K bs Ln xs (5 + i) (by omega) hLn) q_687 q_688 q_0 q_689 rfl rfl hd_L_cell ⟨(Nat.le_of_ble_eq_true rfl), (Nat.le_of_ble_eq_true rfl)⟩ rfl hl.1 rfl (Nat.le_of_ble_eq_true rfl) dL_path_82 ⟨by show _ ≤ KC - s.heap.size; omega, by show _ ≤ KS - totS s.heap; omega⟩) (fun r u H locs hw Y => ?_)
      subst hw
      have hcn27 := cellN_lt xs Ln (5 + i)
      have Y : Wd D τ s A s.heap (bl [[(sb, .inr (1, [.ref u6.1, .int (iI (0)), .int (iI (0)), .int (iI (((T26.length : Nat) : Int)))]))], [(u6.1, .inl (τ 1, u6.2.1, .inl (u6.2.2)))]]) _ _ := Y
      refine lv_bipush (v := (iI (20))) B.1 B.2.1 dL_path_85 (by decide) ?_
      refine lv_irem B.1 B.2.1 dL_path_87 (by decide) ?_
      refine lv_cv (v := (iI ((((cellN xs Ln (5 + i)) % 20) : Nat) : Int))) ((iI_rem (by omega) (by omega) (by decide) (by decide)).trans (congrArg iI (Int.natCast_emod (cellN xs Ln (5 + i)) 20).symm)) ?_
      refine lv_iadd B.1 B.2.1 dL_path_88 ?_
      refine lv_cv (v := (iI (((1 + ((cellN xs Ln (5 + i)) % 20)) : Nat) : Int))) (iI_add _ _) ?_
      refine qQ (Cs := [[(sb, .inr (1, [.ref u6.1, .int (iI (0)), .int (iI (0)), .int (iI (((T26.length : Nat) : Int)))]))], [(u6.1, .inl (τ 1, u6.2.1, .inl (u6.2.2)))]]) (Rs := []) Y [0, 1] [] (by decide) rfl (cVE (As := [.int (iI (((1 + ((cellN xs Ln (5 + i)) % 20)) : Nat) : Int))]) (rest := []) (q0 := 0) (KJ.ok K) hK B Y [0, 1] (by decide) rfl (k4_appInt l D τ _ K sb u6.1 u6.2.1 T26 (u6.2.2) hS6 (1 + ((cellN xs Ln (5 + i)) % 20)) (by omega) (by omega)) rfl rfl q_1397 q_1398 q_1399 q_14 q_1400 rfl rfl hd_J4_append_bf812 ⟨(Nat.le_of_ble_eq_true rfl), (Nat.le_of_ble_eq_true rfl)⟩ rfl hl.1 rfl (Nat.le_of_ble_eq_true rfl) dL_path_89 ⟨by show _ ≤ KC - s.heap.size; omega, by show _ ≤ KS - totS s.heap; omega⟩) (fun r u6 H locs hw Y => ?_)
      obtain ⟨hw, hS6⟩ := hw
      subst hw
      obtain ⟨T28, hT28⟩ : ∃ t : List Int, t = T26 ++ dgL (1 + ((cellN xs Ln (5 + i)) % 20)) := ⟨_, rfl⟩
      rw [← hT28] at Y hS6
      have hLT28 : T28.length = T26.length + (dgL (1 + ((cellN xs Ln (5 + i)) % 20))).length := by rw [hT28, List.length_append]
      have Y : Wd D τ s A s.heap (bl [[(sb, .inr (1, [.ref u6.1, .int (iI (0)), .int (iI (0)), .int (iI (((T28.length : Nat) : Int)))]))], [(u6.1, .inl (τ 1, u6.2.1, .inl (u6.2.2)))]]) _ _ := Y
      show W _ _ _ _ _ _ _ _ _ _ _ _ _ _ _ (F0 m _ ls (.ref sb :: []))
      refine lv_bipush (v := (iI (32))) B.1 B.2.1 dL_path_92 (by decide) ?_
      refine qQ (Cs := [[(sb, .inr (1, [.ref u6.1, .int (iI (0)), .int (iI (0)), .int (iI (((T28.length : Nat) : Int)))]))], [(u6.1, .inl (τ 1, u6.2.1, .inl (u6.2.2)))]]) (Rs := []) Y [0, 1] [] (by decide) rfl (cVE (As := [.int (iI (32))]) (rest := []) (q0 := 0) (KJ.ok K) hK B Y [0, 1] (by decide) rfl (k4_appChr l D τ _ K sb u6.1 u6.2.1 T28 (u6.2.2) hS6 (32) (by omega) (by omega)) rfl rfl q_1422 q_1423 q_1424 q_14 q_1425 rfl rfl hd_J4_append_cf468 ⟨(Nat.le_of_ble_eq_true rfl), (Nat.le_of_ble_eq_true rfl)⟩ rfl hl.1 rfl (Nat.le_of_ble_eq_true rfl) dL_path_94 ⟨by show _ ≤ KC - s.heap.size; omega, by show _ ≤ KS - totS s.heap; omega⟩) (fun r u6 H locs hw Y => ?_)
      obtain ⟨hw, hS6⟩ := hw
      subst hw
      obtain ⟨T29, hT29⟩ : ∃ t : List Int, t = T28 ++ [32] := ⟨_, rfl⟩
      rw [← hT29] at Y hS6
      have hLT29 : T29.length = T28.length + 1 := by rw [hT29, List.length_append]; rfl
      have Y : Wd D τ s A s.heap (bl [[(sb, .inr (1, [.ref u6.1, .int (iI (0)), .int (iI (0)), .int (iI (((T29.length : Nat) : Int)))]))], [(u6.1, .inl (τ 1, u6.2.1, .inl (u6.2.2)))]]) _ _ := Y
      show W _ _ _ _ _ _ _ _ _ _ _ _ _ _ _ (F0 m _ ls (.ref sb :: []))
      refine lv_aload_n B.1 B.2.1 dL_path_97 rfl (lv_at hl 0 rfl) ?_
      refine lv_bipush (v := (iI (9))) B.1 B.2.1 dL_path_98 (by decide) ?_
      refine lv_iload_n B.1 B.2.1 dL_path_100 rfl (lv_at hl 3 rfl) ?_
      refine lv_iadd B.1 B.2.1 dL_path_101 ?_
      refine lv_cv (v := (iI (((9 + i) : Nat) : Int))) (iI_add _ _) ?_
      refine qI (Cs := []) (Rs := [[(sb, .inr (1, [.ref u6.1, .int (iI (0)), .int (iI (0)), .int (iI (((T29.length : Nat) : Int)))]))], [(u6.1, .inl (τ 1, u6.2.1, .inl (u6.2.2)))]]) Y [] [0, 1] (by decide) rfl (cSE (As := [.ref bs, .int (iI (((9 + i) : Nat) : Int))]) (rest := [.ref sb]) (EL.ok K bs Ln xs) hL B Y [] (by decide) rfl (h_cell l D τ _ K bs Ln xs (9 + i) (by omega) hLn) q_687 q_688 q_0 q_689 rfl rfl hd_L_cell ⟨(Nat.le_of_ble_eq_true rfl), (Nat.le_of_ble_eq_true rfl)⟩ rfl hl.1 rfl (Nat.le_of_ble_eq_true rfl) dL_path_102 ⟨by show _ ≤ KC - s.heap.size; omega, by show _ ≤ KS - totS s.heap; omega⟩) (fun r u H locs hw Y => ?_)
      subst hw
      have hcn30 := cellN_lt xs Ln (9 + i)
      have Y : Wd D τ s A s.heap (bl [[(sb, .inr (1, [.ref u6.1, .int (iI (0)), .int (iI (0)), .int (iI (((T29.length : Nat) : Int)))]))], [(u6.1, .inl (τ 1, u6.2.1, .inl (u6.2.2)))]]) _ _ := Y
      refine lv_iconst (v := (iI (2))) B.1 B.2.1 dL_path_105 (by decide) ?_
      refine lv_irem B.1 B.2.1 dL_path_106 (by decide) ?_
      refine lv_cv (v := (iI ((((cellN xs Ln (9 + i)) % 2) : Nat) : Int))) ((iI_rem (by omega) (by omega) (by decide) (by decide)).trans (congrArg iI (Int.natCast_emod (cellN xs Ln (9 + i)) 2).symm)) ?_
      refine lv_if_ne (tgt := 114) B.1 B.2.1 dL_path_107 (by decide) (fun c3 => ?_) (fun c3 => ?_)
      · have c3 := mt (iI_eq0 (a := ((((cellN xs Ln (9 + i)) % 2) : Nat) : Int)) (by omega) (by omega)).mpr c3
        refine lv_iconst (v := (iI (2))) B.1 B.2.1 dL_path_114 (by decide) ?_
        refine lv_aload_n B.1 B.2.1 dL_path_115 rfl (lv_at hl 0 rfl) ?_
        refine lv_bipush (v := (iI (9))) B.1 B.2.1 dL_path_116 (by decide) ?_
        refine lv_iload_n B.1 B.2.1 dL_path_118 rfl (lv_at hl 3 rfl) ?_
        refine lv_iadd B.1 B.2.1 dL_path_119 ?_
        refine lv_cv (v := (iI (((9 + i) : Nat) : Int))) (iI_add _ _) ?_
        refine qI (Cs := []) (Rs := [[(sb, .inr (1, [.ref u6.1, .int (iI (0)), .int (iI (0)), .int (iI (((T29.length : Nat) : Int)))]))], [(u6.1, .inl (τ 1, u6.2.1, .inl (u6.2.2)))]]) Y [] [0, 1] (by decide) rfl (cSE (As := [.ref bs, .int (iI (((9 + i) : Nat) : Int))]) (rest := [.int (iI (2)), .ref sb]) (EL.ok K bs Ln xs) hL B Y [] (by decide) rfl (h_cell l D τ _ K bs Ln xs (9 + i) (by omega) hLn) q_687 q_688 q_0 q_689 rfl rfl hd_L_cell ⟨(Nat.le_of_ble_eq_true rfl), (Nat.le_of_ble_eq_true rfl)⟩ rfl hl.1 rfl (Nat.le_of_ble_eq_true rfl) dL_path_120 ⟨by show _ ≤ KC - s.heap.size; omega, by show _ ≤ KS - totS s.heap; omega⟩) (fun r u H locs hw Y => ?_)
        subst hw
        have hcn31 := cellN_lt xs Ln (9 + i)
        have Y : Wd D τ s A s.heap (bl [[(sb, .inr (1, [.ref u6.1, .int (iI (0)), .int (iI (0)), .int (iI (((T29.length : Nat) : Int)))]))], [(u6.1, .inl (τ 1, u6.2.1, .inl (u6.2.2)))]]) _ _ := Y
        refine lv_bipush (v := (iI (30))) B.1 B.2.1 dL_path_123 (by decide) ?_
        refine lv_irem B.1 B.2.1 dL_path_125 (by decide) ?_
        refine lv_cv (v := (iI ((((cellN xs Ln (9 + i)) % 30) : Nat) : Int))) ((iI_rem (by omega) (by omega) (by decide) (by decide)).trans (congrArg iI (Int.natCast_emod (cellN xs Ln (9 + i)) 30).symm)) ?_
        refine lv_iadd B.1 B.2.1 dL_path_126 ?_
        refine lv_cv (v := (iI (((2 + ((cellN xs Ln (9 + i)) % 30)) : Nat) : Int))) (iI_add _ _) ?_
        refine qQ (Cs := [[(sb, .inr (1, [.ref u6.1, .int (iI (0)), .int (iI (0)), .int (iI (((T29.length : Nat) : Int)))]))], [(u6.1, .inl (τ 1, u6.2.1, .inl (u6.2.2)))]]) (Rs := []) Y [0, 1] [] (by decide) rfl (cVE (As := [.int (iI (((2 + ((cellN xs Ln (9 + i)) % 30)) : Nat) : Int))]) (rest := []) (q0 := 0) (KJ.ok K) hK B Y [0, 1] (by decide) rfl (k4_appInt l D τ _ K sb u6.1 u6.2.1 T29 (u6.2.2) hS6 (2 + ((cellN xs Ln (9 + i)) % 30)) (by omega) (by omega)) rfl rfl q_1397 q_1398 q_1399 q_14 q_1400 rfl rfl hd_J4_append_bf812 ⟨(Nat.le_of_ble_eq_true rfl), (Nat.le_of_ble_eq_true rfl)⟩ rfl hl.1 rfl (Nat.le_of_ble_eq_true rfl) dL_path_127 ⟨by show _ ≤ KC - s.heap.size; omega, by show _ ≤ KS - totS s.heap; omega⟩) (fun r u6 H locs hw Y => ?_)
        obtain ⟨hw, hS6⟩ := hw
        subst hw
        obtain ⟨T32, hT32⟩ : ∃ t : List Int, t = T29 ++ dgL (2 + ((cellN xs Ln (9 + i)) % 30)) := ⟨_, rfl⟩
        rw [← hT32] at Y hS6
        have hLT32 : T32.length = T29.length + (dgL (2 + ((cellN xs Ln (9 + i)) % 30))).length := by rw [hT32, List.length_append]
        have Y : Wd D τ s A s.heap (bl [[(sb, .inr (1, [.ref u6.1, .int (iI (0)), .int (iI (0)), .int (iI (((T32.length : Nat) : Int)))]))], [(u6.1, .inl (τ 1, u6.2.1, .inl (u6.2.2)))]]) _ _ := Y
        show W _ _ _ _ _ _ _ _ _ _ _ _ _ _ _ (F0 m _ ls (.ref sb :: []))
        refine lv_pop B.1 B.2.1 dL_path_130 rfl ?_
        refine lv_iinc (v := (iI (((i + 1) : Nat) : Int))) (lv' := [(3, .int (iI (((i + 1) : Nat) : Int))), (0, .ref bs), (1, .ref sb), (2, .int (iI ((nl : Nat) : Int)))]) B.1 B.2.1 dL_path_131 hl (k := 3) rfl (iI_inc _) (by decide) rfl (fun ls hl => ?_)
        refine lv_goto (tgt := 20) B.1 B.2.1 dL_path_134 (by decide) ?_
        have e0 : (lkX (cellN xs Ln) i).d0 = dgL (28 + cellN xs Ln (1 + i) % 300) := by
          show dgL (28 + cellN xs Ln (1 + i) % (if i = 0 then 1200 else 300)) = _
          rw [if_neg (by omega)]
        have e2 : (lkX (cellN xs Ln) i).d2 = dgL (2 + cellN xs Ln (9 + i) % 30) := by
          show dgL (if cellN xs Ln (9 + i) % 2 = 0 then 0 else 2 + cellN xs Ln (9 + i) % 30) = _
          rw [if_neg (by omega)]
        have e1 : T32 = (jnX ((List.range (i + 1)).map (lkX (cellN xs Ln)))) := by
          have h1 := lkX_more (cellN xs Ln) ((List.range i).map (lkX (cellN xs Ln))) i (rng_ne (by omega))
          rw [e0, e2] at h1
          rw [hT32, hT29, hT28, hT26, hT25, hT23, hT22, hT21]
          exact h1.trans (by rw [rng_s])
        rw [e1] at Y hS6
        have Y : Wd D τ s A s.heap (bl [[(sb, .inr (1, [.ref u6.1, .int (iI (0)), .int (iI (0)), .int (iI ((((jnX ((List.range (i + 1)).map (lkX (cellN xs Ln)))).length : Nat) : Int)))]))], [(u6.1, .inl (τ 1, u6.2.1, .inl (u6.2.2)))]]) _ _ := Y
        exact ih H locs ls _ _ ⟨u6, hS6, lv_sub hl [1, 2, 3, 0] rfl, Y.pick [0, 1] (by decide) rfl, by omega, by omega⟩
      · have c3 := (iI_eq0 (a := ((((cellN xs Ln (9 + i)) % 2) : Nat) : Int)) (by omega) (by omega)).mp c3
        refine lv_iconst (v := (iI (0))) B.1 B.2.1 dL_path_110 (by decide) ?_
        refine lv_goto (tgt := 127) B.1 B.2.1 dL_path_111 (by decide) ?_
        refine qQ (Cs := [[(sb, .inr (1, [.ref u6.1, .int (iI (0)), .int (iI (0)), .int (iI (((T29.length : Nat) : Int)))]))], [(u6.1, .inl (τ 1, u6.2.1, .inl (u6.2.2)))]]) (Rs := []) Y [0, 1] [] (by decide) rfl (cVE (As := [.int (iI (0))]) (rest := []) (q0 := 0) (KJ.ok K) hK B Y [0, 1] (by decide) rfl (k4_appInt l D τ _ K sb u6.1 u6.2.1 T29 (u6.2.2) hS6 0 (by omega) (by omega)) rfl rfl q_1397 q_1398 q_1399 q_14 q_1400 rfl rfl hd_J4_append_bf812 ⟨(Nat.le_of_ble_eq_true rfl), (Nat.le_of_ble_eq_true rfl)⟩ rfl hl.1 rfl (Nat.le_of_ble_eq_true rfl) dL_path_127 ⟨by show _ ≤ KC - s.heap.size; omega, by show _ ≤ KS - totS s.heap; omega⟩) (fun r u6 H locs hw Y => ?_)
        obtain ⟨hw, hS6⟩ := hw
        subst hw
        obtain ⟨T33, hT33⟩ : ∃ t : List Int, t = T29 ++ dgL 0 := ⟨_, rfl⟩
        rw [← hT33] at Y hS6
        have hLT33 : T33.length = T29.length + (dgL 0).length := by rw [hT33, List.length_append]
        have Y : Wd D τ s A s.heap (bl [[(sb, .inr (1, [.ref u6.1, .int (iI (0)), .int (iI (0)), .int (iI (((T33.length : Nat) : Int)))]))], [(u6.1, .inl (τ 1, u6.2.1, .inl (u6.2.2)))]]) _ _ := Y
        show W _ _ _ _ _ _ _ _ _ _ _ _ _ _ _ (F0 m _ ls (.ref sb :: []))
        refine lv_pop B.1 B.2.1 dL_path_130 rfl ?_
        refine lv_iinc (v := (iI (((i + 1) : Nat) : Int))) (lv' := [(3, .int (iI (((i + 1) : Nat) : Int))), (0, .ref bs), (1, .ref sb), (2, .int (iI ((nl : Nat) : Int)))]) B.1 B.2.1 dL_path_131 hl (k := 3) rfl (iI_inc _) (by decide) rfl (fun ls hl => ?_)
        refine lv_goto (tgt := 20) B.1 B.2.1 dL_path_134 (by decide) ?_
        have e0 : (lkX (cellN xs Ln) i).d0 = dgL (28 + cellN xs Ln (1 + i) % 300) := by
          show dgL (28 + cellN xs Ln (1 + i) % (if i = 0 then 1200 else 300)) = _
          rw [if_neg (by omega)]
        have e2 : (lkX (cellN xs Ln) i).d2 = dgL 0 := by
          show dgL (if cellN xs Ln (9 + i) % 2 = 0 then 0 else 2 + cellN xs Ln (9 + i) % 30) = _
          rw [if_pos (by omega)]
        have e1 : T33 = (jnX ((List.range (i + 1)).map (lkX (cellN xs Ln)))) := by
          have h1 := lkX_more (cellN xs Ln) ((List.range i).map (lkX (cellN xs Ln))) i (rng_ne (by omega))
          rw [e0, e2] at h1
          rw [hT33, hT29, hT28, hT26, hT25, hT23, hT22, hT21]
          exact h1.trans (by rw [rng_s])
        rw [e1] at Y hS6
        have Y : Wd D τ s A s.heap (bl [[(sb, .inr (1, [.ref u6.1, .int (iI (0)), .int (iI (0)), .int (iI ((((jnX ((List.range (i + 1)).map (lkX (cellN xs Ln)))).length : Nat) : Int)))]))], [(u6.1, .inl (τ 1, u6.2.1, .inl (u6.2.2)))]]) _ _ := Y
        exact ih H locs ls _ _ ⟨u6, hS6, lv_sub hl [1, 2, 3, 0] rfl, Y.pick [0, 1] (by decide) rfl, by omega, by omega⟩
    · have c2 := (iI_eq0 (a := ((i : Nat) : Int)) (by omega) (by omega)).mp c2
      refine va_ldcS (tx := "") B.1 B.2.1 B.2.2.2.1 (hE.lit 12 (by decide)) dL_path_30 ?_
      refine lv_goto (tgt := 37) B.1 B.2.1 dL_path_32 (by decide) ?_
      refine qQ (Cs := [[(sb, .inr (1, [.ref w6.1, .int (iI (0)), .int (iI (0)), .int (iI (((T21.length : Nat) : Int)))]))], [(w6.1, .inl (τ 1, w6.2.1, .inl (w6.2.2)))]]) (Rs := []) Y [0, 1] [] (by decide) rfl (cVE (As := [.ref (K (2 * 12))]) (rest := []) (q0 := 0) (KJ.ok K) hK B Y [0, 1] (by decide) rfl (k4_appStr l D τ _ K sb w6.1 w6.2.1 T21 (w6.2.2) hS6 12 (by decide) (by omega)) rfl rfl q_1305 q_1306 q_1307 q_14 q_1308 rfl rfl hd_J4_append_15ec4 ⟨(Nat.le_of_ble_eq_true rfl), (Nat.le_of_ble_eq_true rfl)⟩ rfl hl.1 rfl (Nat.le_of_ble_eq_true rfl) dL_path_37 ⟨by show _ ≤ KC - s.heap.size; omega, by show _ ≤ KS - totS s.heap; omega⟩) (fun r u6 H locs hw Y => ?_)
      obtain ⟨hw, hS6⟩ := hw
      subst hw
      obtain ⟨T34, hT34⟩ : ∃ t : List Int, t = T21 ++ ksZ 12 := ⟨_, rfl⟩
      rw [← hT34] at Y hS6
      have hLT34 : T34.length = T21.length + (ksZ 12).length := by rw [hT34, List.length_append]
      have Y : Wd D τ s A s.heap (bl [[(sb, .inr (1, [.ref u6.1, .int (iI (0)), .int (iI (0)), .int (iI (((T34.length : Nat) : Int)))]))], [(u6.1, .inl (τ 1, u6.2.1, .inl (u6.2.2)))]]) _ _ := Y
      show W _ _ _ _ _ _ _ _ _ _ _ _ _ _ _ (F0 m _ ls (.ref sb :: []))
      refine va_ldcS (tx := "link ") B.1 B.2.1 B.2.2.2.1 (hE.lit 14 (by decide)) dL_path_40 ?_
      refine qQ (Cs := [[(sb, .inr (1, [.ref u6.1, .int (iI (0)), .int (iI (0)), .int (iI (((T34.length : Nat) : Int)))]))], [(u6.1, .inl (τ 1, u6.2.1, .inl (u6.2.2)))]]) (Rs := []) Y [0, 1] [] (by decide) rfl (cVE (As := [.ref (K (2 * 14))]) (rest := []) (q0 := 0) (KJ.ok K) hK B Y [0, 1] (by decide) rfl (k4_appStr l D τ _ K sb u6.1 u6.2.1 T34 (u6.2.2) hS6 14 (by decide) (by omega)) rfl rfl q_1305 q_1306 q_1307 q_14 q_1308 rfl rfl hd_J4_append_15ec4 ⟨(Nat.le_of_ble_eq_true rfl), (Nat.le_of_ble_eq_true rfl)⟩ rfl hl.1 rfl (Nat.le_of_ble_eq_true rfl) dL_path_42 ⟨by show _ ≤ KC - s.heap.size; omega, by show _ ≤ KS - totS s.heap; omega⟩) (fun r u6 H locs hw Y => ?_)
      obtain ⟨hw, hS6⟩ := hw
      subst hw
      obtain ⟨T35, hT35⟩ : ∃ t : List Int, t = T34 ++ ksZ 14 := ⟨_, rfl⟩
      rw [← hT35] at Y hS6
      have hLT35 : T35.length = T34.length + (ksZ 14).length := by rw [hT35, List.length_append]
      have Y : Wd D τ s A s.heap (bl [[(sb, .inr (1, [.ref u6.1, .int (iI (0)), .int (iI (0)), .int (iI (((T35.length : Nat) : Int)))]))], [(u6.1, .inl (τ 1, u6.2.1, .inl (u6.2.2)))]]) _ _ := Y
      show W _ _ _ _ _ _ _ _ _ _ _ _ _ _ _ (F0 m _ ls (.ref sb :: []))
      refine lv_bipush (v := (iI (28))) B.1 B.2.1 dL_path_45 (by decide) ?_
      refine lv_aload_n B.1 B.2.1 dL_path_47 rfl (lv_at hl 0 rfl) ?_
      refine lv_iconst (v := (iI (1))) B.1 B.2.1 dL_path_48 (by decide) ?_
      refine lv_iload_n B.1 B.2.1 dL_path_49 rfl (lv_at hl 3 rfl) ?_
      refine lv_iadd B.1 B.2.1 dL_path_50 ?_
      refine lv_cv (v := (iI (((1 + i) : Nat) : Int))) (iI_add _ _) ?_
      refine qI (Cs := []) (Rs := [[(sb, .inr (1, [.ref u6.1, .int (iI (0)), .int (iI (0)), .int (iI (((T35.length : Nat) : Int)))]))], [(u6.1, .inl (τ 1, u6.2.1, .inl (u6.2.2)))]]) Y [] [0, 1] (by decide) rfl (cSE (As := [.ref bs, .int (iI (((1 + i) : Nat) : Int))]) (rest := [.int (iI (28)), .ref sb]) (EL.ok K bs Ln xs) hL B Y [] (by decide) rfl (h_cell l D τ _ K bs Ln xs (1 + i) (by omega) hLn) q_687 q_688 q_0 q_689 rfl rfl hd_L_cell ⟨(Nat.le_of_ble_eq_true rfl), (Nat.le_of_ble_eq_true rfl)⟩ rfl hl.1 rfl (Nat.le_of_ble_eq_true rfl) dL_path_51 ⟨by show _ ≤ KC - s.heap.size; omega, by show _ ≤ KS - totS s.heap; omega⟩) (fun r u H locs hw Y => ?_)
      subst hw
      have hcn36 := cellN_lt xs Ln (1 + i)
      have Y : Wd D τ s A s.heap (bl [[(sb, .inr (1, [.ref u6.1, .int (iI (0)), .int (iI (0)), .int (iI (((T35.length : Nat) : Int)))]))], [(u6.1, .inl (τ 1, u6.2.1, .inl (u6.2.2)))]]) _ _ := Y
      refine lv_iload_n B.1 B.2.1 dL_path_54 rfl (lv_at hl 3 rfl) ?_
      refine lv_if_ne (tgt := 64) B.1 B.2.1 dL_path_55 (by decide) (fun h => absurd ((iI_eq0 (a := ((i : Nat) : Int)) (by omega) (by omega)).mpr (by omega)) h) (fun _ => ?_)
      refine lv_sipush (v := (iI (1200))) B.1 B.2.1 dL_path_58 (by decide) ?_
      refine lv_goto (tgt := 67) B.1 B.2.1 dL_path_61 (by decide) ?_
      refine lv_irem B.1 B.2.1 dL_path_67 (by decide) ?_
      refine lv_cv (v := (iI ((((cellN xs Ln (1 + i)) % 1200) : Nat) : Int))) ((iI_rem (by omega) (by omega) (by decide) (by decide)).trans (congrArg iI (Int.natCast_emod (cellN xs Ln (1 + i)) 1200).symm)) ?_
      refine lv_iadd B.1 B.2.1 dL_path_68 ?_
      refine lv_cv (v := (iI (((28 + ((cellN xs Ln (1 + i)) % 1200)) : Nat) : Int))) (iI_add _ _) ?_
      refine qQ (Cs := [[(sb, .inr (1, [.ref u6.1, .int (iI (0)), .int (iI (0)), .int (iI (((T35.length : Nat) : Int)))]))], [(u6.1, .inl (τ 1, u6.2.1, .inl (u6.2.2)))]]) (Rs := []) Y [0, 1] [] (by decide) rfl (cVE (As := [.int (iI (((28 + ((cellN xs Ln (1 + i)) % 1200)) : Nat) : Int))]) (rest := []) (q0 := 0) (KJ.ok K) hK B Y [0, 1] (by decide) rfl (k4_appInt l D τ _ K sb u6.1 u6.2.1 T35 (u6.2.2) hS6 (28 + ((cellN xs Ln (1 + i)) % 1200)) (by omega) (by omega)) rfl rfl q_1397 q_1398 q_1399 q_14 q_1400 rfl rfl hd_J4_append_bf812 ⟨(Nat.le_of_ble_eq_true rfl), (Nat.le_of_ble_eq_true rfl)⟩ rfl hl.1 rfl (Nat.le_of_ble_eq_true rfl) dL_path_69 ⟨by show _ ≤ KC - s.heap.size; omega, by show _ ≤ KS - totS s.heap; omega⟩) (fun r u6 H locs hw Y => ?_)
      obtain ⟨hw, hS6⟩ := hw
      subst hw
      obtain ⟨T37, hT37⟩ : ∃ t : List Int, t = T35 ++ dgL (28 + ((cellN xs Ln (1 + i)) % 1200)) := ⟨_, rfl⟩
      rw [← hT37] at Y hS6
      have hLT37 : T37.length = T35.length + (dgL (28 + ((cellN xs Ln (1 + i)) % 1200))).length := by rw [hT37, List.length_append]
      have Y : Wd D τ s A s.heap (bl [[(sb, .inr (1, [.ref u6.1, .int (iI (0)), .int (iI (0)), .int (iI (((T37.length : Nat) : Int)))]))], [(u6.1, .inl (τ 1, u6.2.1, .inl (u6.2.2)))]]) _ _ := Y
      show W _ _ _ _ _ _ _ _ _ _ _ _ _ _ _ (F0 m _ ls (.ref sb :: []))
      refine lv_bipush (v := (iI (32))) B.1 B.2.1 dL_path_72 (by decide) ?_
      refine qQ (Cs := [[(sb, .inr (1, [.ref u6.1, .int (iI (0)), .int (iI (0)), .int (iI (((T37.length : Nat) : Int)))]))], [(u6.1, .inl (τ 1, u6.2.1, .inl (u6.2.2)))]]) (Rs := []) Y [0, 1] [] (by decide) rfl (cVE (As := [.int (iI (32))]) (rest := []) (q0 := 0) (KJ.ok K) hK B Y [0, 1] (by decide) rfl (k4_appChr l D τ _ K sb u6.1 u6.2.1 T37 (u6.2.2) hS6 (32) (by omega) (by omega)) rfl rfl q_1422 q_1423 q_1424 q_14 q_1425 rfl rfl hd_J4_append_cf468 ⟨(Nat.le_of_ble_eq_true rfl), (Nat.le_of_ble_eq_true rfl)⟩ rfl hl.1 rfl (Nat.le_of_ble_eq_true rfl) dL_path_74 ⟨by show _ ≤ KC - s.heap.size; omega, by show _ ≤ KS - totS s.heap; omega⟩) (fun r u6 H locs hw Y => ?_)
      obtain ⟨hw, hS6⟩ := hw
      subst hw
      obtain ⟨T38, hT38⟩ : ∃ t : List Int, t = T37 ++ [32] := ⟨_, rfl⟩
      rw [← hT38] at Y hS6
      have hLT38 : T38.length = T37.length + 1 := by rw [hT38, List.length_append]; rfl
      have Y : Wd D τ s A s.heap (bl [[(sb, .inr (1, [.ref u6.1, .int (iI (0)), .int (iI (0)), .int (iI (((T38.length : Nat) : Int)))]))], [(u6.1, .inl (τ 1, u6.2.1, .inl (u6.2.2)))]]) _ _ := Y
      show W _ _ _ _ _ _ _ _ _ _ _ _ _ _ _ (F0 m _ ls (.ref sb :: []))
      refine lv_iconst (v := (iI (1))) B.1 B.2.1 dL_path_77 (by decide) ?_
      refine lv_aload_n B.1 B.2.1 dL_path_78 rfl (lv_at hl 0 rfl) ?_
      refine lv_iconst (v := (iI (5))) B.1 B.2.1 dL_path_79 (by decide) ?_
      refine lv_iload_n B.1 B.2.1 dL_path_80 rfl (lv_at hl 3 rfl) ?_
      refine lv_iadd B.1 B.2.1 dL_path_81 ?_
      refine lv_cv (v := (iI (((5 + i) : Nat) : Int))) (iI_add _ _) ?_
      refine qI (Cs := []) (Rs := [[(sb, .inr (1, [.ref u6.1, .int (iI (0)), .int (iI (0)), .int (iI (((T38.length : Nat) : Int)))]))], [(u6.1, .inl (τ 1, u6.2.1, .inl (u6.2.2)))]]) Y [] [0, 1] (by decide) rfl (cSE (As := [.ref bs, .int (iI (((5 + i) : Nat) : Int))]) (rest := [.int (iI (1)), .ref sb]) (EL.ok K bs Ln xs) hL B Y [] (by decide) rfl (h_cell l D τ _ K bs Ln xs (5 + i) (by omega) hLn) q_687 q_688 q_0 q_689 rfl rfl hd_L_cell ⟨(Nat.le_of_ble_eq_true rfl), (Nat.le_of_ble_eq_true rfl)⟩ rfl hl.1 rfl (Nat.le_of_ble_eq_true rfl) dL_path_82 ⟨by show _ ≤ KC - s.heap.size; omega, by show _ ≤ KS - totS s.heap; omega⟩) (fun r u H locs hw Y => ?_)
      subst hw
      have hcn39 := cellN_lt xs Ln (5 + i)
      have Y : Wd D τ s A s.heap (bl [[(sb, .inr (1, [.ref u6.1, .int (iI (0)), .int (iI (0)), .int (iI (((T38.length : Nat) : Int)))]))], [(u6.1, .inl (τ 1, u6.2.1, .inl (u6.2.2)))]]) _ _ := Y
      refine lv_bipush (v := (iI (20))) B.1 B.2.1 dL_path_85 (by decide) ?_
      refine lv_irem B.1 B.2.1 dL_path_87 (by decide) ?_
      refine lv_cv (v := (iI ((((cellN xs Ln (5 + i)) % 20) : Nat) : Int))) ((iI_rem (by omega) (by omega) (by decide) (by decide)).trans (congrArg iI (Int.natCast_emod (cellN xs Ln (5 + i)) 20).symm)) ?_
      refine lv_iadd B.1 B.2.1 dL_path_88 ?_
      refine lv_cv (v := (iI (((1 + ((cellN xs Ln (5 + i)) % 20)) : Nat) : Int))) (iI_add _ _) ?_
      refine qQ (Cs := [[(sb, .inr (1, [.ref u6.1, .int (iI (0)), .int (iI (0)), .int (iI (((T38.length : Nat) : Int)))]))], [(u6.1, .inl (τ 1, u6.2.1, .inl (u6.2.2)))]]) (Rs := []) Y [0, 1] [] (by decide) rfl (cVE (As := [.int (iI (((1 + ((cellN xs Ln (5 + i)) % 20)) : Nat) : Int))]) (rest := []) (q0 := 0) (KJ.ok K) hK B Y [0, 1] (by decide) rfl (k4_appInt l D τ _ K sb u6.1 u6.2.1 T38 (u6.2.2) hS6 (1 + ((cellN xs Ln (5 + i)) % 20)) (by omega) (by omega)) rfl rfl q_1397 q_1398 q_1399 q_14 q_1400 rfl rfl hd_J4_append_bf812 ⟨(Nat.le_of_ble_eq_true rfl), (Nat.le_of_ble_eq_true rfl)⟩ rfl hl.1 rfl (Nat.le_of_ble_eq_true rfl) dL_path_89 ⟨by show _ ≤ KC - s.heap.size; omega, by show _ ≤ KS - totS s.heap; omega⟩) (fun r u6 H locs hw Y => ?_)
      obtain ⟨hw, hS6⟩ := hw
      subst hw
      obtain ⟨T40, hT40⟩ : ∃ t : List Int, t = T38 ++ dgL (1 + ((cellN xs Ln (5 + i)) % 20)) := ⟨_, rfl⟩
      rw [← hT40] at Y hS6
      have hLT40 : T40.length = T38.length + (dgL (1 + ((cellN xs Ln (5 + i)) % 20))).length := by rw [hT40, List.length_append]
      have Y : Wd D τ s A s.heap (bl [[(sb, .inr (1, [.ref u6.1, .int (iI (0)), .int (iI (0)), .int (iI (((T40.length : Nat) : Int)))]))], [(u6.1, .inl (τ 1, u6.2.1, .inl (u6.2.2)))]]) _ _ := Y
      show W _ _ _ _ _ _ _ _ _ _ _ _ _ _ _ (F0 m _ ls (.ref sb :: []))
      refine lv_bipush (v := (iI (32))) B.1 B.2.1 dL_path_92 (by decide) ?_
      refine qQ (Cs := [[(sb, .inr (1, [.ref u6.1, .int (iI (0)), .int (iI (0)), .int (iI (((T40.length : Nat) : Int)))]))], [(u6.1, .inl (τ 1, u6.2.1, .inl (u6.2.2)))]]) (Rs := []) Y [0, 1] [] (by decide) rfl (cVE (As := [.int (iI (32))]) (rest := []) (q0 := 0) (KJ.ok K) hK B Y [0, 1] (by decide) rfl (k4_appChr l D τ _ K sb u6.1 u6.2.1 T40 (u6.2.2) hS6 (32) (by omega) (by omega)) rfl rfl q_1422 q_1423 q_1424 q_14 q_1425 rfl rfl hd_J4_append_cf468 ⟨(Nat.le_of_ble_eq_true rfl), (Nat.le_of_ble_eq_true rfl)⟩ rfl hl.1 rfl (Nat.le_of_ble_eq_true rfl) dL_path_94 ⟨by show _ ≤ KC - s.heap.size; omega, by show _ ≤ KS - totS s.heap; omega⟩) (fun r u6 H locs hw Y => ?_)
      obtain ⟨hw, hS6⟩ := hw
      subst hw
      obtain ⟨T41, hT41⟩ : ∃ t : List Int, t = T40 ++ [32] := ⟨_, rfl⟩
      rw [← hT41] at Y hS6
      have hLT41 : T41.length = T40.length + 1 := by rw [hT41, List.length_append]; rfl
      have Y : Wd D τ s A s.heap (bl [[(sb, .inr (1, [.ref u6.1, .int (iI (0)), .int (iI (0)), .int (iI (((T41.length : Nat) : Int)))]))], [(u6.1, .inl (τ 1, u6.2.1, .inl (u6.2.2)))]]) _ _ := Y
      show W _ _ _ _ _ _ _ _ _ _ _ _ _ _ _ (F0 m _ ls (.ref sb :: []))
      refine lv_aload_n B.1 B.2.1 dL_path_97 rfl (lv_at hl 0 rfl) ?_
      refine lv_bipush (v := (iI (9))) B.1 B.2.1 dL_path_98 (by decide) ?_
      refine lv_iload_n B.1 B.2.1 dL_path_100 rfl (lv_at hl 3 rfl) ?_
      refine lv_iadd B.1 B.2.1 dL_path_101 ?_
      refine lv_cv (v := (iI (((9 + i) : Nat) : Int))) (iI_add _ _) ?_
      refine qI (Cs := []) (Rs := [[(sb, .inr (1, [.ref u6.1, .int (iI (0)), .int (iI (0)), .int (iI (((T41.length : Nat) : Int)))]))], [(u6.1, .inl (τ 1, u6.2.1, .inl (u6.2.2)))]]) Y [] [0, 1] (by decide) rfl (cSE (As := [.ref bs, .int (iI (((9 + i) : Nat) : Int))]) (rest := [.ref sb]) (EL.ok K bs Ln xs) hL B Y [] (by decide) rfl (h_cell l D τ _ K bs Ln xs (9 + i) (by omega) hLn) q_687 q_688 q_0 q_689 rfl rfl hd_L_cell ⟨(Nat.le_of_ble_eq_true rfl), (Nat.le_of_ble_eq_true rfl)⟩ rfl hl.1 rfl (Nat.le_of_ble_eq_true rfl) dL_path_102 ⟨by show _ ≤ KC - s.heap.size; omega, by show _ ≤ KS - totS s.heap; omega⟩) (fun r u H locs hw Y => ?_)
      subst hw
      have hcn42 := cellN_lt xs Ln (9 + i)
      have Y : Wd D τ s A s.heap (bl [[(sb, .inr (1, [.ref u6.1, .int (iI (0)), .int (iI (0)), .int (iI (((T41.length : Nat) : Int)))]))], [(u6.1, .inl (τ 1, u6.2.1, .inl (u6.2.2)))]]) _ _ := Y
      refine lv_iconst (v := (iI (2))) B.1 B.2.1 dL_path_105 (by decide) ?_
      refine lv_irem B.1 B.2.1 dL_path_106 (by decide) ?_
      refine lv_cv (v := (iI ((((cellN xs Ln (9 + i)) % 2) : Nat) : Int))) ((iI_rem (by omega) (by omega) (by decide) (by decide)).trans (congrArg iI (Int.natCast_emod (cellN xs Ln (9 + i)) 2).symm)) ?_
      refine lv_if_ne (tgt := 114) B.1 B.2.1 dL_path_107 (by decide) (fun c4 => ?_) (fun c4 => ?_)
      · have c4 := mt (iI_eq0 (a := ((((cellN xs Ln (9 + i)) % 2) : Nat) : Int)) (by omega) (by omega)).mpr c4
        refine lv_iconst (v := (iI (2))) B.1 B.2.1 dL_path_114 (by decide) ?_
        refine lv_aload_n B.1 B.2.1 dL_path_115 rfl (lv_at hl 0 rfl) ?_
        refine lv_bipush (v := (iI (9))) B.1 B.2.1 dL_path_116 (by decide) ?_
        refine lv_iload_n B.1 B.2.1 dL_path_118 rfl (lv_at hl 3 rfl) ?_
        refine lv_iadd B.1 B.2.1 dL_path_119 ?_
        refine lv_cv (v := (iI (((9 + i) : Nat) : Int))) (iI_add _ _) ?_
        refine qI (Cs := []) (Rs := [[(sb, .inr (1, [.ref u6.1, .int (iI (0)), .int (iI (0)), .int (iI (((T41.length : Nat) : Int)))]))], [(u6.1, .inl (τ 1, u6.2.1, .inl (u6.2.2)))]]) Y [] [0, 1] (by decide) rfl (cSE (As := [.ref bs, .int (iI (((9 + i) : Nat) : Int))]) (rest := [.int (iI (2)), .ref sb]) (EL.ok K bs Ln xs) hL B Y [] (by decide) rfl (h_cell l D τ _ K bs Ln xs (9 + i) (by omega) hLn) q_687 q_688 q_0 q_689 rfl rfl hd_L_cell ⟨(Nat.le_of_ble_eq_true rfl), (Nat.le_of_ble_eq_true rfl)⟩ rfl hl.1 rfl (Nat.le_of_ble_eq_true rfl) dL_path_120 ⟨by show _ ≤ KC - s.heap.size; omega, by show _ ≤ KS - totS s.heap; omega⟩) (fun r u H locs hw Y => ?_)
        subst hw
        have hcn43 := cellN_lt xs Ln (9 + i)
        have Y : Wd D τ s A s.heap (bl [[(sb, .inr (1, [.ref u6.1, .int (iI (0)), .int (iI (0)), .int (iI (((T41.length : Nat) : Int)))]))], [(u6.1, .inl (τ 1, u6.2.1, .inl (u6.2.2)))]]) _ _ := Y
        refine lv_bipush (v := (iI (30))) B.1 B.2.1 dL_path_123 (by decide) ?_
        refine lv_irem B.1 B.2.1 dL_path_125 (by decide) ?_
        refine lv_cv (v := (iI ((((cellN xs Ln (9 + i)) % 30) : Nat) : Int))) ((iI_rem (by omega) (by omega) (by decide) (by decide)).trans (congrArg iI (Int.natCast_emod (cellN xs Ln (9 + i)) 30).symm)) ?_
        refine lv_iadd B.1 B.2.1 dL_path_126 ?_
        refine lv_cv (v := (iI (((2 + ((cellN xs Ln (9 + i)) % 30)) : Nat) : Int))) (iI_add _ _) ?_
        refine qQ (Cs := [[(sb, .inr (1, [.ref u6.1, .int (iI (0)), .int (iI (0)), .int (iI (((T41.length : Nat) : Int)))]))], [(u6.1, .inl (τ 1, u6.2.1, .inl (u6.2.2)))]]) (Rs := []) Y [0, 1] [] (by decide) rfl (cVE (As := [.int (iI (((2 + ((cellN xs Ln (9 + i)) % 30)) : Nat) : Int))]) (rest := []) (q0 := 0) (KJ.ok K) hK B Y [0, 1] (by decide) rfl (k4_appInt l D τ _ K sb u6.1 u6.2.1 T41 (u6.2.2) hS6 (2 + ((cellN xs Ln (9 + i)) % 30)) (by omega) (by omega)) rfl rfl q_1397 q_1398 q_1399 q_14 q_1400 rfl rfl hd_J4_append_bf812 ⟨(Nat.le_of_ble_eq_true rfl), (Nat.le_of_ble_eq_true rfl)⟩ rfl hl.1 rfl (Nat.le_of_ble_eq_true rfl) dL_path_127 ⟨by show _ ≤ KC - s.heap.size; omega, by show _ ≤ KS - totS s.heap; omega⟩) (fun r u6 H locs hw Y => ?_)
        obtain ⟨hw, hS6⟩ := hw
        subst hw
        obtain ⟨T44, hT44⟩ : ∃ t : List Int, t = T41 ++ dgL (2 + ((cellN xs Ln (9 + i)) % 30)) := ⟨_, rfl⟩
        rw [← hT44] at Y hS6
        have hLT44 : T44.length = T41.length + (dgL (2 + ((cellN xs Ln (9 + i)) % 30))).length := by rw [hT44, List.length_append]
        have Y : Wd D τ s A s.heap (bl [[(sb, .inr (1, [.ref u6.1, .int (iI (0)), .int (iI (0)), .int (iI (((T44.length : Nat) : Int)))]))], [(u6.1, .inl (τ 1, u6.2.1, .inl (u6.2.2)))]]) _ _ := Y
        show W _ _ _ _ _ _ _ _ _ _ _ _ _ _ _ (F0 m _ ls (.ref sb :: []))
        refine lv_pop B.1 B.2.1 dL_path_130 rfl ?_
        refine lv_iinc (v := (iI (((i + 1) : Nat) : Int))) (lv' := [(3, .int (iI (((i + 1) : Nat) : Int))), (0, .ref bs), (1, .ref sb), (2, .int (iI ((nl : Nat) : Int)))]) B.1 B.2.1 dL_path_131 hl (k := 3) rfl (iI_inc _) (by decide) rfl (fun ls hl => ?_)
        refine lv_goto (tgt := 20) B.1 B.2.1 dL_path_134 (by decide) ?_
        have e0 : (lkX (cellN xs Ln) i).d0 = dgL (28 + cellN xs Ln (1 + i) % 1200) := by
          show dgL (28 + cellN xs Ln (1 + i) % (if i = 0 then 1200 else 300)) = _
          rw [if_pos (by omega)]
        have e2 : (lkX (cellN xs Ln) i).d2 = dgL (2 + cellN xs Ln (9 + i) % 30) := by
          show dgL (if cellN xs Ln (9 + i) % 2 = 0 then 0 else 2 + cellN xs Ln (9 + i) % 30) = _
          rw [if_neg (by omega)]
        have e1 : T44 = (jnX ((List.range (i + 1)).map (lkX (cellN xs Ln)))) := by
          have hi0 : i = 0 := by omega
          rw [hT44, hT41, hT40, hT38, hT37, hT35, hT34, hT21]
          rw [hi0] at e0 e2 ⊢
          have h1 := lkX_first (cellN xs Ln)
          rw [e0, e2] at h1
          exact h1
        rw [e1] at Y hS6
        have Y : Wd D τ s A s.heap (bl [[(sb, .inr (1, [.ref u6.1, .int (iI (0)), .int (iI (0)), .int (iI ((((jnX ((List.range (i + 1)).map (lkX (cellN xs Ln)))).length : Nat) : Int)))]))], [(u6.1, .inl (τ 1, u6.2.1, .inl (u6.2.2)))]]) _ _ := Y
        exact ih H locs ls _ _ ⟨u6, hS6, lv_sub hl [1, 2, 3, 0] rfl, Y.pick [0, 1] (by decide) rfl, by omega, by omega⟩
      · have c4 := (iI_eq0 (a := ((((cellN xs Ln (9 + i)) % 2) : Nat) : Int)) (by omega) (by omega)).mp c4
        refine lv_iconst (v := (iI (0))) B.1 B.2.1 dL_path_110 (by decide) ?_
        refine lv_goto (tgt := 127) B.1 B.2.1 dL_path_111 (by decide) ?_
        refine qQ (Cs := [[(sb, .inr (1, [.ref u6.1, .int (iI (0)), .int (iI (0)), .int (iI (((T41.length : Nat) : Int)))]))], [(u6.1, .inl (τ 1, u6.2.1, .inl (u6.2.2)))]]) (Rs := []) Y [0, 1] [] (by decide) rfl (cVE (As := [.int (iI (0))]) (rest := []) (q0 := 0) (KJ.ok K) hK B Y [0, 1] (by decide) rfl (k4_appInt l D τ _ K sb u6.1 u6.2.1 T41 (u6.2.2) hS6 0 (by omega) (by omega)) rfl rfl q_1397 q_1398 q_1399 q_14 q_1400 rfl rfl hd_J4_append_bf812 ⟨(Nat.le_of_ble_eq_true rfl), (Nat.le_of_ble_eq_true rfl)⟩ rfl hl.1 rfl (Nat.le_of_ble_eq_true rfl) dL_path_127 ⟨by show _ ≤ KC - s.heap.size; omega, by show _ ≤ KS - totS s.heap; omega⟩) (fun r u6 H locs hw Y => ?_)
        obtain ⟨hw, hS6⟩ := hw
        subst hw
        obtain ⟨T45, hT45⟩ : ∃ t : List Int, t = T41 ++ dgL 0 := ⟨_, rfl⟩
        rw [← hT45] at Y hS6
        have hLT45 : T45.length = T41.length + (dgL 0).length := by rw [hT45, List.length_append]
        have Y : Wd D τ s A s.heap (bl [[(sb, .inr (1, [.ref u6.1, .int (iI (0)), .int (iI (0)), .int (iI (((T45.length : Nat) : Int)))]))], [(u6.1, .inl (τ 1, u6.2.1, .inl (u6.2.2)))]]) _ _ := Y
        show W _ _ _ _ _ _ _ _ _ _ _ _ _ _ _ (F0 m _ ls (.ref sb :: []))
        refine lv_pop B.1 B.2.1 dL_path_130 rfl ?_
        refine lv_iinc (v := (iI (((i + 1) : Nat) : Int))) (lv' := [(3, .int (iI (((i + 1) : Nat) : Int))), (0, .ref bs), (1, .ref sb), (2, .int (iI ((nl : Nat) : Int)))]) B.1 B.2.1 dL_path_131 hl (k := 3) rfl (iI_inc _) (by decide) rfl (fun ls hl => ?_)
        refine lv_goto (tgt := 20) B.1 B.2.1 dL_path_134 (by decide) ?_
        have e0 : (lkX (cellN xs Ln) i).d0 = dgL (28 + cellN xs Ln (1 + i) % 1200) := by
          show dgL (28 + cellN xs Ln (1 + i) % (if i = 0 then 1200 else 300)) = _
          rw [if_pos (by omega)]
        have e2 : (lkX (cellN xs Ln) i).d2 = dgL 0 := by
          show dgL (if cellN xs Ln (9 + i) % 2 = 0 then 0 else 2 + cellN xs Ln (9 + i) % 30) = _
          rw [if_pos (by omega)]
        have e1 : T45 = (jnX ((List.range (i + 1)).map (lkX (cellN xs Ln)))) := by
          have hi0 : i = 0 := by omega
          rw [hT45, hT41, hT40, hT38, hT37, hT35, hT34, hT21]
          rw [hi0] at e0 e2 ⊢
          have h1 := lkX_first (cellN xs Ln)
          rw [e0, e2] at h1
          exact h1
        rw [e1] at Y hS6
        have Y : Wd D τ s A s.heap (bl [[(sb, .inr (1, [.ref u6.1, .int (iI (0)), .int (iI (0)), .int (iI ((((jnX ((List.range (i + 1)).map (lkX (cellN xs Ln)))).length : Nat) : Int)))]))], [(u6.1, .inl (τ 1, u6.2.1, .inl (u6.2.2)))]]) _ _ := Y
        exact ih H locs ls _ _ ⟨u6, hS6, lv_sub hl [1, 2, 3, 0] rfl, Y.pick [0, 1] (by decide) rfl, by omega, by omega⟩

