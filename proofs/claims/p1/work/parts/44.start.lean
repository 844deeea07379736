def NW : List Cond := [.isRef (.static Bundle.tN "UNASSIGNED_STACK" Bundle.steD), .isRef (.static Bundle.tN "SUPPRESSED_SENTINEL" Bundle.listD), .eq (.static "java/lang/String" "COMPACT_STRINGS" "Z") (.int 1), .not (.castable "java/lang/IllegalArgumentException" "java/lang/IndexOutOfBoundsException"), .exactly (.string "FragmentPath$Reader" 119) "java/lang/String", .eq (.field (.string "FragmentPath$Reader" 119) "java/lang/String" "coder" "B") (.int 0), .arrayOf (.field (.string "FragmentPath$Reader" 119) "java/lang/String" "value" "[B") .byte, .eq (.length (.field (.string "FragmentPath$Reader" 119) "java/lang/String" "value" "[B")) (.int 4), .eq (.elem (.field (.string "FragmentPath$Reader" 119) "java/lang/String" "value" "[B") (.int 0)) (.int 108), .eq (.elem (.field (.string "FragmentPath$Reader" 119) "java/lang/String" "value" "[B") (.int 1)) (.int 105), .eq (.elem (.field (.string "FragmentPath$Reader" 119) "java/lang/String" "value" "[B") (.int 2)) (.int 110), .eq (.elem (.field (.string "FragmentPath$Reader" 119) "java/lang/String" "value" "[B") (.int 3)) (.int 107), .exactly (.string "FragmentPath$Reader" 121) "java/lang/String", .eq (.field (.string "FragmentPath$Reader" 121) "java/lang/String" "coder" "B") (.int 0), .arrayOf (.field (.string "FragmentPath$Reader" 121) "java/lang/String" "value" "[B") .byte, .eq (.length (.field (.string "FragmentPath$Reader" 121) "java/lang/String" "value" "[B")) (.int 4), .eq (.elem (.field (.string "FragmentPath$Reader" 121) "java/lang/String" "value" "[B") (.int 0)) (.int 108), .eq (.elem (.field (.string "FragmentPath$Reader" 121) "java/lang/String" "value" "[B") (.int 1)) (.int 105), .eq (.elem (.field (.string "FragmentPath$Reader" 121) "java/lang/String" "value" "[B") (.int 2)) (.int 102), .eq (.elem (.field (.string "FragmentPath$Reader" 121) "java/lang/String" "value" "[B") (.int 3)) (.int 101), .exactly (.string "FragmentPath$Reader" 123) "java/lang/String", .eq (.field (.string "FragmentPath$Reader" 123) "java/lang/String" "coder" "B") (.int 0), .arrayOf (.field (.string "FragmentPath$Reader" 123) "java/lang/String" "value" "[B") .byte, .eq (.length (.field (.string "FragmentPath$Reader" 123) "java/lang/String" "value" "[B")) (.int 6), .eq (.elem (.field (.string "FragmentPath$Reader" 123) "java/lang/String" "value" "[B") (.int 0)) (.int 112), .eq (.elem (.field (.string "FragmentPath$Reader" 123) "java/lang/String" "value" "[B") (.int 1)) (.int 111), .eq (.elem (.field (.string "FragmentPath$Reader" 123) "java/lang/String" "value" "[B") (.int 2)) (.int 108), .eq (.elem (.field (.string "FragmentPath$Reader" 123) "java/lang/String" "value" "[B") (.int 3)) (.int 105), .eq (.elem (.field (.string "FragmentPath$Reader" 123) "java/lang/String" "value" "[B") (.int 4)) (.int 99), .eq (.elem (.field (.string "FragmentPath$Reader" 123) "java/lang/String" "value" "[B") (.int 5)) (.int 121), .exactly (.string "FragmentPath$Reader" 125) "java/lang/String", .eq (.field (.string "FragmentPath$Reader" 125) "java/lang/String" "coder" "B") (.int 0), .arrayOf (.field (.string "FragmentPath$Reader" 125) "java/lang/String" "value" "[B") .byte, .eq (.length (.field (.string "FragmentPath$Reader" 125) "java/lang/String" "value" "[B")) (.int 4), .eq (.elem (.field (.string "FragmentPath$Reader" 125) "java/lang/String" "value" "[B") (.int 0)) (.int 115), .eq (.elem (.field (.string "FragmentPath$Reader" 125) "java/lang/String" "value" "[B") (.int 1)) (.int 101), .eq (.elem (.field (.string "FragmentPath$Reader" 125) "java/lang/String" "value" "[B") (.int 2)) (.int 110), .eq (.elem (.field (.string "FragmentPath$Reader" 125) "java/lang/String" "value" "[B") (.int 3)) (.int 100)]

theorem NW_in : ∀ w ∈ NW, w ∈ flatC (Jvm.Cond.and given_1 narrow_1) := by decide +kernel

theorem nestW_in : ∀ w ∈ nestW, w ∈ lw_tbl := by decide +kernel
theorem castW_in : ∀ w ∈ castW, w ∈ lw_tbl := by decide +kernel
theorem declW_in : ∀ w ∈ declW, w ∈ lw_tbl := by decide +kernel

theorem strW_in : ∀ q ∈ strW, Cond.stringRef q.1 q.2.1 q.2.2 ∈ lw_tbl := by decide +kernel

theorem strW_ref {args : Array Value} {s : State} {own tx : String} {k : Nat} (h : (Cond.stringRef own k tx).before args s = true) : ∃ a : Nat, vk_R own k tx a s := by
  have hcur : ∃ cur, s.vm.findClass own = some cur := by
    have h1 := h
    simp only [Cond.before, Cond.holds, Cond.value] at h1
    cases hc : s.vm.findClass own with
    | none => simp [hc] at h1
    | some cur => exact ⟨cur, rfl⟩
  obtain ⟨cur, hcur⟩ := hcur
  obtain ⟨k9, cf, i, a, h1, h2, h3, -, h4, h5⟩ := Cond.stringRef_spec hcur h
  exact ⟨a, vk_R.of h h5⟩

set_option maxHeartbeats 4000000 in
set_option maxRecDepth 100000 in
theorem start_of {p : Program} {s : State} {m : MethodId} {meth : Method} {c : Code} {b L : Nat} {xs : Nat → Int32} (C0 : lw_At p s m meth c b L xs) : ∃ (D : va_G) (τ : Nat → ClassId) (adK adV : Nat → Nat), Gw D τ s ∧ Hz adK adV (fun q => s.heap.size ≤ q) s := by
  obtain ⟨hx, hb, hr, hml, hown, hts, hX, hbl, hlocks, hgv⟩ := C0
  have hq : ∀ w ∈ NW, w.before #[Value.ref b] s = true := fun w h => flat_of_before _ hgv w (NW_in w h)
  have hA : ∀ a : Nat, a < s.heap.size → ¬ (fun q => s.heap.size ≤ q) a := fun a h1 h2 => Nat.lt_irrefl _ (Nat.lt_of_lt_of_le h1 h2)
  obtain ⟨c0, i0, K0⟩ := u_known (C := RX0) (T := TX0) (N := 13) (n := 13) hts iX0 (hts (.instantiable RX0 13) (by decide +kernel))
  obtain ⟨c1, i1, K1⟩ := u_known (C := RX1) (T := TX1) (N := 8) (n := 8) hts iX1 (hts (.instantiable RX1 8) (by decide +kernel))
  obtain ⟨c2, i2, K2⟩ := u_known (C := RX2) (T := TX2) (N := 8) (n := 8) hts iX2 (hts (.instantiable RX2 8) (by decide +kernel))
  obtain ⟨c3, i3, K3⟩ := u_known (C := RX3) (T := TX3) (N := 8) (n := 8) hts iX3 (hts (.instantiable RX3 8) (by decide +kernel))
  obtain ⟨c4, i4, K4⟩ := u_known (C := RX4) (T := TX4) (N := 5) (n := 5) hts iX4 (hts (.instantiable RX4 5) (by decide +kernel))
  obtain ⟨c5, i5, K5⟩ := u_known (C := RX5) (T := TX5) (N := 13) (n := 13) hts iX5 (hts (.instantiable RX5 13) (by decide +kernel))
  obtain ⟨c6, i6, K6⟩ := u_known (C := RX6) (T := TX6) (N := 11) (n := 11) hts iX6 (hts (.instantiable RX6 11) (by decide +kernel))
  obtain ⟨c7, i7, K7⟩ := u_known (C := RX7) (T := TX7) (N := 14) (n := 14) hts iX7 (hts (.instantiable RX7 14) (by decide +kernel))
  obtain ⟨c8, i8, K8⟩ := u_known (C := RX8) (T := TX8) (N := 2) (n := 2) hts iX8 (hts (.instantiable RX8 2) (by decide +kernel))
  obtain ⟨c9, i9, K9⟩ := u_known (C := RX9) (T := TX9) (N := 9) (n := 9) hts iX9 (hts (.instantiable RX9 9) (by decide +kernel))
  obtain ⟨c10, i10, K10⟩ := u_known (C := RX10) (T := TX10) (N := 30) (n := 30) hts iX10 (hts (.instantiable RX10 30) (by decide +kernel))
  obtain ⟨t0, T0⟩ := tyP (ty := .int) (fun C h => by cases h) (hts (.arrayClass .int) (by decide +kernel))
  obtain ⟨t1, T1⟩ := tyP (ty := .byte) (fun C h => by cases h) (hts (.arrayClass .byte) (by decide +kernel))
  obtain ⟨t2, T2⟩ := tyP (ty := .boolean) (fun C h => by cases h) (hts (.arrayClass .boolean) (by decide +kernel))
  obtain ⟨t3, T3⟩ := tyO (C := "FragmentPath$Link") (hts (.arrayOver (.object "FragmentPath$Link")) (by decide +kernel))
  obtain ⟨t4, T4⟩ := tyO (C := "FragmentPath$Datagram") (hts (.arrayOver (.object "FragmentPath$Datagram")) (by decide +kernel))
  obtain ⟨t5, T5⟩ := tyO (C := "FragmentPath$Heap") (hts (.arrayOver (.object "FragmentPath$Heap")) (by decide +kernel))
  obtain ⟨t6, T6⟩ := tyO (C := "FragmentPath$State") (hts (.arrayOver (.object "FragmentPath$State")) (by decide +kernel))
  obtain ⟨t7, T7⟩ := tyP (ty := .long) (fun C h => by cases h) (hts (.arrayClass .long) (by decide +kernel))
  have hKc : ∀ (k : Nat) (q : vw_C), vwCl[k]? = some q → u_Kn s q.1 q.2.1 q.2.2 (([c0, c1, c2, c3, c4, c5, c6, c7, c8, c9, c10] : List ClassId).getD k c0) (([i0, i1, i2, i3, i4, i5, i6, i7, i8, i9, i10] : List (Nat → Nat)).getD k i0) := by
    intro k q hk
    rcases (show k = 0 ∨ k = 1 ∨ k = 2 ∨ k = 3 ∨ k = 4 ∨ k = 5 ∨ k = 6 ∨ k = 7 ∨ k = 8 ∨ k = 9 ∨ k = 10 ∨ 11 ≤ k by omega) with rfl | rfl | rfl | rfl | rfl | rfl | rfl | rfl | rfl | rfl | rfl | h
    · cases hk; exact K0
    · cases hk; exact K1
    · cases hk; exact K2
    · cases hk; exact K3
    · cases hk; exact K4
    · cases hk; exact K5
    · cases hk; exact K6
    · cases hk; exact K7
    · cases hk; exact K8
    · cases hk; exact K9
    · cases hk; exact K10
    · rw [List.getElem?_eq_none (show vwCl.length ≤ k from h)] at hk; cases hk
  have hKt : ∀ (k : Nat) (q : ClassId × FieldType), (gTys (fun k : Nat => ([t0, t1, t2, t3, t4, t5, t6, t7] : List ClassId).getD k t0))[k]? = some q → ArrOfT s q.1 q.2 ∧ va_RA s q.1 q.2 := by
    intro k q hk
    rcases (show k = 0 ∨ k = 1 ∨ k = 2 ∨ k = 3 ∨ k = 4 ∨ k = 5 ∨ k = 6 ∨ k = 7 ∨ 8 ≤ k by omega) with rfl | rfl | rfl | rfl | rfl | rfl | rfl | rfl | h
    · cases hk; exact T0
    · cases hk; exact T1
    · cases hk; exact T2
    · cases hk; exact T3
    · cases hk; exact T4
    · cases hk; exact T5
    · cases hk; exact T6
    · cases hk; exact T7
    · rw [List.getElem?_eq_none (show (gTys (fun k : Nat => ([t0, t1, t2, t3, t4, t5, t6, t7] : List ClassId).getD k t0)).length ≤ k from h)] at hk; cases hk
  have q0 := vk_Sof (args := #[Value.ref b]) (s := s) (N := 1) (tm := fun _ => .string "FragmentPath$Reader" 119) (len := [lenW.getD 0 0]) (byt := [bytW.getD 0 []]) (A := fun q => s.heap.size ≤ q) (fun i hi => by rcases (show i = 0 by omega) with rfl; decide) (fun i hi => hq _ (by decide +kernel)) (fun i hi => hq _ (by decide +kernel)) (fun i hi => hq _ (by decide +kernel)) (fun i hi => by rcases (show i = 0 by omega) with rfl; exact hq _ (by decide +kernel)) (by
      intro i hi j hj
      rcases (show i = 0 by omega) with rfl
      have hj : j < 4 := hj
      rcases (show j = 0 ∨ j = 1 ∨ j = 2 ∨ j = 3 by omega) with rfl | rfl | rfl | rfl
      · exact hq _ (by decide +kernel)
      · exact hq _ (by decide +kernel)
      · exact hq _ (by decide +kernel)
      · exact hq _ (by decide +kernel)) (fun i j hi hj hij => absurd (show i = j by omega) hij) hA
  obtain ⟨aK0, aV0, hS0, hK0⟩ := q0
  have q1 := vk_Sof (args := #[Value.ref b]) (s := s) (N := 1) (tm := fun _ => .string "FragmentPath$Reader" 121) (len := [lenW.getD 1 0]) (byt := [bytW.getD 1 []]) (A := fun q => s.heap.size ≤ q) (fun i hi => by rcases (show i = 0 by omega) with rfl; decide) (fun i hi => hq _ (by decide +kernel)) (fun i hi => hq _ (by decide +kernel)) (fun i hi => hq _ (by decide +kernel)) (fun i hi => by rcases (show i = 0 by omega) with rfl; exact hq _ (by decide +kernel)) (by
      intro i hi j hj
      rcases (show i = 0 by omega) with rfl
      have hj : j < 4 := hj
      rcases (show j = 0 ∨ j = 1 ∨ j = 2 ∨ j = 3 by omega) with rfl | rfl | rfl | rfl
      · exact hq _ (by decide +kernel)
      · exact hq _ (by decide +kernel)
      · exact hq _ (by decide +kernel)
      · exact hq _ (by decide +kernel)) (fun i j hi hj hij => absurd (show i = j by omega) hij) hA
  obtain ⟨aK1, aV1, hS1, hK1⟩ := q1
  have q2 := vk_Sof (args := #[Value.ref b]) (s := s) (N := 1) (tm := fun _ => .string "FragmentPath$Reader" 123) (len := [lenW.getD 2 0]) (byt := [bytW.getD 2 []]) (A := fun q => s.heap.size ≤ q) (fun i hi => by rcases (show i = 0 by omega) with rfl; decide) (fun i hi => hq _ (by decide +kernel)) (fun i hi => hq _ (by decide +kernel)) (fun i hi => hq _ (by decide +kernel)) (fun i hi => by rcases (show i = 0 by omega) with rfl; exact hq _ (by decide +kernel)) (by
      intro i hi j hj
      rcases (show i = 0 by omega) with rfl
      have hj : j < 6 := hj
      rcases (show j = 0 ∨ j = 1 ∨ j = 2 ∨ j = 3 ∨ j = 4 ∨ j = 5 by omega) with rfl | rfl | rfl | rfl | rfl | rfl
      · exact hq _ (by decide +kernel)
      · exact hq _ (by decide +kernel)
      · exact hq _ (by decide +kernel)
      · exact hq _ (by decide +kernel)
      · exact hq _ (by decide +kernel)
      · exact hq _ (by decide +kernel)) (fun i j hi hj hij => absurd (show i = j by omega) hij) hA
  obtain ⟨aK2, aV2, hS2, hK2⟩ := q2
  have q3 := vk_Sof (args := #[Value.ref b]) (s := s) (N := 1) (tm := fun _ => .string "FragmentPath$Reader" 125) (len := [lenW.getD 3 0]) (byt := [bytW.getD 3 []]) (A := fun q => s.heap.size ≤ q) (fun i hi => by rcases (show i = 0 by omega) with rfl; decide) (fun i hi => hq _ (by decide +kernel)) (fun i hi => hq _ (by decide +kernel)) (fun i hi => hq _ (by decide +kernel)) (fun i hi => by rcases (show i = 0 by omega) with rfl; exact hq _ (by decide +kernel)) (by
      intro i hi j hj
      rcases (show i = 0 by omega) with rfl
      have hj : j < 4 := hj
      rcases (show j = 0 ∨ j = 1 ∨ j = 2 ∨ j = 3 by omega) with rfl | rfl | rfl | rfl
      · exact hq _ (by decide +kernel)
      · exact hq _ (by decide +kernel)
      · exact hq _ (by decide +kernel)
      · exact hq _ (by decide +kernel)) (fun i j hi hj hij => absurd (show i = j by omega) hij) hA
  obtain ⟨aK3, aV3, hS3, hK3⟩ := q3
  refine ⟨(fun k => ([c0, c1, c2, c3, c4, c5, c6, c7, c8, c9, c10] : List ClassId).getD k c0, fun k => ([i0, i1, i2, i3, i4, i5, i6, i7, i8, i9, i10] : List (Nat → Nat)).getD k i0), (fun k : Nat => ([t0, t1, t2, t3, t4, t5, t6, t7] : List ClassId).getD k t0), (fun i => [aK0 0, aK1 0, aK2 0, aK3 0].getD i 0), (fun i => [aV0 0, aV1 0, aV2 0, aV3 0].getD i 0), ⟨⟨hKc, hKt⟩, fun w hw => ?_, va_AO.of (hts _ (by decide +kernel)), va_AO.of (hts _ (by decide +kernel)), va_AO.of (hts _ (by decide +kernel)), va_AO.of (hts _ (by decide +kernel)), fun w hw => ?_, fun w hw => ?_, fun q hq2 => strW_ref (hts _ (strW_in q hq2))⟩, ⟨vx_Zqof (hts _ (by decide +kernel)) (hts _ (by decide +kernel)) (hq _ (by decide +kernel)) hA, vx_Zqof (hts _ (by decide +kernel)) (hts _ (by decide +kernel)) (hq _ (by decide +kernel)) hA⟩, ⟨fun i hi => ?_, fun i hi => ?_, va_Zof (hts _ (by decide +kernel)) (hts _ (by decide +kernel)) (va_eqt (hq _ (by decide +kernel))) hA⟩, va_Nc.of (hq _ (by decide +kernel))⟩
  · have h9 := hts _ (nestW_in w hw)
    obtain ⟨a, i, x, h, rfl⟩ := nestW_is w hw
    exact va_Nw.of rfl h9
  · have h9 := hts _ (castW_in w hw)
    obtain ⟨a, d, rfl⟩ := castW_is w hw
    exact va_Nw.of rfl h9
  · have h9 := hts _ (declW_in w hw)
    obtain ⟨x, rfl⟩ := declW_is w hw
    exact va_Nw.of rfl h9
  · rcases (show i = 0 ∨ i = 1 ∨ i = 2 ∨ i = 3 by omega) with rfl | rfl | rfl | rfl
    · exact ⟨fun i hi => by rcases (show i = 0 by omega) with rfl; exact hS0.1 0 hi, fun i j hi hj _ => by omega⟩
    · exact ⟨fun i hi => by rcases (show i = 0 by omega) with rfl; exact hS1.1 0 hi, fun i j hi hj _ => by omega⟩
    · exact ⟨fun i hi => by rcases (show i = 0 by omega) with rfl; exact hS2.1 0 hi, fun i j hi hj _ => by omega⟩
    · exact ⟨fun i hi => by rcases (show i = 0 by omega) with rfl; exact hS3.1 0 hi, fun i j hi hj _ => by omega⟩
  · refine vk_R.of (A := #[Value.ref b]) ?_ ?_
    · rcases (show i = 0 ∨ i = 1 ∨ i = 2 ∨ i = 3 by omega) with rfl | rfl | rfl | rfl
      · exact hts _ (by decide +kernel)
      · exact hts _ (by decide +kernel)
      · exact hts _ (by decide +kernel)
      · exact hts _ (by decide +kernel)
    · rcases (show i = 0 ∨ i = 1 ∨ i = 2 ∨ i = 3 by omega) with rfl | rfl | rfl | rfl
      · exact hK0 0 (by decide)
      · exact hK1 0 (by decide)
      · exact hK2 0 (by decide)
      · exact hK3 0 (by decide)
