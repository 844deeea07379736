theorem nestW_in : ∀ w ∈ nestW, w ∈ lw_tbl := by decide +kernel
theorem castW_in : ∀ w ∈ castW, w ∈ lw_tbl := by decide +kernel
theorem declW_in : ∀ w ∈ declW, w ∈ lw_tbl := by decide +kernel
theorem strW_in : ∀ q ∈ strW, Cond.stringRef q.1 q.2.1 q.2.2 ∈ lw_tbl := by decide +kernel
theorem ksW_in : ∀ i : Nat, i < 20 → Cond.stringRef (ksOl.getD i "") (ksIl.getD i 0) (ksXl.getD i "") ∈ lw_tbl := by decide +kernel
theorem ksE_in : ∀ i : Nat, i < 20 → Cond.exactly (.string (ksOl.getD i "") (ksIl.getD i 0)) "java/lang/String" ∈ flatC (Jvm.Cond.and given_1 narrow_1) := by decide +kernel
theorem ksC_in : ∀ i : Nat, i < 20 → Cond.eq (.field (.string (ksOl.getD i "") (ksIl.getD i 0)) "java/lang/String" "coder" "B") (.int 0) ∈ flatC (Jvm.Cond.and given_1 narrow_1) := by decide +kernel
theorem ksA_in : ∀ i : Nat, i < 20 → Cond.arrayOf (.field (.string (ksOl.getD i "") (ksIl.getD i 0)) "java/lang/String" "value" "[B") .byte ∈ flatC (Jvm.Cond.and given_1 narrow_1) := by decide +kernel
theorem ksN_in : ∀ i : Nat, i < 20 → Cond.eq (.length (.field (.string (ksOl.getD i "") (ksIl.getD i 0)) "java/lang/String" "value" "[B")) (.int (Int32.ofNat (ksBl.getD i []).length)) ∈ flatC (Jvm.Cond.and given_1 narrow_1) := by decide +kernel
def subB : List Cond → List Cond → Bool
  | [], _ => true
  | _ :: _, [] => false
  | a :: l, b :: m => if a = b then subB l m else subB (a :: l) m
theorem subB_mem (m : List Cond) : ∀ l : List Cond, subB l m = true → ∀ w ∈ l, w ∈ m := by
  induction m with
  | nil =>
    intro l h w hw
    cases l with
    | nil => exact hw
    | cons a l => rw [subB] at h; cases h
  | cons b m ih =>
    intro l h w hw
    cases l with
    | nil => exact absurd hw List.not_mem_nil
    | cons a l =>
      rw [subB] at h
      by_cases e : a = b
      · rw [if_pos e] at h
        rcases List.mem_cons.mp hw with q | q
        · rw [q, e]; exact List.mem_cons_self
        · exact List.mem_cons_of_mem _ (ih l h w q)
      · rw [if_neg e] at h
        exact List.mem_cons_of_mem _ (ih (a :: l) h w hw)
theorem ksJ_s : subB (((List.range 20).map (fun i => (List.range (ksBl.getD i []).length).map (fun j => Cond.eq (.elem (.field (.string (ksOl.getD i "") (ksIl.getD i 0)) "java/lang/String" "value" "[B") (.int (Int32.ofNat j))) (.int ((ksBl.getD i []).getD j 0))))).flatten) (flatC (Jvm.Cond.and given_1 narrow_1)) = true := by decide +kernel
theorem ksJ_in : ∀ i : Nat, i < 20 → ∀ j : Nat, j < (ksBl.getD i []).length → Cond.eq (.elem (.field (.string (ksOl.getD i "") (ksIl.getD i 0)) "java/lang/String" "value" "[B") (.int (Int32.ofNat j))) (.int ((ksBl.getD i []).getD j 0)) ∈ flatC (Jvm.Cond.and given_1 narrow_1) := fun i hi j hj => subB_mem _ _ ksJ_s _ (List.mem_flatten.mpr ⟨_, List.mem_map.mpr ⟨i, List.mem_range.mpr hi, rfl⟩, List.mem_map.mpr ⟨j, List.mem_range.mpr hj, rfl⟩⟩)
theorem arNum_s : subB ((List.range 10).map (fun j => Cond.eq (.elem (.static "FragmentPath$Reader" "NUMBERS" "[I") (.int (Int32.ofNat j))) (.int (iI (numL.getD j 0))))) (flatC (Jvm.Cond.and given_1 narrow_1)) = true := by decide +kernel
theorem arNum_in : ∀ j : Nat, j < 10 → Cond.eq (.elem (.static "FragmentPath$Reader" "NUMBERS" "[I") (.int (Int32.ofNat j))) (.int (iI (numL.getD j 0))) ∈ flatC (Jvm.Cond.and given_1 narrow_1) := fun j hj => subB_mem _ _ arNum_s _ (List.mem_map.mpr ⟨j, List.mem_range.mpr hj, rfl⟩)
theorem arNum_a : Cond.arrayOf (.static "FragmentPath$Reader" "NUMBERS" "[I") .int ∈ flatC (Jvm.Cond.and given_1 narrow_1) := by decide +kernel
theorem arNum_n : Cond.eq (.length (.static "FragmentPath$Reader" "NUMBERS" "[I")) (.int (Int32.ofNat 10)) ∈ flatC (Jvm.Cond.and given_1 narrow_1) := by decide +kernel
theorem arLst_s : subB ((List.range 40).map (fun j => Cond.eq (.elem (.static "FragmentPath$Reader" "LEAST" "[I") (.int (Int32.ofNat j))) (.int (iI (lstL.getD j 0))))) (flatC (Jvm.Cond.and given_1 narrow_1)) = true := by decide +kernel
theorem arLst_in : ∀ j : Nat, j < 40 → Cond.eq (.elem (.static "FragmentPath$Reader" "LEAST" "[I") (.int (Int32.ofNat j))) (.int (iI (lstL.getD j 0))) ∈ flatC (Jvm.Cond.and given_1 narrow_1) := fun j hj => subB_mem _ _ arLst_s _ (List.mem_map.mpr ⟨j, List.mem_range.mpr hj, rfl⟩)
theorem arLst_a : Cond.arrayOf (.static "FragmentPath$Reader" "LEAST" "[I") .int ∈ flatC (Jvm.Cond.and given_1 narrow_1) := by decide +kernel
theorem arLst_n : Cond.eq (.length (.static "FragmentPath$Reader" "LEAST" "[I")) (.int (Int32.ofNat 40)) ∈ flatC (Jvm.Cond.and given_1 narrow_1) := by decide +kernel
theorem arGrt_s : subB ((List.range 40).map (fun j => Cond.eq (.elem (.static "FragmentPath$Reader" "GREATEST" "[I") (.int (Int32.ofNat j))) (.int (iI (grtL.getD j 0))))) (flatC (Jvm.Cond.and given_1 narrow_1)) = true := by decide +kernel
theorem arGrt_in : ∀ j : Nat, j < 40 → Cond.eq (.elem (.static "FragmentPath$Reader" "GREATEST" "[I") (.int (Int32.ofNat j))) (.int (iI (grtL.getD j 0))) ∈ flatC (Jvm.Cond.and given_1 narrow_1) := fun j hj => subB_mem _ _ arGrt_s _ (List.mem_map.mpr ⟨j, List.mem_range.mpr hj, rfl⟩)
theorem arGrt_a : Cond.arrayOf (.static "FragmentPath$Reader" "GREATEST" "[I") .int ∈ flatC (Jvm.Cond.and given_1 narrow_1) := by decide +kernel
theorem arGrt_n : Cond.eq (.length (.static "FragmentPath$Reader" "GREATEST" "[I")) (.int (Int32.ofNat 40)) ∈ flatC (Jvm.Cond.and given_1 narrow_1) := by decide +kernel
theorem arOne_s : subB ((List.range 100).map (fun j => Cond.eq (.elem (.static "java/lang/Integer" "DigitOnes" "[B") (.int (Int32.ofNat j))) (.int (iI ((48 + j % 10 : Nat) : Int))))) (flatC (Jvm.Cond.and given_1 narrow_1)) = true := by decide +kernel
theorem arOne_in : ∀ j : Nat, j < 100 → Cond.eq (.elem (.static "java/lang/Integer" "DigitOnes" "[B") (.int (Int32.ofNat j))) (.int (iI ((48 + j % 10 : Nat) : Int))) ∈ flatC (Jvm.Cond.and given_1 narrow_1) := fun j hj => subB_mem _ _ arOne_s _ (List.mem_map.mpr ⟨j, List.mem_range.mpr hj, rfl⟩)
theorem arOne_a : Cond.arrayOf (.static "java/lang/Integer" "DigitOnes" "[B") .byte ∈ flatC (Jvm.Cond.and given_1 narrow_1) := by decide +kernel
theorem arOne_n : Cond.eq (.length (.static "java/lang/Integer" "DigitOnes" "[B")) (.int (Int32.ofNat 100)) ∈ flatC (Jvm.Cond.and given_1 narrow_1) := by decide +kernel
theorem arTen_s : subB ((List.range 100).map (fun j => Cond.eq (.elem (.static "java/lang/Integer" "DigitTens" "[B") (.int (Int32.ofNat j))) (.int (iI ((48 + j / 10 : Nat) : Int))))) (flatC (Jvm.Cond.and given_1 narrow_1)) = true := by decide +kernel
theorem arTen_in : ∀ j : Nat, j < 100 → Cond.eq (.elem (.static "java/lang/Integer" "DigitTens" "[B") (.int (Int32.ofNat j))) (.int (iI ((48 + j / 10 : Nat) : Int))) ∈ flatC (Jvm.Cond.and given_1 narrow_1) := fun j hj => subB_mem _ _ arTen_s _ (List.mem_map.mpr ⟨j, List.mem_range.mpr hj, rfl⟩)
theorem arTen_a : Cond.arrayOf (.static "java/lang/Integer" "DigitTens" "[B") .byte ∈ flatC (Jvm.Cond.and given_1 narrow_1) := by decide +kernel
theorem arTen_n : Cond.eq (.length (.static "java/lang/Integer" "DigitTens" "[B")) (.int (Int32.ofNat 100)) ∈ flatC (Jvm.Cond.and given_1 narrow_1) := by decide +kernel
theorem strW_ref {args : Array Value} {s : State} {own tx : String} {k : Nat} (h : (Cond.stringRef own k tx).before args s = true) : ∃ a : Nat, vk_R own k tx a s := by
  have hcur : ∃ cur, s.vm.findClass own = some cur := by
    have h1 := h
    simp only [Cond.before, Cond.holds, Cond.value] at h1
    cases hc : s.vm.findClass own with
    | none => simp [hc] at h1
    | some cur => exact ⟨cur, rfl⟩
  obtain ⟨cur, hcur⟩ := hcur
  obtain ⟨k9, cf, i, a, h1, h2, h3, -, h4, h5⟩ := Cond.stringRef_spec hcur h
  exact ⟨a, vk_R.of h h5⟩
theorem tyP {args : Array Value} {s : State} {ty : FieldType} (hty : ∀ C, ty ≠ .object C) (h : (Cond.arrayClass ty).before args s = true) : ∃ cA : ClassId, ArrOfT s cA ty ∧ va_RA s cA ty := by
  obtain ⟨cA, kA, comp, h1, h2, h3⟩ := Cond.arrayClass_spec h
  refine ⟨cA, fun n z => ⟨fun k h => (by cases h), kA, h2, comp, h3⟩, ?_⟩
  cases ty with
  | object C => exact absurd rfl (hty C)
  | _ => exact h1
theorem tyO {args : Array Value} {s : State} {C : String} (h : (Cond.arrayOver (.object C)).before args s = true) : ∃ cA : ClassId, ArrOfT s cA (.object C) ∧ va_RA s cA (.object C) := by
  obtain ⟨comp, cA, kA, h1, h2, h3, h4, h5⟩ := Cond.arrayOver_spec h
  exact ⟨cA, fun n z => ⟨fun k h => (by cases h), kA, h3, comp, h4⟩, kA, comp, h3, h4, h1, h5⟩
set_option maxHeartbeats 4000000 in
set_option maxRecDepth 100000 in
theorem start_of {p : Program} {s : State} {m : MethodId} {meth : Method} {c : Code} {b L : Nat} {xs : Nat → Int32} (C0 : lw_At p s m meth c b L xs) : ∃ (D : va_G) (τ : Nat → ClassId) (K : Nat → Nat), Gw D τ s ∧ KJ K (fun q => s.heap.size ≤ q) s := by
  obtain ⟨hx, hb, hr, hml, hown, hts, hX, hbl, hlocks, hgv⟩ := C0
  have hq : ∀ w ∈ flatC (Jvm.Cond.and given_1 narrow_1), w.before #[Value.ref b] s = true := fun w h => flat_of_before _ hgv w h
  have hA : ∀ a : Nat, a < s.heap.size → ¬ (fun q => s.heap.size ≤ q) a := fun a h1 h2 => Nat.lt_irrefl _ (Nat.lt_of_lt_of_le h1 h2)
  obtain ⟨c0, i0, K0⟩ := u_known (C := RJ0) (T := TJ0) (N := 4) (n := 4) hts iJ0 (hts (.instantiable RJ0 4) (by decide +kernel))
  obtain ⟨c1, i1, K1⟩ := u_known (C := RJ4) (T := TJ4) (N := 4) (n := 4) hts iJ4 (hts (.instantiable RJ4 4) (by decide +kernel))
  obtain ⟨c2, i2, K2⟩ := u_known (C := RX0) (T := TX0) (N := 13) (n := 13) hts iX0 (hts (.instantiable RX0 13) (by decide +kernel))
  obtain ⟨c3, i3, K3⟩ := u_known (C := RX1) (T := TX1) (N := 8) (n := 8) hts iX1 (hts (.instantiable RX1 8) (by decide +kernel))
  obtain ⟨c4, i4, K4⟩ := u_known (C := RX2) (T := TX2) (N := 8) (n := 8) hts iX2 (hts (.instantiable RX2 8) (by decide +kernel))
  obtain ⟨c5, i5, K5⟩ := u_known (C := RX3) (T := TX3) (N := 8) (n := 8) hts iX3 (hts (.instantiable RX3 8) (by decide +kernel))
  obtain ⟨c6, i6, K6⟩ := u_known (C := RX4) (T := TX4) (N := 5) (n := 5) hts iX4 (hts (.instantiable RX4 5) (by decide +kernel))
  obtain ⟨c7, i7, K7⟩ := u_known (C := RX5) (T := TX5) (N := 13) (n := 13) hts iX5 (hts (.instantiable RX5 13) (by decide +kernel))
  obtain ⟨c8, i8, K8⟩ := u_known (C := RX6) (T := TX6) (N := 11) (n := 11) hts iX6 (hts (.instantiable RX6 11) (by decide +kernel))
  obtain ⟨c9, i9, K9⟩ := u_known (C := RX7) (T := TX7) (N := 14) (n := 14) hts iX7 (hts (.instantiable RX7 14) (by decide +kernel))
  obtain ⟨c10, i10, K10⟩ := u_known (C := RX8) (T := TX8) (N := 2) (n := 2) hts iX8 (hts (.instantiable RX8 2) (by decide +kernel))
  obtain ⟨c11, i11, K11⟩ := u_known (C := RX9) (T := TX9) (N := 9) (n := 9) hts iX9 (hts (.instantiable RX9 9) (by decide +kernel))
  obtain ⟨t0, T0⟩ := tyP (ty := .int) (fun C h => by cases h) (hts (.arrayClass .int) (by decide +kernel))
  obtain ⟨t1, T1⟩ := tyP (ty := .byte) (fun C h => by cases h) (hts (.arrayClass .byte) (by decide +kernel))
  obtain ⟨t2, T2⟩ := tyP (ty := .boolean) (fun C h => by cases h) (hts (.arrayClass .boolean) (by decide +kernel))
  obtain ⟨t3, T3⟩ := tyO (C := "FragmentPath$Link") (hts (.arrayOver (.object "FragmentPath$Link")) (by decide +kernel))
  obtain ⟨t4, T4⟩ := tyO (C := "FragmentPath$Datagram") (hts (.arrayOver (.object "FragmentPath$Datagram")) (by decide +kernel))
  obtain ⟨t5, T5⟩ := tyO (C := "FragmentPath$Heap") (hts (.arrayOver (.object "FragmentPath$Heap")) (by decide +kernel))
  obtain ⟨t6, T6⟩ := tyO (C := "FragmentPath$State") (hts (.arrayOver (.object "FragmentPath$State")) (by decide +kernel))
  have hKc : ∀ (k : Nat) (q : vw_C), vwCl[k]? = some q → u_Kn s q.1 q.2.1 q.2.2 (([c0, c1, c2, c3, c4, c5, c6, c7, c8, c9, c10, c11] : List ClassId).getD k c0) (([i0, i1, i2, i3, i4, i5, i6, i7, i8, i9, i10, i11] : List (Nat → Nat)).getD k i0) := by
    intro k q hk
    rcases (show k = 0 ∨ k = 1 ∨ k = 2 ∨ k = 3 ∨ k = 4 ∨ k = 5 ∨ k = 6 ∨ k = 7 ∨ k = 8 ∨ k = 9 ∨ k = 10 ∨ k = 11 ∨ 12 ≤ k by omega) with rfl | rfl | rfl | rfl | rfl | rfl | rfl | rfl | rfl | rfl | rfl | rfl | h
    · cases hk; exact K0
    · cases hk; exact K1
    · cases hk; exact K2
    · cases hk; exact K3
    · cases hk; exact K4
    · cases hk; exact K5
    · cases hk; exact K6
    · cases hk; exact K7
    · cases hk; exact K8
    · cases hk; exact K9
    · cases hk; exact K10
    · cases hk; exact K11
    · rw [List.getElem?_eq_none (show vwCl.length ≤ k from h)] at hk; cases hk
  have hKt : ∀ (k : Nat) (q : ClassId × FieldType), (gTys (fun k : Nat => ([t0, t1, t2, t3, t4, t5, t6] : List ClassId).getD k t0))[k]? = some q → ArrOfT s q.1 q.2 ∧ va_RA s q.1 q.2 := by
    intro k q hk
    rcases (show k = 0 ∨ k = 1 ∨ k = 2 ∨ k = 3 ∨ k = 4 ∨ k = 5 ∨ k = 6 ∨ 7 ≤ k by omega) with rfl | rfl | rfl | rfl | rfl | rfl | rfl | h
    · cases hk; exact T0
    · cases hk; exact T1
    · cases hk; exact T2
    · cases hk; exact T3
    · cases hk; exact T4
    · cases hk; exact T5
    · cases hk; exact T6
    · rw [List.getElem?_eq_none (show (gTys (fun k : Nat => ([t0, t1, t2, t3, t4, t5, t6] : List ClassId).getD k t0)).length ≤ k from h)] at hk; cases hk
  have hstr : ∀ i : Nat, ∃ q : Nat × Nat, i < 20 → vk_S 1 [(ksBl.getD i []).length] [ksBl.getD i []] (fun _ => q.1) (fun _ => q.2) (fun q => s.heap.size ≤ q) s s.heap ∧ (Term.string (ksOl.getD i "") (ksIl.getD i 0)).eval #[Value.ref b] s none [] s = some (.ref q.1) := by
    intro i
    by_cases hi : i < 20
    · have q := vk_Sof (args := #[Value.ref b]) (s := s) (N := 1) (tm := fun _ => .string (ksOl.getD i "") (ksIl.getD i 0)) (len := [(ksBl.getD i []).length]) (byt := [ksBl.getD i []]) (A := fun q => s.heap.size ≤ q) (fun k hk => by rcases (show k = 0 by omega) with rfl; exact (by decide +kernel : ∀ i : Nat, i < 20 → (ksBl.getD i []).length < 2 ^ 31) i hi) (fun k hk => hq _ (ksE_in i hi)) (fun k hk => hq _ (ksC_in i hi)) (fun k hk => hq _ (ksA_in i hi)) (fun k hk => by rcases (show k = 0 by omega) with rfl; exact hq _ (ksN_in i hi)) (fun k hk j hj => by rcases (show k = 0 by omega) with rfl; exact hq _ (ksJ_in i hi j hj)) (fun k j hk hj hkj => absurd (show k = j by omega) hkj) hA
      obtain ⟨aK, aV, hS, hK⟩ := q
      exact ⟨(aK 0, aV 0), fun _ => ⟨⟨fun k hk => by rcases (show k = 0 by omega) with rfl; exact hS.1 0 hk, fun k j hk hj _ => by omega⟩, hK 0 (by decide)⟩⟩
    · exact ⟨(0, 0), fun h => absurd h hi⟩
  obtain ⟨kv, hkv⟩ := Classical.axiomOfChoice hstr
  obtain ⟨r0, hr0, hR0⟩ := va_Tof (args := #[Value.ref b]) (s := s) (tm := (.static "FragmentPath$Reader" "NUMBERS" "[I")) (ty := .int) (N := 10) (f := fun j => .int (iI (numL.getD j 0))) (A := fun q => s.heap.size ≤ q) (by decide) (hq _ arNum_a) (va_eqt (hq _ arNum_n)) (fun j hj => va_eqt (hq _ (arNum_in j hj))) hA
  have hZ0 := va_Zof (args := #[Value.ref b]) (s := s) (C := "FragmentPath$Reader") (n := "NUMBERS") (d := "[I") (A := fun q => s.heap.size ≤ q) (hts _ (by decide +kernel)) (hts _ (by decide +kernel)) hr0 hA
  obtain ⟨r1, hr1, hR1⟩ := va_Tof (args := #[Value.ref b]) (s := s) (tm := (.static "FragmentPath$Reader" "LEAST" "[I")) (ty := .int) (N := 40) (f := fun j => .int (iI (lstL.getD j 0))) (A := fun q => s.heap.size ≤ q) (by decide) (hq _ arLst_a) (va_eqt (hq _ arLst_n)) (fun j hj => va_eqt (hq _ (arLst_in j hj))) hA
  have hZ1 := va_Zof (args := #[Value.ref b]) (s := s) (C := "FragmentPath$Reader") (n := "LEAST") (d := "[I") (A := fun q => s.heap.size ≤ q) (hts _ (by decide +kernel)) (hts _ (by decide +kernel)) hr1 hA
  obtain ⟨r2, hr2, hR2⟩ := va_Tof (args := #[Value.ref b]) (s := s) (tm := (.static "FragmentPath$Reader" "GREATEST" "[I")) (ty := .int) (N := 40) (f := fun j => .int (iI (grtL.getD j 0))) (A := fun q => s.heap.size ≤ q) (by decide) (hq _ arGrt_a) (va_eqt (hq _ arGrt_n)) (fun j hj => va_eqt (hq _ (arGrt_in j hj))) hA
  have hZ2 := va_Zof (args := #[Value.ref b]) (s := s) (C := "FragmentPath$Reader") (n := "GREATEST") (d := "[I") (A := fun q => s.heap.size ≤ q) (hts _ (by decide +kernel)) (hts _ (by decide +kernel)) hr2 hA
  obtain ⟨r3, hr3, hR3⟩ := va_Tof (args := #[Value.ref b]) (s := s) (tm := (.static "java/lang/Integer" "DigitOnes" "[B")) (ty := .byte) (N := 100) (f := fun j => .int (iI ((48 + j % 10 : Nat) : Int))) (A := fun q => s.heap.size ≤ q) (by decide) (hq _ arOne_a) (va_eqt (hq _ arOne_n)) (fun j hj => va_eqt (hq _ (arOne_in j hj))) hA
  have hZ3 := va_Zof (args := #[Value.ref b]) (s := s) (C := "java/lang/Integer") (n := "DigitOnes") (d := "[B") (A := fun q => s.heap.size ≤ q) (hts _ (by decide +kernel)) (hts _ (by decide +kernel)) hr3 hA
  obtain ⟨r4, hr4, hR4⟩ := va_Tof (args := #[Value.ref b]) (s := s) (tm := (.static "java/lang/Integer" "DigitTens" "[B")) (ty := .byte) (N := 100) (f := fun j => .int (iI ((48 + j / 10 : Nat) : Int))) (A := fun q => s.heap.size ≤ q) (by decide) (hq _ arTen_a) (va_eqt (hq _ arTen_n)) (fun j hj => va_eqt (hq _ (arTen_in j hj))) hA
  have hZ4 := va_Zof (args := #[Value.ref b]) (s := s) (C := "java/lang/Integer") (n := "DigitTens") (d := "[B") (A := fun q => s.heap.size ≤ q) (hts _ (by decide +kernel)) (hts _ (by decide +kernel)) hr4 hA
  have hcs := va_Zof (args := #[Value.ref b]) (s := s) (C := "java/lang/String") (n := "COMPACT_STRINGS") (d := "Z") (v := .int 1) (A := fun q => s.heap.size ≤ q) (hts _ (by decide +kernel)) (hts _ (by decide +kernel)) (va_eqt (hq _ (by decide +kernel))) hA
  have hfm := va_Zqof (args := #[Value.ref b]) (s := s) (C := "jdk/internal/util/Preconditions") (n := "SIOOBE_FORMATTER") (d := "Ljava/util/function/BiFunction;") (A := fun q => s.heap.size ≤ q) (hts _ (by decide +kernel)) (hts _ (by decide +kernel)) (hq _ (by decide +kernel)) hA
  obtain ⟨fz, fs, hfz⟩ : ∃ fz fs : Nat, va_Z "jdk/internal/util/Preconditions" "SIOOBE_FORMATTER" "Ljava/util/function/BiFunction;" (va_rf (if fz = 0 then none else some fs)) (fun q => s.heap.size ≤ q) s s.heap := by
    rcases hfm with h | ⟨a, h⟩
    · exact ⟨0, 0, by rw [if_pos rfl]; exact h⟩
    · exact ⟨1, a, by rw [if_neg (by decide)]; exact h⟩
  obtain ⟨K, hK0, hK1, k100, k101, k102, k103, k104, k105, k106⟩ : ∃ K : Nat → Nat, (∀ i : Nat, i < 20 → K (2 * i) = (kv i).1) ∧ (∀ i : Nat, i < 20 → K (2 * i + 1) = (kv i).2) ∧ K 100 = r0 ∧ K 101 = r1 ∧ K 102 = r2 ∧ K 103 = r3 ∧ K 104 = r4 ∧ K 105 = fs ∧ K 106 = fz := by
    refine ⟨fun n => if n < 40 then (if n % 2 = 0 then (kv (n / 2)).1 else (kv (n / 2)).2) else ([r0, r1, r2, r3, r4, fs, fz] : List Nat).getD (n - 100) 0, fun i hi => ?_, fun i hi => ?_, rfl, rfl, rfl, rfl, rfl, rfl, rfl⟩
    · show (if 2 * i < 40 then (if 2 * i % 2 = 0 then (kv (2 * i / 2)).1 else (kv (2 * i / 2)).2) else _) = _
      rw [if_pos (by omega), if_pos (by omega), show 2 * i / 2 = i by omega]
    · show (if 2 * i + 1 < 40 then (if (2 * i + 1) % 2 = 0 then (kv ((2 * i + 1) / 2)).1 else (kv ((2 * i + 1) / 2)).2) else _) = _
      rw [if_pos (by omega), if_neg (by omega), show (2 * i + 1) / 2 = i by omega]
  have hKe : Ke K (fun q => s.heap.size ≤ q) s := by
    refine ⟨fun i hi => ?_, fun i hi => ?_, hcs, ?_, ?_, ?_, ?_, ?_, ?_, ?_, ?_, ?_, ?_, ?_⟩
    · rw [hK0 i hi, hK1 i hi]; exact (hkv i hi).1
    · rw [hK0 i hi]; exact vk_R.of (hts _ (ksW_in i hi)) (hkv i hi).2
    · rw [k100]; exact hZ0
    · rw [k101]; exact hZ1
    · rw [k102]; exact hZ2
    · rw [k100]; exact hR0
    · rw [k101]; exact hR1
    · rw [k102]; exact hR2
    · rw [k103]; exact hZ3
    · rw [k104]; exact hZ4
    · rw [k103]; exact hR3
    · rw [k104]; exact hR4
    · unfold oK
      rw [k105, k106]; exact hfz
  have hKJ : KJ K (fun q => s.heap.size ≤ q) s := by
    refine ⟨hKe, fun y hy => ?_⟩
    simp only [pJ5, List.mem_cons, List.not_mem_nil, or_false] at hy
    rcases hy with rfl | rfl | rfl | rfl
    · exact va_tabs rfl (u := s) rfl (selPriv (n := 0) (args := #[Value.ref b]) (y0 := yJ5_isLatin1_aae02) (by decide) rfl (hts _ (by decide +kernel)) (hts _ (by decide +kernel)) (hts _ (by decide +kernel)) (hts _ (by decide +kernel)))
    · exact va_tabs rfl (u := s) rfl (selPriv (n := 0) (args := #[Value.ref b]) (y0 := yJ5_isLatin1_aae02) (by decide) rfl (hts _ (by decide +kernel)) (hts _ (by decide +kernel)) (hts _ (by decide +kernel)) (hts _ (by decide +kernel)))
    · exact va_tabs rfl (u := s) rfl (selPriv (n := 0) (args := #[Value.ref b]) (y0 := yJ5_isLatin1_aae02) (by decide) rfl (hts _ (by decide +kernel)) (hts _ (by decide +kernel)) (hts _ (by decide +kernel)) (hts _ (by decide +kernel)))
    · exact va_tabs rfl (u := s) rfl (selPriv (n := 0) (args := #[Value.ref b]) (y0 := yJ5_isLatin1_aae02) (by decide) rfl (hts _ (by decide +kernel)) (hts _ (by decide +kernel)) (hts _ (by decide +kernel)) (hts _ (by decide +kernel)))
  refine ⟨(fun k => ([c0, c1, c2, c3, c4, c5, c6, c7, c8, c9, c10, c11] : List ClassId).getD k c0, fun k => ([i0, i1, i2, i3, i4, i5, i6, i7, i8, i9, i10, i11] : List (Nat → Nat)).getD k i0), (fun k : Nat => ([t0, t1, t2, t3, t4, t5, t6] : List ClassId).getD k t0), K, ⟨⟨hKc, hKt⟩, fun w hw => ?_, va_AO.of (hts _ (by decide +kernel)), va_AO.of (hts _ (by decide +kernel)), va_AO.of (hts _ (by decide +kernel)), va_AO.of (hts _ (by decide +kernel)), fun w hw => ?_, fun w hw => ?_, fun q hq2 => strW_ref (hts _ (strW_in q hq2))⟩, hKJ⟩
  · have h9 := hts _ (nestW_in w hw)
    obtain ⟨a, i, x, h, rfl⟩ := nestW_is w hw
    exact va_Nw.of rfl h9
  · have h9 := hts _ (castW_in w hw)
    obtain ⟨a, d, rfl⟩ := castW_is w hw
    exact va_Nw.of rfl h9
  · have h9 := hts _ (declW_in w hw)
    obtain ⟨x, rfl⟩ := declW_is w hw
    exact va_Nw.of rfl h9

