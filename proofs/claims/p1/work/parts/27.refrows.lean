/-! longs of small numbers; frames of the reference's row -/
theorem i_tri {x y : Int32} (h : ¬ x = y) : x < y ∨ y < x := by
  rw [Int32.lt_iff_toInt_lt, Int32.lt_iff_toInt_lt]
  have h9 : x.toInt ≠ y.toInt := fun e => h (Int32.toInt_inj.mp e)
  omega
section RF
variable {p : Program} {l : Launch} {e : Env} {R : Room} {s : State} {m : MethodId} {args : Array Value} {below : List Frame} {meth : Method} {c : Code} {H : Heap} {locs : List Loc} {cells slots : Nat} {Q : State → Prop}
variable {cc : ByteArray} {pc nL : Nat} {ls : Array Slot} {rest : List Value}
theorem t_cvL {x v : Int64} (h : x = v) (k : W p l e R s m args below meth c H locs cells slots Q (F0 m pc ls (.long v :: rest))) : W p l e R s m args below meth c H locs cells slots Q (F0 m pc ls (.long x :: rest)) := by rw [h]; exact k
theorem i64_lt (x y : Int32) : x.toInt64 < y.toInt64 ↔ x < y := by
  rw [Int64.lt_iff_toInt_lt, Int32.lt_iff_toInt_lt, Int32.toInt_toInt64, Int32.toInt_toInt64]
theorem i64_eq (x y : Int32) : x.toInt64 = y.toInt64 ↔ x = y := by
  rw [← Int64.toInt_inj, ← Int32.toInt_inj, Int32.toInt_toInt64, Int32.toInt_toInt64]
theorem t_lcmp (hexec : p.tables.exec = Jvm.exec) (hb : c.code = cc) {x y : Int32} (hdg : decode cc pc = .ok (.lcmp, 1))
    (k : ∀ z : Int32, (z < 0 ↔ x < y) → (0 < z ↔ y < x) → (z = 0 ↔ x = y) → W p l e R s m args below meth c H locs cells slots Q (F0 m (pc + 1) ls (.int z :: rest))) : W p l e R s m args below meth c H locs cells slots Q (F0 m pc ls (.long (Int32.toInt64 y) :: .long (Int32.toInt64 x) :: rest)) := by
  by_cases h1 : y.toInt64 < x.toInt64
  · have g1 := (i64_lt y x).mp h1
    have g2 : ¬ x < y := fun h => Int32.lt_irrefl (Int32.lt_trans g1 h)
    have g3 : ¬ x = y := fun h => by rw [h] at g1; exact Int32.lt_irrefl g1
    intro T hT X
    obtain ⟨t, a, b⟩ := k 1 ⟨fun h => absurd h (by decide), fun h => absurd h g2⟩ ⟨fun _ => g1, fun _ => by decide⟩ ⟨fun h => absurd h (by decide), fun h => absurd h g3⟩ T hT X
    refine ⟨t, ?_, b⟩
    jvm_step X.here [X.here.top, hexec, hb, hdg, h1]
    exact a
  · by_cases h2 : x.toInt64 = y.toInt64
    · have g1 := (i64_eq x y).mp h2
      subst g1
      intro T hT X
      obtain ⟨t, a, b⟩ := k 0 ⟨fun h => absurd h (by decide), fun h => absurd h Int32.lt_irrefl⟩ ⟨fun h => absurd h (by decide), fun h => absurd h Int32.lt_irrefl⟩ ⟨fun _ => rfl, fun _ => rfl⟩ T hT X
      refine ⟨t, ?_, b⟩
      jvm_step X.here [X.here.top, hexec, hb, hdg, h1]
      exact a
    · have g1 : ¬ y < x := fun h => h1 ((i64_lt y x).mpr h)
      have g3 : ¬ x = y := fun h => h2 ((i64_eq x y).mpr h)
      have g2 : x < y := by
        rcases i_tri g3 with h | h
        · exact h
        · exact absurd h g1
      intro T hT X
      obtain ⟨t, a, b⟩ := k (-1) ⟨fun _ => g2, fun _ => by decide⟩ ⟨fun h => absurd h (by decide), fun h => absurd h g1⟩ ⟨fun h => absurd h (by decide), fun h => absurd h g3⟩ T hT X
      refine ⟨t, ?_, b⟩
      jvm_step X.here [X.here.top, hexec, hb, hdg, h1, h2]
      exact a
theorem t_ldcwS (hexec : p.tables.exec = Jvm.exec) (hb : c.code = cc) {own tx : String} {index q : Nat} (hown : s.vm.findClass own = some m.cls) (hZ : vk_R own index tx q s) (hdg : decode cc pc = .ok (.ldc_w index, 3))
    (k : W p l e R s m args below meth c H locs cells slots Q (F0 m (pc + 3) ls (.ref q :: rest))) : W p l e R s m args below meth c H locs cells slots Q (F0 m pc ls rest) := by
  intro T hT X
  obtain ⟨t, a1, b1⟩ := k T hT X
  exact ⟨t, X.ldcStringW hexec hown (text := tx) (a := q) hZ.1 hZ.2 (g := F0 m pc ls rest) rfl (by rw [hb]; exact hdg) t a1, b1⟩
end RF
def S0 : Nat → Int32 := upd (upd (upd (upd (upd (upd (upd (upd (upd (upd (upd (upd (fun _ => 0) 3 60) 6 27) 7 (-1)) 11992 (-1)) 13198 (-1)) 14404 (-1)) 15610 (-1)) 24 576) 25 1) 26 0) 0 1) 5 576
def lsI (l : List Int32) (k : Nat) : Int32 := l.getD k 0
/-- a row that is the same below 392 but at the places of a list -/
def fr (l : List Nat) (f g : Nat → Int32) : Prop := ∀ i, i < 392 → i ∉ l → g i = f i
theorem fr_rfl {l : List Nat} {f : Nat → Int32} : fr l f f := fun _ _ _ => rfl
theorem fr_upd {l : List Nat} {f g : Nat → Int32} {j : Nat} {x : Int32} (hj : 392 ≤ j ∨ j ∈ l) (h : fr l f g) : fr l f (upd g j x) := fun i hi hn => by
  have e : i ≠ j := fun e => hj.elim (fun z => absurd hi (by omega)) (fun z => hn (e ▸ z))
  rw [pk_un e]; exact h i hi hn
theorem fr_trans {l l1 l2 : List Nat} {f g k : Nat → Int32} (h1 : fr l1 f g) (h2 : fr l2 g k) (s1 : ∀ i ∈ l1, i ∈ l) (s2 : ∀ i ∈ l2, i ∈ l) : fr l f k := fun i hi hn => (h2 i hi (fun z => hn (s2 i z))).trans (h1 i hi (fun z => hn (s1 i z)))
theorem fil_id (f : Nat → Int32) (n : Nat) : fil f f n = f := by funext k; unfold fil; split <;> rfl
theorem upd_id {f : Nat → Int32} {j : Nat} {x : Int32} (h : f j = x) : upd f j x = f := by
  funext k
  by_cases e : k = j
  · rw [e, pk_us, h]
  · exact pk_un e
theorem upd_up {f : Nat → Int32} {j : Nat} {x y : Int32} : upd (upd f j x) j y = upd f j y := by
  funext k
  by_cases e : k = j
  · rw [e, pk_us, pk_us]
  · rw [pk_un e, pk_un e, pk_un e]
theorem i_ne0 {k : Int32} (h : ¬ k = 0) : k < 0 ∨ 0 < k := i_tri h
theorem i_none (k : Int32) : k < 0 ∨ (-1 : Int32) < k := by
  by_cases h : k < 0
  · exact Or.inl h
  · refine Or.inr (Int32.lt_iff_toInt_lt.mpr ?_)
    have h2 : ¬ k.toInt < (0 : Int32).toInt := fun q => h (Int32.lt_iff_toInt_lt.mpr q)
    have e0 : (0 : Int32).toInt = 0 := by decide
    have e1 : (-1 : Int32).toInt = -1 := by decide
    rw [e0] at h2; rw [e1]; omega
theorem n_or {a b : Prop} (h : ¬(¬ a ∧ ¬ b)) : a ∨ b := Classical.byContradiction (fun q => h ⟨fun x => q (Or.inl x), fun y => q (Or.inr y)⟩)
theorem rngL (k : Int32) (n : Nat) (hn : n < 2 ^ 31) : (k < 0 ∨ nI n < k) ∨ ∃ j : Nat, j ≤ n ∧ k = nI j := by
  by_cases h : ¬ k < 0 ∧ ¬ nI n < k
  · obtain ⟨j, e, -, hj⟩ := i_rng (a := 0) (b := n) (by decide) hn h.1 h.2
    exact Or.inr ⟨j, hj, e⟩
  · exact Or.inl (n_or h)
theorem nIj {a b : Nat} (ha : a < 2 ^ 31) (hb : b < 2 ^ 31) (h : nI a = nI b) : a = b := (nI_eq ha hb).mp h
theorem isr {f g : Nat → Int32} {l : List Nat} (h : fr l f g) {i : Nat} {v : Int32} (h1 : i < 392) (h2 : i ∉ l) (hv : f i = v) : g i = v := (h i h1 h2).trans hv
theorem nor2 {a b : Prop} (h1 : ¬ a) (h2 : ¬ b) : ¬ (a ∨ b) := fun h => h.elim h1 h2
