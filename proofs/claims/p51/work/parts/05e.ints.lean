/-! ints as whole numbers -/
def iI (z : Int) : Int32 := Int32.ofInt z
theorem iI_add (a b : Int) : iI a + iI b = iI (a + b) := (Int32.ofInt_add a b).symm
theorem iI_sub (a b : Int) : iI a - iI b = iI (a - b) := (Int32.ofInt_sub a b).symm
theorem iI_mul (a b : Int) : iI a * iI b = iI (a * b) := (Int32.ofInt_mul a b).symm
theorem iI_neg (a : Int) : -iI a = iI (-a) := (Int32.ofInt_neg a).symm
theorem iI_nat (n : Nat) : Int32.ofNat n = iI (n : Int) := (Int32.ofInt_eq_ofNat).symm
theorem iI_nI (n : Nat) : iI (n : Int) = nI n := (iI_nat n).symm
theorem iI_inc (n : Nat) : iI (n : Int) + iI 1 = iI ((n + 1 : Nat) : Int) := by rw [iI_add]; rfl
theorem iI_toInt {z : Int} (h1 : -2147483648 ≤ z) (h2 : z < 2147483648) : (iI z).toInt = z := by
  unfold iI
  have e : Int32.size = 4294967296 := rfl
  rw [Int32.toInt_ofInt, e]
  exact Int.bmod_eq_of_le (by omega) (by omega)
theorem iI_lt {a b : Int} (h1 : -2147483648 ≤ a) (h2 : a < 2147483648) (h3 : -2147483648 ≤ b) (h4 : b < 2147483648) : iI a < iI b ↔ a < b := by
  rw [Int32.lt_iff_toInt_lt, iI_toInt h1 h2, iI_toInt h3 h4]
theorem iI_le {a b : Int} (h1 : -2147483648 ≤ a) (h2 : a < 2147483648) (h3 : -2147483648 ≤ b) (h4 : b < 2147483648) : iI a ≤ iI b ↔ a ≤ b := by
  rw [Int32.le_iff_toInt_le, iI_toInt h1 h2, iI_toInt h3 h4]
theorem iI_eq {a b : Int} (h1 : -2147483648 ≤ a) (h2 : a < 2147483648) (h3 : -2147483648 ≤ b) (h4 : b < 2147483648) : iI a = iI b ↔ a = b :=
  ⟨fun h => by rw [← iI_toInt h1 h2, ← iI_toInt h3 h4, h], fun h => by rw [h]⟩
theorem iI_0 : iI 0 = 0 := rfl
theorem iI_lt0 {a : Int} (h1 : -2147483648 ≤ a) (h2 : a < 2147483648) : iI a < 0 ↔ a < 0 := iI_lt h1 h2 (b := 0) (by decide) (by decide)
theorem iI_le0 {a : Int} (h1 : -2147483648 ≤ a) (h2 : a < 2147483648) : iI a ≤ 0 ↔ a ≤ 0 := iI_le h1 h2 (b := 0) (by decide) (by decide)
theorem iI_ge0 {a : Int} (h1 : -2147483648 ≤ a) (h2 : a < 2147483648) : 0 ≤ iI a ↔ 0 ≤ a := iI_le (a := 0) (by decide) (by decide) h1 h2
theorem iI_gt0 {a : Int} (h1 : -2147483648 ≤ a) (h2 : a < 2147483648) : 0 < iI a ↔ 0 < a := iI_lt (a := 0) (by decide) (by decide) h1 h2
theorem iI_eq0 {a : Int} (h1 : -2147483648 ≤ a) (h2 : a < 2147483648) : iI a = 0 ↔ a = 0 := iI_eq h1 h2 (b := 0) (by decide) (by decide)
theorem iI_pos {n : Nat} (h : n < 2147483648) : ¬ iI (n : Int) < 0 := by rw [iI_lt0 (by omega) (by omega)]; omega
theorem iI_clamp {n : Nat} (h : n < 2147483648) : (iI (n : Int)).toNatClampNeg = n := by rw [iI_nI]; exact nI_clamp h
theorem iI_zpos {z : Int} (h0 : 0 ≤ z) (h : z < 2147483648) : ¬ iI z < 0 := by rw [iI_lt0 (by omega) h]; omega
theorem iI_zclamp {z : Int} {n : Nat} (h0 : z = n) (h : n < 2147483648) : (iI z).toNatClampNeg = n := by rw [h0]; exact iI_clamp h
theorem iI_div {a b : Int} (h1 : 0 ≤ a) (h2 : a < 2147483648) (h3 : 0 < b) (h4 : b < 2147483648) : iI a / iI b = iI (a / b) := by
  obtain ⟨x, rfl⟩ := Int.eq_ofNat_of_zero_le h1
  obtain ⟨y, rfl⟩ := Int.eq_ofNat_of_zero_le (Int.le_of_lt h3)
  rw [iI_nI, iI_nI, pk_div (by omega) (by omega) (by omega), ← Int.natCast_ediv, iI_nI]
theorem iI_ne0 {z : Int} (h0 : z ≠ 0) (h1 : -2147483648 ≤ z) (h2 : z < 2147483648) : ¬ iI z = 0 := by rw [iI_eq0 h1 h2]; exact h0
/-- a record of whole numbers -/
def vec (l : List Int) : Nat → Int := fun i => l.getD i 0
section TI
variable {p : Program} {l : Launch} {e : Env} {R : Room} {s : State} {m : MethodId} {args : Array Value} {below : List Frame} {meth : Method} {c : Code} {H : Heap} {locs : List Loc} {cells slots : Nat} {Q : State → Prop}
variable {cc : ByteArray} {pc nL : Nat} {ls : Array Slot} {rest : List Value} {own : String} {D : va_G} {τ : Nat → ClassId} {A : Nat → Prop} {H0 : Heap} {B B' : List va_W} {index : Nat} {x y v : Int32} {a n j : Nat} {i : Int32} {f g : Nat → Int32}
theorem t_mmax (B : CallFix p m c cc nL s args wALL own) (k1 : Cond.methodLink own index Lib.Math.max.name ∈ wALL) (k2 : Cond.static Lib.Math.max.name ∈ wALL) (k3 : Cond.initialized "java/lang/Math" ∈ wALL) (k4 : Cond.code Lib.Math.max.name Lib.Math.max.code 2 (some .int) ∈ wALL) (hls : ls.size = nL) (hf : 1 ≤ R.frames) (hlo : (rest.map fun v => v.category).sum + 13 ≤ R.locals) (hc : cells ≤ R.cells) (hs : slots ≤ R.slots) (hv : (if x < y then y else x) = v) (hdg : decode cc pc = .ok (.invokestatic index, 3)) (kk : W p l e R s m args below meth c H locs cells slots Q (F0 m (pc + 3) ls (.int v :: rest))) : W p l e R s m args below meth c H locs cells slots Q (F0 m pc ls (.int y :: .int x :: rest)) :=
  va_mmax B.1 B.2.1 (B.2.2.1.trans hls.symm) B.2.2.2.1 (B.2.2.2.2 _ k1) (B.2.2.2.2 _ k2) (B.2.2.2.2 _ k3) (B.2.2.2.2 _ k4) hf hlo hc hs hdg (by rw [hv]; exact kk)
theorem t_mmin (B : CallFix p m c cc nL s args wALL own) (k1 : Cond.methodLink own index Lib.Math.min.name ∈ wALL) (k2 : Cond.static Lib.Math.min.name ∈ wALL) (k3 : Cond.initialized "java/lang/Math" ∈ wALL) (k4 : Cond.code Lib.Math.min.name Lib.Math.min.code 2 (some .int) ∈ wALL) (hls : ls.size = nL) (hf : 1 ≤ R.frames) (hlo : (rest.map fun v => v.category).sum + 13 ≤ R.locals) (hc : cells ≤ R.cells) (hs : slots ≤ R.slots) (hv : (if y < x then y else x) = v) (hdg : decode cc pc = .ok (.invokestatic index, 3)) (kk : W p l e R s m args below meth c H locs cells slots Q (F0 m (pc + 3) ls (.int v :: rest))) : W p l e R s m args below meth c H locs cells slots Q (F0 m pc ls (.int y :: .int x :: rest)) :=
  va_mmin B.1 B.2.1 (B.2.2.1.trans hls.symm) B.2.2.2.1 (B.2.2.2.2 _ k1) (B.2.2.2.2 _ k2) (B.2.2.2.2 _ k3) (B.2.2.2.2 _ k4) hf hlo hc hs hdg (by rw [hv]; exact kk)
theorem b_copyi {a0 n0 n1 n' : Nat} {h : Nat → Int32} {n : Int32} (X : CallFix p m c cc nL s args wALL own) (Y : Wd D τ s A H0 (bl B) H locs) (k1 : Cond.methodLink own index arraycopyName ∈ wALL) (k2 : Cond.native arraycopyName ∈ wALL) (k3 : Cond.static arraycopyName ∈ wALL) (k4 : Cond.initialized "java/lang/System" ∈ wALL) (hls : ls.size = nL) (q0 q1 : Nat) (ha0 : B[q0]? = some [(a0, .inl (τ 0, n0, .inl f))]) (ha1 : B[q1]? = some [(a, .inl (τ 0, n1, .inl g))]) (h3 : ¬ n < 0) (hn' : n.toNatClampNeg = n') (h4 : n' ≤ n0) (h5 : n' ≤ n1) (hg : va_cpy f g 0 0 n' = h) (hw : B.set q1 [(a, .inl (τ 0, n1, .inl h))] = B') (hfr : 1 ≤ R.frames) (hlo : (rest.map fun v => v.category).sum + (nativeFrameWords "java/lang/System" "arraycopy" 5 + 11) ≤ R.locals) (hdg : decode cc pc = .ok (.invokestatic index, 3)) (kk : ∀ (H1 : Heap) (locs1 : List Loc), Wd D τ s A H0 (bl B') H1 locs1 → W p l e R s m args below meth c H1 locs1 cells slots Q (F0 m (pc + 3) ls rest)) : W p l e R s m args below meth c H locs cells slots Q (F0 m pc ls (.int n :: .int (iI 0) :: .ref a :: .int (iI 0) :: .ref a0 :: rest)) := by
  obtain ⟨z0, g0, -⟩ := bl_at ha0
  obtain ⟨z1, g1, g2⟩ := bl_at ha1
  exact va_copyi X.1 X.2.1 (X.2.2.1.trans hls.symm) X.2.2.2.1 (X.2.2.2.2 _ k1) (X.2.2.2.2 _ k2) (X.2.2.2.2 _ k3) (X.2.2.2.2 _ k4) Y.1.1 Y.2.1 Y.2.2.1 Y.2.2.2.1 z0 z1 0 0 g0 g1 rfl rfl rfl (sp := iI 0) (dp := iI 0) (by decide) (by decide) h3 (by rw [hn']; show 0 + n' ≤ n0; omega) (by rw [hn']; show 0 + n' ≤ n1; omega) (fun _ _ => rfl) hfr hlo hdg (fun H1 locs1 hP hD hS => kk H1 locs1 (by
    have e : va_cpy f g (iI 0).toNatClampNeg (iI 0).toNatClampNeg n.toNatClampNeg = h := by rw [hn']; exact hg
    rw [e, g2, hw] at hP hD
    exact ⟨Y.1, hP, hD, hS, Y.2.2.2.2⟩))
theorem b_bald (X : CallFix p m c cc nL s args wALL own) (Y : Wd D τ s A H0 (bl B) H locs) (q0 : Nat) (he : B[q0]? = some [(a, .inl (τ 1, n, .inl f))]) (h0 : ¬ i < 0) (hj : i.toNatClampNeg = j) (hn : j < n) (hv : f j = v) (hdg : decode cc pc = .ok (.baload, 1)) (kk : W p l e R s m args below meth c H locs cells slots Q (F0 m (pc + 1) ls (.int v :: rest))) : W p l e R s m args below meth c H locs cells slots Q (F0 m pc ls (.int i :: .ref a :: rest)) := by
  obtain ⟨z, h1, -⟩ := bl_at he
  exact va_bald X.1 X.2.1 Y.1.1 Y.2.1 z 1 h1 rfl (vin_of h0 hj hn) hdg (by rw [hj, hv]; exact kk)
theorem b_zald (X : CallFix p m c cc nL s args wALL own) (Y : Wd D τ s A H0 (bl B) H locs) (q0 : Nat) (he : B[q0]? = some [(a, .inl (τ 2, n, .inl f))]) (h0 : ¬ i < 0) (hj : i.toNatClampNeg = j) (hn : j < n) (hv : f j = v) (hdg : decode cc pc = .ok (.baload, 1)) (kk : W p l e R s m args below meth c H locs cells slots Q (F0 m (pc + 1) ls (.int v :: rest))) : W p l e R s m args below meth c H locs cells slots Q (F0 m pc ls (.int i :: .ref a :: rest)) := by
  obtain ⟨z, h1, -⟩ := bl_at he
  exact va_zald X.1 X.2.1 Y.1.1 Y.2.1 z 2 h1 rfl (vin_of h0 hj hn) hdg (by rw [hj, hv]; exact kk)
end TI
