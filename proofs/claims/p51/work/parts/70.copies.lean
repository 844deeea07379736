/-! a builder: T is its text, cap its row's length, f the row -/
def SbR (T : List Int) (cap : Nat) (f : Nat → Int32) : Prop := T.length ≤ cap ∧ cap ≤ 1002 ∧ (∀ j : Nat, j < T.length → f j = iI (T.getD j 0)) ∧ ∀ j : Nat, fits .byte (.int (f j)) = true
theorem iI_shl0 {a : Int} : iI a <<< (iI 0 &&& 31) = iI a := by
  apply Int32.toBitVec_inj.mp
  simp [iI]
theorem iI_shr0 {a : Int} (h0 : 0 ≤ a) (h1 : a < 2147483648) : iI a >>> (iI 0 &&& 31) = iI a := (iI_shr h0 h1 _ 0 (by decide)).trans (congrArg iI (Int.ediv_one _))
section CB
variable {p : Program} {l : Launch} {e : Env} {R : Room} {s : State} {m : MethodId} {args : Array Value} {below : List Frame} {meth : Method} {c : Code} {H : Heap} {locs : List Loc} {cells slots : Nat} {Q : State → Prop}
variable {cc : ByteArray} {pc nL : Nat} {ls : Array Slot} {rest : List Value} {own : String} {D : va_G} {τ : Nat → ClassId} {A : Nat → Prop} {H0 : Heap} {B B' : List va_W} {a : Nat} {f g : Nat → Int32}
/-- arraycopy between rows of bytes -/
theorem b_copyb {a0 n0 n1 n' d' : Nat} {h : Nat → Int32} {n dp : Int32} {index : Nat} (hf : ∀ i : Nat, fits .byte (.int (f i)) = true) (X : CallFix p m c cc nL s args wALL own) (Y : Wd D τ s A H0 (bl B) H locs) (k1 : Cond.methodLink own index arraycopyName ∈ wALL) (k2 : Cond.native arraycopyName ∈ wALL) (k3 : Cond.static arraycopyName ∈ wALL) (k4 : Cond.initialized "java/lang/System" ∈ wALL) (hls : ls.size = nL) (q0 q1 : Nat) (ha0 : B[q0]? = some [(a0, .inl (τ 1, n0, .inl f))]) (ha1 : B[q1]? = some [(a, .inl (τ 1, n1, .inl g))]) (h2 : ¬ dp < 0) (hd' : dp.toNatClampNeg = d') (h3 : ¬ n < 0) (hn' : n.toNatClampNeg = n') (h4 : n' ≤ n0) (h5 : d' + n' ≤ n1) (hg : va_cpy f g 0 d' n' = h) (hw : B.set q1 [(a, .inl (τ 1, n1, .inl h))] = B') (hfr : 1 ≤ R.frames) (hlo : (rest.map fun v => v.category).sum + (nativeFrameWords "java/lang/System" "arraycopy" 5 + 11) ≤ R.locals) (hdg : decode cc pc = .ok (.invokestatic index, 3)) (kk : ∀ (H1 : Heap) (locs1 : List Loc), Wd D τ s A H0 (bl B') H1 locs1 → W p l e R s m args below meth c H1 locs1 cells slots Q (F0 m (pc + 3) ls rest)) : W p l e R s m args below meth c H locs cells slots Q (F0 m pc ls (.int n :: .int dp :: .ref a :: .int (iI 0) :: .ref a0 :: rest)) := by
  obtain ⟨z0, g0, -⟩ := bl_at ha0
  obtain ⟨z1, g1, g2⟩ := bl_at ha1
  exact va_copyi X.1 X.2.1 (X.2.2.1.trans hls.symm) X.2.2.2.1 (X.2.2.2.2 _ k1) (X.2.2.2.2 _ k2) (X.2.2.2.2 _ k3) (X.2.2.2.2 _ k4) Y.1.1 Y.2.1 Y.2.2.1 Y.2.2.2.1 z0 z1 1 1 g0 g1 rfl rfl rfl (sp := iI 0) (dp := dp) (by decide) h2 h3 (by rw [hn']; show 0 + n' ≤ n0; omega) (by rw [hn', hd']; exact h5) (fun _ _ => hf _) hfr hlo hdg (fun H1 locs1 hP hD hS => kk H1 locs1 (by
    have e : va_cpy f g (iI 0).toNatClampNeg dp.toNatClampNeg n.toNatClampNeg = h := by rw [hn', hd']; exact hg
    rw [e, g2, hw] at hP hD
    exact ⟨Y.1, hP, hD, hS, Y.2.2.2.2⟩))
theorem i32_nat {z : Int32} (hz : ¬ z < 0) : z.toInt = (z.toNatClampNeg : Int) := by
  have hz0 : (0 : Int) ≤ z.toInt := by
    have := Int32.not_lt.mp hz
    simpa using Int32.le_iff_toInt_le.mp this
  show z.toInt = ((z.toInt.toNat : Nat) : Int)
  omega
/-- arraycopy out of a constant's row of bytes -/
theorem b_copyk {a0 n0 n1 n' d' : Nat} {fk h : Nat → Int32} {n dp : Int32} {index : Nat} (hT : va_T .byte a0 n0 (fun j => .int (fk j)) A s s.heap) (hf : ∀ i : Nat, fits .byte (.int (fk i)) = true) (X : CallFix p m c cc nL s args wALL own) (Y : Wd D τ s A s.heap (bl B) H locs) (k1 : Cond.methodLink own index arraycopyName ∈ wALL) (k2 : Cond.native arraycopyName ∈ wALL) (k3 : Cond.static arraycopyName ∈ wALL) (k4 : Cond.initialized "java/lang/System" ∈ wALL) (hls : ls.size = nL) (q1 : Nat) (ha1 : B[q1]? = some [(a, .inl (τ 1, n1, .inl g))]) (h2 : ¬ dp < 0) (hd' : dp.toNatClampNeg = d') (h3 : ¬ n < 0) (hn' : n.toNatClampNeg = n') (h4 : n' ≤ n0) (h5 : d' + n' ≤ n1) (hg : va_cpy fk g 0 d' n' = h) (hw : B.set q1 [(a, .inl (τ 1, n1, .inl h))] = B') (hfr : 1 ≤ R.frames) (hlo : (rest.map fun v => v.category).sum + (nativeFrameWords "java/lang/System" "arraycopy" 5 + 11) ≤ R.locals) (hdg : decode cc pc = .ok (.invokestatic index, 3)) (kk : ∀ (H1 : Heap) (locs1 : List Loc), Wd D τ s A s.heap (bl B') H1 locs1 → W p l e R s m args below meth c H1 locs1 cells slots Q (F0 m (pc + 3) ls rest)) : W p l e R s m args below meth c H locs cells slots Q (F0 m pc ls (.int n :: .int dp :: .ref a :: .int (iI 0) :: .ref a0 :: rest)) := by
  obtain ⟨z1, g1, g2⟩ := bl_at ha1
  subst hn'
  subst hd'
  subst hg
  intro T hTT XX
  obtain ⟨scr, u1, u2, u3, u4, -, u6, u7⟩ := hT
  obtain ⟨hK, hP, hD, hS, hA⟩ := Y
  have hbl : a0 < s.heap.size := (Array.getElem?_eq_some_iff.mp u1).1
  have hc0 : H[a0]? = some scr := by rw [hS.2.1 a0 hbl u7]; exact u1
  have hc1 : H[a]? = some (vp_cell (τ 1) (n1, .inl g)) := hP z1 _ g1
  obtain ⟨w6, k0, hk0, cm0, hkk0⟩ := u2
  obtain ⟨-, kk1, hk1, cm1, hkk1⟩ := (hK.1.2 1 (τ 1, .byte) rfl).1 n1 (fun j => .int (g j))
  have z0 : (iI 0).toNatClampNeg = 0 := rfl
  obtain ⟨vm', X', step⟩ := XX.arraycopy X.1 X.2.2.2.1 (X.2.2.2.2 _ k1) (X.2.2.2.2 _ k2) (X.2.2.2.2 _ k3) (X.2.2.2.2 _ k4) (src := a0) (dst := a) (cs := scr) (cd := vp_cell (τ 1) (n1, .inl g)) (srcPos := iI 0) (destPos := dp) (n := n) (by rw [hTT]; exact hc0) (by rw [hTT]; exact hc1)
    w6 (fun _ h => by cases h) u3 (fun h => by cases h) hk0 hk1 hkk0 hkk1 (by simp [refKind]) (by decide) h2 h3
    (by rw [i32_nat (z := iI 0) (by decide), i32_nat h3, z0]; omega)
    (by rw [i32_nat h2, i32_nat h3]; show ¬ _ > ((arrV (τ 1) n1 (fun j => .int (g j))).slots.size : Int); rw [arrV_size]; omega)
    (fun vm₁ _ i hi => by
      have e : scr.slots.getD ((iI 0).toNatClampNeg + i) .null = .int (fk ((iI 0).toNatClampNeg + i)) := by
        rw [Array.getD_eq_getD_getElem?, u6 _ (by rw [z0]; omega)]
        rfl
      rw [e]
      exact ⟨hf _, trivial⟩)
    (g := F0 m pc ls (.int n :: .int dp :: .ref a :: .int (iI 0) :: .ref a0 :: rest)) rfl (by rw [X.2.2.1]; exact hls) (rest := rest) rfl (by rw [X.2.1]; exact hdg) hfr (by show 2 * 0 + _ + _ ≤ _; omega)
  have e1 : copied scr (vp_cell (τ 1) (n1, .inl g)) (iI 0) dp n = vp_cell (τ 1) (n1, .inl (va_cpy fk g 0 dp.toNatClampNeg n.toNatClampNeg)) := va_copiedX (fun z => .int z) scr (τ 1) fk g u6 (by rw [z0]; omega)
  rw [e1] at X' step
  have hl : a < H.size := (Array.getElem?_eq_some_iff.mp hc1).1
  have hheap : ((T.setVm vm').setCell a (vp_cell (τ 1) (n1, .inl (va_cpy fk g 0 dp.toNatClampNeg n.toNatClampNeg)))).heap = H.setIfInBounds a (vp_cell (τ 1) (n1, .inl (va_cpy fk g 0 dp.toNatClampNeg n.toNatClampNeg))) := by rw [← hTT]; rfl
  have oq : ∀ q : Nat, q ≠ a → (H.setIfInBounds a (vp_cell (τ 1) (n1, .inl (va_cpy fk g 0 dp.toNatClampNeg n.toNatClampNeg))))[q]? = H[q]? := fun q hq => by simp [Array.getElem?_setIfInBounds, Ne.symm hq]
  have hP2 := hP.set (e := .inl (τ 1, n1, .inl (va_cpy fk g 0 dp.toNatClampNeg n.toNatClampNeg))) (H1 := H.setIfInBounds a (vp_cell (τ 1) (n1, .inl (va_cpy fk g 0 dp.toNatClampNeg n.toNatClampNeg)))) hD g1 (show (H.setIfInBounds a (vp_cell (τ 1) (n1, .inl (va_cpy fk g 0 dp.toNatClampNeg n.toNatClampNeg))))[a]? = some (vp_cell (τ 1) (n1, .inl (va_cpy fk g 0 dp.toNatClampNeg n.toNatClampNeg))) by simp [Array.getElem?_setIfInBounds, hl]) oq
  have hD2 := hD.set (e := .inl (τ 1, n1, .inl (va_cpy fk g 0 dp.toNatClampNeg n.toNatClampNeg))) g1
  obtain ⟨t, a1, b1⟩ := kk _ _ (by rw [g2, hw] at hP2 hD2; exact ⟨hK, hP2, hD2, ⟨by simp; exact hS.1, fun q r1 r2 => by
      rw [oq q (fun e => r2 (by rw [e]; exact hD.2 z1 _ g1))]
      exact hS.2.1 q r1 r2, fun q hq => by
      rcases List.mem_append.mp hq with h | h
      · exact hS.2.2 q h
      · obtain ⟨z, -, hz⟩ := List.mem_map.mp h
        rw [← hz]
        exact hD.2 z1 _ g1⟩, hA⟩) _ hheap X'
  exact ⟨t, step t a1, b1⟩
end CB
