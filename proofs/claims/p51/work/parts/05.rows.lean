/-! arrays, new objects, whole numbers: short forms -/
theorem ty_one {D : va_G} {cl : List vw_C} {tys : List (ClassId × FieldType)} {s : State} {c1 c2 : ClassId} {ty : FieldType} (h : va_K D cl tys s) (i j : Nat) (h1 : tys[i]? = some (c1, ty)) (h2 : tys[j]? = some (c2, ty)) : c1 = c2 := by
  have a := (h.2 i _ h1).2
  have b := (h.2 j _ h2).2
  cases ty with
  | object C =>
    obtain ⟨_, _, _, _, _, a⟩ := a
    obtain ⟨_, _, _, _, _, b⟩ := b
    exact Option.some.inj (a.symm.trans b)
  | _ => exact Option.some.inj (Eq.trans (Eq.symm a) b)
theorem vin_of {i : Int32} {j n : Nat} (h0 : ¬ i < 0) (hj : i.toNatClampNeg = j) (hn : j < n) : vp_in i n := by
  unfold vp_in
  rw [hj]
  exact fun h => h.elim h0 (fun h => absurd hn (Nat.not_lt.mpr h))
section TR
variable {p : Program} {l : Launch} {e : Env} {R : Room} {s : State} {m : MethodId} {args : Array Value} {below : List Frame} {meth : Method} {c : Code} {H : Heap} {locs : List Loc} {cells slots : Nat} {Q : State → Prop}
variable {cc : ByteArray} {pc nL : Nat} {ls : Array Slot} {rest : List Value} {own : String} {D : va_G} {τ : Nat → ClassId} {A : Nat → Prop} {H0 : Heap} {ws ws' : va_W} {a n j q0 : Nat} {i x v : Int32} {f g : Nat → Int32}
theorem lv_cv (h : x = v) (k : W p l e R s m args below meth c H locs cells slots Q (F0 m pc ls (.int v :: rest))) : W p l e R s m args below meth c H locs cells slots Q (F0 m pc ls (.int x :: rest)) := by rw [h]; exact k
theorem t_objInit {idx : Nat} (B : CallFix p m c cc nL s args wALL own) (k1 : Cond.methodLink own idx objectInit ∈ wALL) (k2 : Cond.instanceMethod objectInit ∈ wALL) (k3 : Cond.code objectInit ⟨#[0xb1]⟩ 1 none ∈ wALL) (hls : ls.size = nL) (hrest : (rest.map fun v => v.category).sum ≤ 8) (hdg : decode cc pc = .ok (.invokespecial idx, 3)) (hfr : 1 ≤ R.frames) (hlo : 20 ≤ R.locals) (kk : W p l e R s m args below meth c H locs cells slots Q (F0 m (pc + 3) ls rest)) : W p l e R s m args below meth c H locs cells slots Q (F0 m pc ls (.ref a :: rest)) :=
  W.objInit B.1 B.2.1 B.2.2.2.1 (B.2.2.2.2 _ k1) (B.2.2.2.2 _ k2) (B.2.2.2.2 _ k3) rfl (by rw [B.2.2.1]; exact hls) rfl hdg hfr (by show 2 * (F0 m pc ls (.ref a :: rest)).monitorRoom + (rest.map fun v => v.category).sum + 12 ≤ R.locals; have h0 := lv_room (m := m) (pc := pc) (ls := ls) (rest := .ref a :: rest) hrest; omega) kk
theorem t_iald (B : CallFix p m c cc nL s args wALL own) (Y : Wd D τ s A H0 ws H locs) (q0 : Nat) (he : ws[q0]? = some (a, .inl (τ 0, n, .inl f))) (h0 : ¬ i < 0) (hj : i.toNatClampNeg = j) (hn : j < n) (hv : f j = v) (hdg : decode cc pc = .ok (.iaload, 1)) (kk : W p l e R s m args below meth c H locs cells slots Q (F0 m (pc + 1) ls (.int v :: rest))) : W p l e R s m args below meth c H locs cells slots Q (F0 m pc ls (.int i :: .ref a :: rest)) :=
  va_iald B.1 B.2.1 Y.1.1 Y.2.1 q0 0 he rfl (vin_of h0 hj hn) hdg (by rw [hj, hv]; exact kk)
theorem t_iast (B : CallFix p m c cc nL s args wALL own) (Y : Wd D τ s A H0 ws H locs) (q0 : Nat) (he : ws[q0]? = some (a, .inl (τ 0, n, .inl f))) (h0 : ¬ i < 0) (hj : i.toNatClampNeg = j) (hn : j < n) (hg : upd f j x = g) (hw : ws.set q0 (a, .inl (τ 0, n, .inl g)) = ws') (hdg : decode cc pc = .ok (.iastore, 1)) (kk : ∀ (H1 : Heap) (locs1 : List Loc), Wd D τ s A H0 ws' H1 locs1 → W p l e R s m args below meth c H1 locs1 cells slots Q (F0 m (pc + 1) ls rest)) : W p l e R s m args below meth c H locs cells slots Q (F0 m pc ls (.int x :: .int i :: .ref a :: rest)) :=
  va_iast B.1 B.2.1 Y.1.1 Y.2.1 Y.2.2.1 Y.2.2.2.1 q0 0 he rfl (vin_of h0 hj hn) hdg (fun H1 locs1 hP hD hS => kk H1 locs1 (by
    rw [hj, hg, hw] at hP hD
    exact ⟨Y.1, hP, hD, hS, Y.2.2.2.2⟩))
theorem t_bast (B : CallFix p m c cc nL s args wALL own) (Y : Wd D τ s A H0 ws H locs) (q0 : Nat) (he : ws[q0]? = some (a, .inl (τ 1, n, .inl f))) (h0 : ¬ i < 0) (hj : i.toNatClampNeg = j) (hn : j < n) (hg : upd f j (vp_nar .byte x) = g) (hw : ws.set q0 (a, .inl (τ 1, n, .inl g)) = ws') (hdg : decode cc pc = .ok (.bastore, 1)) (kk : ∀ (H1 : Heap) (locs1 : List Loc), Wd D τ s A H0 ws' H1 locs1 → W p l e R s m args below meth c H1 locs1 cells slots Q (F0 m (pc + 1) ls rest)) : W p l e R s m args below meth c H locs cells slots Q (F0 m pc ls (.int x :: .int i :: .ref a :: rest)) :=
  va_bast B.1 B.2.1 Y.1.1 Y.2.1 Y.2.2.1 Y.2.2.2.1 q0 1 he rfl (vin_of h0 hj hn) hdg (fun H1 locs1 hP hD hS => kk H1 locs1 (by
    rw [hj, hg, hw] at hP hD
    exact ⟨Y.1, hP, hD, hS, Y.2.2.2.2⟩))
theorem t_alen {ty : FieldType} (B : CallFix p m c cc nL s args wALL own) (Y : Wd D τ s A H0 ws H locs) (q0 : Nat) {cA : ClassId} {xx : vp_A} (he : ws[q0]? = some (a, .inl (cA, xx))) (t0 : Nat) (ht : (gTys τ)[t0]? = some (cA, ty)) (hv : Int32.ofNat xx.1 = v) (hdg : decode cc pc = .ok (.arraylength, 1)) (kk : W p l e R s m args below meth c H locs cells slots Q (F0 m (pc + 1) ls (.int v :: rest))) : W p l e R s m args below meth c H locs cells slots Q (F0 m pc ls (.ref a :: rest)) :=
  va_alen B.1 B.2.1 Y.1.1 Y.2.1 q0 t0 he ht hv hdg kk
theorem t_newi {N' : Nat} (B : CallFix p m c cc nL s args wALL own) (Y : Wd D τ s A H0 ws H locs) (k1 : Cond.arrayClass .int ∈ wALL) (h0 : ¬ i < 0) (hj : i.toNatClampNeg = N') (hb : N' ≤ 134217728) (hc : cells + 1 ≤ R.cells) (hs : slots + N' ≤ R.slots) (hdg : decode cc pc = .ok (.newarray .int, 2)) (kk : ∀ (q : Nat) (H1 : Heap), Wd D τ s A H0 (ws ++ [(q, .inl (τ 0, N', .inl (fun _ => 0)))]) H1 locs → W p l e R s m args below meth c H1 locs (cells + 1) (slots + N') Q (F0 m (pc + 2) ls (.ref q :: rest))) : W p l e R s m args below meth c H locs cells slots Q (F0 m pc ls (.int i :: rest)) :=
  va_newa (atype := .int) (ty := .int) (a0 := (N', .inl (fun _ => 0))) B.1 B.2.1 (B.2.2.2.2 _ k1) rfl Y.1.1 Y.2.1 Y.2.2.1 Y.2.2.2.1 Y.2.2.2.2 (fun _ => rfl) h0 hj (by show N' * 4 ≤ 536870912; omega) hc hs hdg (fun q cA H1 hK hP hD hS => by
    have e : cA = τ 0 := ty_one hK 7 0 rfl rfl
    subst e
    exact kk q H1 ⟨Y.1, hP, hD, hS, Y.2.2.2.2⟩)
theorem t_newb {N' : Nat} (B : CallFix p m c cc nL s args wALL own) (Y : Wd D τ s A H0 ws H locs) (k1 : Cond.arrayClass .byte ∈ wALL) (h0 : ¬ i < 0) (hj : i.toNatClampNeg = N') (hb : N' ≤ 134217728) (hc : cells + 1 ≤ R.cells) (hs : slots + N' ≤ R.slots) (hdg : decode cc pc = .ok (.newarray .byte, 2)) (kk : ∀ (q : Nat) (H1 : Heap), Wd D τ s A H0 (ws ++ [(q, .inl (τ 1, N', .inl (fun _ => 0)))]) H1 locs → W p l e R s m args below meth c H1 locs (cells + 1) (slots + N') Q (F0 m (pc + 2) ls (.ref q :: rest))) : W p l e R s m args below meth c H locs cells slots Q (F0 m pc ls (.int i :: rest)) :=
  va_newa (atype := .byte) (ty := .byte) (a0 := (N', .inl (fun _ => 0))) B.1 B.2.1 (B.2.2.2.2 _ k1) rfl Y.1.1 Y.2.1 Y.2.2.1 Y.2.2.2.1 Y.2.2.2.2 (fun _ => rfl) h0 hj (by show N' * 1 ≤ 536870912; omega) hc hs hdg (fun q cA H1 hK hP hD hS => by
    have e : cA = τ 1 := ty_one hK 7 1 rfl rfl
    subst e
    exact kk q H1 ⟨Y.1, hP, hD, hS, Y.2.2.2.2⟩)
theorem t_newz {N' : Nat} (B : CallFix p m c cc nL s args wALL own) (Y : Wd D τ s A H0 ws H locs) (k1 : Cond.arrayClass .boolean ∈ wALL) (h0 : ¬ i < 0) (hj : i.toNatClampNeg = N') (hb : N' ≤ 134217728) (hc : cells + 1 ≤ R.cells) (hs : slots + N' ≤ R.slots) (hdg : decode cc pc = .ok (.newarray .boolean, 2)) (kk : ∀ (q : Nat) (H1 : Heap), Wd D τ s A H0 (ws ++ [(q, .inl (τ 2, N', .inl (fun _ => 0)))]) H1 locs → W p l e R s m args below meth c H1 locs (cells + 1) (slots + N') Q (F0 m (pc + 2) ls (.ref q :: rest))) : W p l e R s m args below meth c H locs cells slots Q (F0 m pc ls (.int i :: rest)) :=
  va_newa (atype := .boolean) (ty := .boolean) (a0 := (N', .inl (fun _ => 0))) B.1 B.2.1 (B.2.2.2.2 _ k1) rfl Y.1.1 Y.2.1 Y.2.2.1 Y.2.2.2.1 Y.2.2.2.2 (fun _ => rfl) h0 hj (by show N' * 1 ≤ 536870912; omega) hc hs hdg (fun q cA H1 hK hP hD hS => by
    have e : cA = τ 2 := ty_one hK 7 2 rfl rfl
    subst e
    exact kk q H1 ⟨Y.1, hP, hD, hS, Y.2.2.2.2⟩)
theorem t_newq {N' index t0 : Nat} {C : String} {cT : ClassId} (B : CallFix p m c cc nL s args wALL own) (Y : Wd D τ s A H0 ws H locs) (k1 : Cond.classLink own index C ∈ wALL) (ho : va_AO C s) (ht : (gTys τ)[t0]? = some (cT, .object C)) (h8 : t0 < 7) (h0 : ¬ i < 0) (hj : i.toNatClampNeg = N') (hb : N' ≤ 134217728) (hc : cells + 1 ≤ R.cells) (hs : slots + N' ≤ R.slots) (hdg : decode cc pc = .ok (.anewarray index, 3)) (kk : ∀ (q : Nat) (H1 : Heap), Wd D τ s A H0 (ws ++ [(q, .inl (cT, N', .inr (.inr (.inr (.inr (fun _ => none))))))]) H1 locs → W p l e R s m args below meth c H1 locs (cells + 1) (slots + N') Q (F0 m (pc + 3) ls (.ref q :: rest))) : W p l e R s m args below meth c H locs cells slots Q (F0 m pc ls (.int i :: rest)) :=
  va_newq B.1 B.2.1 B.2.2.2.1 (B.2.2.2.2 _ k1) ho Y.1.1 Y.2.1 Y.2.2.1 Y.2.2.2.1 Y.2.2.2.2 h0 hj (by omega) hc hs hdg (fun q cA H1 hK hP hD hS => by
    have e : cA = cT := ty_one hK 7 t0 rfl (by rw [List.getElem?_append_left (by exact h8)]; exact ht)
    subst e
    exact kk q H1 ⟨Y.1, hP, hD, hS, Y.2.2.2.2⟩)
theorem t_aald {C : String} {cT : ClassId} {fr : Nat → Option Nat} {r : Option Nat} (B : CallFix p m c cc nL s args wALL own) (Y : Wd D τ s A H0 ws H locs) (q0 : Nat) (he : ws[q0]? = some (a, .inl (cT, n, .inr (.inr (.inr (.inr fr)))))) (t0 : Nat) (ht : (gTys τ)[t0]? = some (cT, .object C)) (h0 : ¬ i < 0) (hj : i.toNatClampNeg = j) (hn : j < n) (hv : fr j = r) (hdg : decode cc pc = .ok (.aaload, 1)) (kk : W p l e R s m args below meth c H locs cells slots Q (F0 m (pc + 1) ls (va_rf r :: rest))) : W p l e R s m args below meth c H locs cells slots Q (F0 m pc ls (.int i :: .ref a :: rest)) :=
  va_aldq B.1 B.2.1 Y.1.1 Y.2.1 q0 t0 he ht (vin_of h0 hj hn) hdg (by rw [hj, hv]; exact kk)
theorem t_aast {ci v' : Nat} {T : u_T} {N : Nat} {C : String} {cT : ClassId} {vs : List Value} {fr gr : Nat → Option Nat} (B : CallFix p m c cc nL s args wALL own) (Y : Wd D τ s A H0 ws H locs) (q0 qk : Nat) (he : ws[q0]? = some (a, .inl (cT, n, .inr (.inr (.inr (.inr fr)))))) (hq : ws[qk]? = some (v', .inr (ci, vs))) (hcl : vwCl[ci]? = some (C, T, N)) (t0 : Nat) (ht : (gTys τ)[t0]? = some (cT, .object C)) (h0 : ¬ i < 0) (hj : i.toNatClampNeg = j) (hn : j < n) (hg : va_up fr j (some v') = gr) (hw : ws.set q0 (a, .inl (cT, n, .inr (.inr (.inr (.inr gr))))) = ws') (hdg : decode cc pc = .ok (.aastore, 1)) (kk : ∀ (H1 : Heap) (locs1 : List Loc), Wd D τ s A H0 ws' H1 locs1 → W p l e R s m args below meth c H1 locs1 cells slots Q (F0 m (pc + 1) ls rest)) : W p l e R s m args below meth c H locs cells slots Q (F0 m pc ls (.ref v' :: .int i :: .ref a :: rest)) :=
  va_astq B.1 B.2.1 Y.1.1 Y.2.1 Y.2.2.1 Y.2.2.2.1 q0 t0 qk ci (r := (C, T, N)) he ht hq hcl (vin_of h0 hj hn) hdg (fun H1 locs1 hP hD hS => kk H1 locs1 (by
    rw [hj, hg, hw] at hP hD
    exact ⟨Y.1, hP, hD, hS, Y.2.2.2.2⟩))
theorem t_new {C : String} {T : u_T} {N ci index : Nat} {ty0 : Nat → FieldType} {fs : List Value} (B : CallFix p m c cc nL s args wALL own) (Y : Wd D τ s A H0 ws H locs) (hin : ∀ w ∈ u_ws C T N, w ∈ wALL) (hty : ∀ k, k < N → parseFieldDescriptor (T k).2.2.1 = some (ty0 k)) (k1 : Cond.classLink own index C ∈ wALL) (k2 : Cond.instantiable C N ∈ wALL) (k3 : Cond.initialized C ∈ wALL) (hc : vwCl[ci]? = some (C, T, N)) (hfs : ∀ j, j < N → defaultValue (ty0 j) = vp_V fs j) (hcells : cells + 1 ≤ R.cells) (hslots : slots + N ≤ R.slots) (hdg : decode cc pc = .ok (.new index, 3)) (kk : ∀ (q : Nat) (H1 : Heap), Wd D τ s A H0 (ws ++ [(q, .inr (ci, fs))]) H1 locs → W p l e R s m args below meth c H1 locs (cells + 1) (slots + N) Q (F0 m (pc + 3) ls (.ref q :: rest))) : W p l e R s m args below meth c H locs cells slots Q (F0 m pc ls rest) :=
  va_new B.1 B.2.1 B.2.2.2.2 hin ty0 hty B.2.2.2.1 (B.2.2.2.2 _ k1) (B.2.2.2.2 _ k2) (B.2.2.2.2 _ k3) Y.1.1 Y.2.1 Y.2.2.1 Y.2.2.2.1 Y.2.2.2.2 hc hfs hcells hslots hdg (fun q H1 hP hD hS => kk q H1 ⟨Y.1, hP, hD, hS, Y.2.2.2.2⟩)
end TR
section TQ
variable {p : Program} {l : Launch} {e : Env} {R : Room} {s : State} {m : MethodId} {args : Array Value} {below : List Frame} {meth : Method} {c : Code} {H : Heap} {locs : List Loc} {cells slots : Nat} {Q : State → Prop}
variable {cc : ByteArray} {pc nL : Nat} {ls : Array Slot} {rest : List Value} {own : String} {D : va_G} {τ : Nat → ClassId} {A : Nat → Prop} {H0 : Heap} {ws : va_W}
theorem endQ {S : Type} {post : Option Nat → S → Prop} {w1 : S → va_W} {mc ms : Nat} {C : String} {r : Option Nat} (B : CallFix p m c cc nL s args wALL own) (hr : meth.sig.returnType = some (.object C)) (hk : meth.locks = false) (Y : Wd D τ s A s.heap ws H locs) (u : S) (hp : post r u) (is : List Nat) (hn : va_nd is = true) (hs : is.map (fun i => ws[i]?) = (w1 u).map some) (hc : cells ≤ mc) (hs2 : slots ≤ ms) (hdg : decode cc pc = .ok (.areturn, 1)) : W p l e R s m args below meth c H locs cells slots (MQ below (va_Qq post (Bw D A w1) A) args s mc ms A) (F0 m pc ls [va_rf r]) := by
  have Z := Y.sub is hn hs
  exact W.widen hc hs2 (W.aret (v := va_rf r) B.1 B.2.1 hr (Or.inl ⟨C, rfl⟩) (by cases r with
    | none => exact Or.inl rfl
    | some a => exact Or.inr ⟨a, rfl⟩) (fun t ht hW => ⟨⟨r, u, rfl, hp, by rw [ht]; exact Z.2.1, Z.2.2.1⟩, Y.2.2.2.1.F ht⟩) Y.2.2.2.1.2.2 hdg hk)
theorem retQ {S : Type} {post : Option Nat → S → Prop} {w1 : S → va_W} {mc ms : Nat} {wc wr : va_W} {a : Array Value} {st0 : List Value} {A0 : Nat → Prop} (Y : Wd D τ s A0 H0 ws H locs) (is ir : List Nat) (hC : is.map (fun i => ws[i]?) = wc.map some) (hR : ir.map (fun i => ws[i]?) = wr.map some) (hn : va_nd ir = true) (hdis : ∀ i ∈ ir, i ∉ is)
    (hr : va_Run p l e R s m args below meth c H locs cells slots mc ms (F0 m pc ls st0) rest (va_Qq post (Bw D (va_A wc H.size) w1) (va_A wc H.size) a) (va_A wc H.size))
    (kk : ∀ (r : Option Nat) (u : S) (H1 : Heap) (locs1 : List Loc), post r u → Wd D τ s A0 H0 (wr ++ w1 u) H1 locs1 → W p l e R s m args below meth c H1 locs1 (cells + mc) (slots + ms) Q (F0 m (pc + 3) ls (va_rf r :: rest))) : W p l e R s m args below meth c H locs cells slots Q (F0 m pc ls st0) := by
  obtain ⟨hK, hP, hD, hS, hA⟩ := Y
  have hFc := va_free (wc := wc) hD hS hA is hC
  refine va_callq hr hS (fun q _ h => hFc q h) hFc (fun r u t H1 locs1 ht hvm hw hB hz1 hk1 hS1 => ?_)
  obtain ⟨hP1, hD1⟩ := hB
  rw [ht] at hP1
  obtain ⟨hPj, hDj⟩ := va_join (wr := wr) (w1 := w1 u) hP hD is ir hC hR hn hdis hk1 hFc hP1 hD1
  exact kk r u H1 locs1 hw ⟨hK, hPj, hDj, hS1, hA⟩
end TQ
/-- the first i places are f's, the rest g's -/
def fil (f g : Nat → Int32) (i : Nat) : Nat → Int32 := fun k => if k < i then f k else g k
theorem fil_0 (f g : Nat → Int32) : fil f g 0 = g := by funext k; simp [fil]
theorem fil_s (f g : Nat → Int32) (i : Nat) (v : Int32) (h : f i = v) : upd (fil f g i) i v = fil f g (i + 1) := by
  funext k
  unfold upd fil
  by_cases h1 : k = i
  · subst h1; simp [h]
  · have : k < i + 1 ↔ k < i := by omega
    simp [h1, this]
/-! whole numbers -/
theorem i_1le {k : Int32} (h0 : ¬ k < 0) (h1 : k ≠ 0) : (1 : Int32) ≤ k := by
  rw [Int32.le_iff_toInt_le]
  have a : ¬ k.toInt < 0 := fun h => h0 (Int32.lt_iff_toInt_lt.mpr h)
  have b : k.toInt ≠ 0 := fun h => h1 (Int32.toInt_inj.mp h)
  show (1 : Int) ≤ k.toInt
  omega
theorem i_rng {x : Int32} {a b : Nat} (ha : a < 2 ^ 31) (hb : b < 2 ^ 31) (h1 : ¬ x < nI a) (h2 : ¬ nI b < x) : ∃ n : Nat, x = nI n ∧ a ≤ n ∧ n ≤ b := by
  rw [Int32.lt_iff_toInt_lt, nI_toInt ha] at h1
  rw [Int32.lt_iff_toInt_lt, nI_toInt hb] at h2
  have h0 : ¬ x < 0 := fun h => by
    have := Int32.lt_iff_toInt_lt.mp h
    have e : (0 : Int32).toInt = 0 := rfl
    omega
  obtain ⟨n, hn, rfl⟩ := nI_of h0
  rw [nI_toInt hn] at h1 h2
  exact ⟨n, rfl, by omega, by omega⟩
theorem i_nlt {a b : Int32} (h : ¬ a < b) : b ≤ a := by
  rw [Int32.le_iff_toInt_le]
  have : ¬ a.toInt < b.toInt := fun q => h (Int32.lt_iff_toInt_lt.mpr q)
  omega
theorem fa_nle {a b : Int32} (h : ¬ a ≤ b) : b < a := by
  rw [Int32.lt_iff_toInt_lt]
  have : ¬ a.toInt ≤ b.toInt := fun q => h (Int32.le_iff_toInt_le.mpr q)
  omega
theorem fa_le_nlt {a b : Int32} (h : a ≤ b) : ¬ b < a := fun q => by
  have h1 := Int32.le_iff_toInt_le.mp h
  have h2 := Int32.lt_iff_toInt_lt.mp q
  omega
section TSN
variable {p : Program} {l : Launch} {e : Env} {R : Room} {s : State} {m : MethodId} {args : Array Value} {below : List Frame} {meth : Method} {c : Code} {H : Heap} {locs : List Loc} {cells slots : Nat}
variable {cc : ByteArray} {pc nL : Nat} {ls : Array Slot} {rest : List Value} {own : String} {D : va_G} {τ : Nat → ClassId} {A0 : Nat → Prop} {H0 : Heap} {ws : va_W}
theorem rSN {y : MethodName} {bytes : ByteArray} {maxL n index mc ms : Nat} {host : String} {ret : Option FieldType} {rm : Room} {Qc : Array Value → State → Outcome → State → Prop} {free : Addr → Prop} {As : List Value} {wc : va_W} {st0 : List Value}
    (B : CallFix p m c cc nL s args wALL own) (Y : Wd D τ s A0 H0 ws H locs) (is : List Nat) (hn : va_nd is = true) (hC : is.map (fun i => ws[i]?) = wc.map some)
    (hM : Met l y (Cond.code y bytes maxL ret :: wALL) rm (Pw D τ wc H.size As) Qc mc ms free)
    (k1 : va_Nw (.methodLinkNest own index y host) s) (k2 : Cond.static y ∈ wALL) (k4 : Cond.initialized y.cls ∈ wALL) (k5 : Cond.code y bytes maxL ret ∈ wALL) (hrc : rm.cells = mc) (hrs : rm.slots = ms)
    (hd : y.cls ≠ "java/lang/invoke/MethodHandle" ∧ y.cls ≠ "java/lang/invoke/VarHandle" ∧ (parseMethodDescriptor y.desc).map (fun d => d.parameters.length) = some n) (hR : rm.frames + 1 ≤ R.frames ∧ 8 + (maxL + 11) + rm.locals ≤ R.locals) (hAs : As.length = n) (hls : ls.size = nL) (hst : st0 = As.reverse ++ rest) (hrest : (rest.map fun v => v.category).sum ≤ 8) (hdg : decode cc pc = .ok (.invokestatic index, 3)) (hf : cells + mc ≤ R.cells ∧ slots + ms ≤ R.slots) :
    va_Run p l e R s m args below meth c H locs cells slots mc ms (F0 m pc ls st0) rest (Qc As.toArray) free := by
  have Z := Y.sub is hn hC
  have hts := B.2.2.2.2
  exact va_runSN (As := As) (rest := rest) B hM ⟨va_cnB n hts (gALL k5) rfl hrc hrs k1 (hts _ k4) hd hR, hts _ k2, trivial⟩ ⟨Pw.blind, fun U hU hW => ⟨rfl, by rw [hU], by rw [hU]; exact Z.2.1, Z.1.warm hW, Z.2.2.1.weaken (fun _ _ _ _ => trivial)⟩⟩ rfl hAs hls hst (lv_room hrest) hdg hf
end TSN
