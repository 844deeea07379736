/-! the law: helpers with tables, rows of longs, the script -/
def Hz (adK adV : Nat → Nat) (A : Nat → Prop) (U : State) : Prop := Tz A U ∧ Sk adK adV A U ∧ va_Nc "java/lang/IllegalArgumentException" "java/lang/IndexOutOfBoundsException" U
theorem Hz.ok (adK adV : Nat → Nat) : EOK (Hz adK adV) := by
  refine ⟨fun A a U g mk h => ⟨h.1.call, (Sk.ok adK adV).1 A a U g mk h.2.1, va_Nc.moved (u := U) (U := U.calling g mk a) (Vm.Alike.refl U.vm) h.2.2⟩, fun A B s U h hk hW hF => ⟨⟨?_, ?_⟩, (Sk.ok adK adV).2 A B s U h.2.1 hk hW hF, va_Nc.moved hW.alike h.2.2⟩⟩
  · exact vx_Zq.narrow (vx_Zq.moved hW.alike (vx_Zq.kept h.1.1 hk)) hF
  · exact vx_Zq.narrow (vx_Zq.moved hW.alike (vx_Zq.kept h.1.2 hk)) hF
section LW
variable {p : Program} {l : Launch} {e : Env} {R : Room} {s : State} {m : MethodId} {args : Array Value} {below : List Frame} {meth : Method} {c : Code} {H : Heap} {locs : List Loc} {cells slots : Nat} {Q : State → Prop}
variable {cc : ByteArray} {pc nL : Nat} {ls : Array Slot} {rest : List Value} {own : String} {D : va_G} {τ : Nat → ClassId} {A A0 : Nat → Prop} {H0 : Heap} {ws ws' : va_W} {E : (Nat → Prop) → State → Prop} {a n j q0 : Nat} {i v : Int32}
theorem bodyH {y : MethodName} {b : ByteArray} {n : Nat} {ret : Option FieldType} {hh : List (Nat × Nat × Nat × Nat)} {rm : Room} {av : List Value} {wc : va_W} {sz : Nat} {Qc : Array Value → State → Outcome → State → Prop} {XC : String → State → State → Prop} {mc ms : Nat} {free : Addr → Prop} (hy : plainName y.cls = true) (hn : (lg_sl av).length ≤ n)
    (k : ∀ (p : Program) (e : Env) (s : State) (m : MethodId) (below : List Frame) (meth : Method) (c : Code) (ls : Array Slot), CallFix p m c b n s av.toArray wALL y.cls → meth.sig.returnType = ret → meth.locks = false → c.exceptionTable.toList = tableOf hh → s.heap.size = sz → Wd D τ s (va_A wc sz) s.heap wc s.heap [] → E (va_A wc sz) s → lv_has ls n (lv_args 0 av) → W p l e rm s m av.toArray below meth c s.heap [] 0 0 (vx_MQ below Qc XC av.toArray s mc ms free) (F0 m 0 ls [])) :
    vx_Met l y (Cond.codeWith y b n ret hh :: wALL) rm (PwE E D τ wc sz av) Qc XC mc ms free := by
  refine vx_ofWH (cc := b) (maxL := n) (ret := ret) (hh := hh) hy rfl ?_
  intro p e s m args below meth c s₁ B hml hv
  obtain ⟨rfl, hsz, hP, hK, hD0, hT⟩ := hv
  have hts := atoms_spec (ws := Cond.codeWith y b n ret hh :: wALL) B.pre
  have htab := vx_table (x := y) B (hts _ List.mem_cons_self)
  have hts : ∀ w ∈ wALL, w.before _ s = true := fun w h => hts w (List.mem_cons_of_mem _ h)
  subst hsz
  have hl := lv_entry av (n := n) hn
  rw [lg_entry_eq]
  exact k p e s m below meth c _ ⟨B.exec, B.bytes, hml, findClass_of_methodNamed B.named, hts⟩ B.returns B.notSynchronized htab rfl ⟨hK, hP, hD0.self, va_S.rf, fun q h => Or.inr h⟩ hT hl
theorem rSH {y : MethodName} {bytes : ByteArray} {maxL n index mc ms : Nat} {ret : Option FieldType} {hh : List (Nat × Nat × Nat × Nat)} {rm : Room} {Qc : Array Value → State → Outcome → State → Prop} {XC : String → State → State → Prop} {free : Addr → Prop} {As : List Value} {wc : va_W} {st0 : List Value} (hE : EOK E) (hT : E A s)
    (B : CallFix p m c cc nL s args wALL own) (Y : Wd D τ s A s.heap ws H locs) (is : List Nat) (hn : va_nd is = true) (hC : is.map (fun i => ws[i]?) = wc.map some)
    (hM : vx_Met l y (Cond.codeWith y bytes maxL ret hh :: wALL) rm (PwE E D τ wc H.size As) Qc XC mc ms free)
    (k1 : Cond.methodLink own index y ∈ wALL) (k2 : Cond.static y ∈ wALL) (k4 : Cond.initialized y.cls ∈ wALL) (k5 : Cond.codeWith y bytes maxL ret hh ∈ wALL) (hrc : rm.cells = mc) (hrs : rm.slots = ms)
    (hd : y.cls ≠ "java/lang/invoke/MethodHandle" ∧ y.cls ≠ "java/lang/invoke/VarHandle" ∧ (parseMethodDescriptor y.desc).map (fun d => d.parameters.length) = some n) (hR : rm.frames + 1 ≤ R.frames ∧ 8 + (maxL + 11) + rm.locals ≤ R.locals) (hAs : As.length = n) (hls : ls.size = nL) (hst : st0 = As.reverse ++ rest) (hrest : (rest.map fun v => v.category).sum ≤ 8) (hdg : decode cc pc = .ok (.invokestatic index, 3)) (hf : cells + mc ≤ R.cells ∧ slots + ms ≤ R.slots) :
    vx_Run p l e R s m args below meth c H locs cells slots mc ms (F0 m pc ls st0) rest (Qc As.toArray) XC free := by
  have Z := Y.sub is hn hC
  have hts := B.2.2.2.2
  have hFc := va_free (wc := wc) Y.2.2.1 Y.2.2.2.1 Y.2.2.2.2 is hC
  have hG : GoodIn wALL (va_wsS own index y (Cond.codeWith y bytes maxL ret hh :: wALL)) := by
    intro w hw
    rcases List.mem_append.mp (by unfold va_wsS at hw; exact hw) with h | h
    · simp only [List.mem_cons, List.not_mem_nil, or_false] at h
      rcases h with rfl | rfl | rfl
      · exact ⟨k1, wALL_good k1⟩
      · exact ⟨k2, wALL_good k2⟩
      · exact ⟨k4, wALL_good k4⟩
    · exact gALL k5 w h
  exact vx_runSX (As := As) (rest := rest) B hM (vx_cwSW n hts hG rfl hrc hrs hd hR) ⟨PwE.blind hE, fun U hU hW => ⟨rfl, by rw [hU], by rw [hU]; exact Z.2.1, Z.1.warm hW, Z.2.2.1.weaken (fun _ _ _ _ => trivial), hE.sub hT Y hU hW hFc⟩⟩ rfl hAs hls hst (lv_room hrest) hdg hf
/-- behind a call: what it returns, what it throws -/
theorem retIC {S : Type} {post : Int32 → S → Prop} {w1 : S → va_W} {mc ms : Nat} {wc wr : va_W} {a : Array Value} {st0 : List Value} {P : String → Prop} (Y : Wd D τ s A s.heap ws H locs) (is ir : List Nat) (hC : is.map (fun i => ws[i]?) = wc.map some) (hR : ir.map (fun i => ws[i]?) = wr.map some) (hn : va_nd ir = true) (hdis : ∀ i ∈ ir, i ∉ is)
    (hr : vx_Run p l e R s m args below meth c H locs cells slots mc ms (F0 m pc ls st0) rest (va_Qi post (Bw D (va_A wc H.size) w1) (va_A wc H.size) a) (XQ P (va_A wc H.size)) (va_A wc H.size))
    (kx : ∀ (E : String) (ce : Cell) (q9 : Addr) (H1 : Heap) (locs1 : List Loc), P E → Wd D τ s A s.heap wr H1 locs1 → H1[q9]? = some ce → ce.vm = .none → s.vm.findClass E = some ce.cls → vx_W p l e R s m args below meth c H1 locs1 (cells + mc) (slots + ms) Q (F0 m pc ls rest) q9)
    (kk : ∀ (r : Int32) (u : S) (H1 : Heap) (locs1 : List Loc), post r u → Wd D τ s A s.heap (wr ++ w1 u) H1 locs1 → W p l e R s m args below meth c H1 locs1 (cells + mc) (slots + ms) Q (F0 m (pc + 3) ls (.int r :: rest))) : W p l e R s m args below meth c H locs cells slots Q (F0 m pc ls st0) := by
  obtain ⟨hK, hP, hD, hS, hA⟩ := Y
  have hFc := va_free (wc := wc) hD hS hA is hC
  refine vx_calli hr hS (fun q _ h => hFc q h) hFc (fun q _ h => hFc q h) (fun E ce q9 u t H1 locs1 ht1 hvm hpx hBX hz1 hk1 hS1 g1 g2 g3 => ?_) (fun r u t H1 locs1 ht1 hvm hw hB hz1 hk1 hS1 => ?_)
  · obtain ⟨hPj, hDj⟩ := va_join (wr := wr) (w1 := []) hP hD is ir hC hR hn hdis hk1 hFc (fun k q h => by simp at h) ⟨fun i j p q h => by simp at h, fun k q h => by simp at h⟩
    rw [List.append_nil] at hPj hDj
    exact kx E ce q9 H1 locs1 hBX ⟨hK, hPj, hDj, hS1, hA⟩ g1 g2 g3
  · obtain ⟨hP1, hD1⟩ := hB
    rw [ht1] at hP1
    obtain ⟨hPj, hDj⟩ := va_join (wr := wr) (w1 := w1 u) hP hD is ir hC hR hn hdis hk1 hFc hP1 hD1
    exact kk r u H1 locs1 hw ⟨hK, hPj, hDj, hS1, hA⟩
theorem t_last {f g : Nat → Int64} {x : Int64} (B : CallFix p m c cc nL s args wALL own) (Y : Wd D τ s A H0 ws H locs) (q0 : Nat) (he : ws[q0]? = some (a, .inl (τ 7, n, .inr (.inl f)))) (h0 : ¬ i < 0) (hj : i.toNatClampNeg = j) (hn : j < n) (hg : vp_updL f j x = g) (hw : ws.set q0 (a, .inl (τ 7, n, .inr (.inl g))) = ws') (hdg : decode cc pc = .ok (.lastore, 1)) (kk : ∀ (H : Heap) (locs : List Loc), Wd D τ s A H0 ws' H locs → W p l e R s m args below meth c H locs cells slots Q (F0 m (pc + 1) ls rest)) : W p l e R s m args below meth c H locs cells slots Q (F0 m pc ls (.long x :: .int i :: .ref a :: rest)) :=
  va_last B.1 B.2.1 Y.1.1 Y.2.1 Y.2.2.1 Y.2.2.2.1 q0 7 he rfl (vin_of h0 hj hn) hdg (fun H1 locs1 hP hD hS => kk H1 locs1 (by
    rw [hj, hg, hw] at hP hD
    exact ⟨Y.1, hP, hD, hS, Y.2.2.2.2⟩))
theorem t_lald {f : Nat → Int64} {x : Int64} (B : CallFix p m c cc nL s args wALL own) (Y : Wd D τ s A H0 ws H locs) (q0 : Nat) (he : ws[q0]? = some (a, .inl (τ 7, n, .inr (.inl f)))) (h0 : ¬ i < 0) (hj : i.toNatClampNeg = j) (hn : j < n) (hv : f j = x) (hdg : decode cc pc = .ok (.laload, 1)) (kk : W p l e R s m args below meth c H locs cells slots Q (F0 m (pc + 1) ls (.long x :: rest))) : W p l e R s m args below meth c H locs cells slots Q (F0 m pc ls (.int i :: .ref a :: rest)) :=
  va_lald B.1 B.2.1 Y.1.1 Y.2.1 q0 7 he rfl (vin_of h0 hj hn) hdg (by rw [hj, hv]; exact kk)
theorem t_newl {N' : Nat} (B : CallFix p m c cc nL s args wALL own) (Y : Wd D τ s A H0 ws H locs) (k1 : Cond.arrayClass .long ∈ wALL) (h0 : ¬ i < 0) (hj : i.toNatClampNeg = N') (hb : N' ≤ 67108864) (hc : cells + 1 ≤ R.cells) (hs : slots + N' ≤ R.slots) (hdg : decode cc pc = .ok (.newarray .long, 2)) (kk : ∀ (q : Nat) (H1 : Heap), Wd D τ s A H0 (ws ++ [(q, .inl (τ 7, N', .inr (.inl (fun _ => 0))))]) H1 locs → W p l e R s m args below meth c H1 locs (cells + 1) (slots + N') Q (F0 m (pc + 2) ls (.ref q :: rest))) : W p l e R s m args below meth c H locs cells slots Q (F0 m pc ls (.int i :: rest)) :=
  va_newa (atype := .long) (ty := .long) (a0 := (N', .inr (.inl (fun _ => 0)))) B.1 B.2.1 (B.2.2.2.2 _ k1) rfl Y.1.1 Y.2.1 Y.2.2.1 Y.2.2.2.1 Y.2.2.2.2 (fun _ => rfl) h0 hj (by show N' * 8 ≤ 536870912; omega) hc hs hdg (fun q cA H1 hK hP hD hS => by
    have e : cA = τ 7 := ty_one hK 8 7 rfl rfl
    subst e
    exact kk q H1 ⟨Y.1, hP, hD, hS, Y.2.2.2.2⟩)
theorem t_slen {b L : Nat} {xs : Nat → Int32} (B : CallFix p m c cc nL s args wALL own) (Y : Wd D τ s A s.heap ws H locs) (hX : va_X b L xs s s.heap) (hbl : b < s.heap.size) (hbA : ¬ A b) (hdg : decode cc pc = .ok (.arraylength, 1)) (kk : W p l e R s m args below meth c H locs cells slots Q (F0 m (pc + 1) ls (.int (nI L) :: rest))) : W p l e R s m args below meth c H locs cells slots Q (F0 m pc ls (.ref b :: rest)) :=
  va_slen B.1 B.2.1 hX hbl hbA Y.2.2.2.1 hdg kk
theorem t_sld {b L : Nat} {xs : Nat → Int32} (B : CallFix p m c cc nL s args wALL own) (Y : Wd D τ s A s.heap ws H locs) (hX : va_X b L xs s s.heap) (hbl : b < s.heap.size) (hbA : ¬ A b) (h0 : ¬ i < 0) (hj : i.toNatClampNeg = j) (hn : j < L) (hdg : decode cc pc = .ok (.iaload, 1)) (kk : W p l e R s m args below meth c H locs cells slots Q (F0 m (pc + 1) ls (.int (xs j) :: rest))) : W p l e R s m args below meth c H locs cells slots Q (F0 m pc ls (.int i :: .ref b :: rest)) :=
  va_sld B.1 B.2.1 hX hbl hbA Y.2.2.2.1 (vin_of h0 hj hn) hdg (by rw [hj]; exact kk)
theorem retF {S : Type} {post : UInt32 → S → Prop} {w1 : S → va_W} {mc ms : Nat} {wc wr : va_W} {a : Array Value} {st0 : List Value} {A0 : Nat → Prop} (Y : Wd D τ s A0 H0 ws H locs) (is ir : List Nat) (hC : is.map (fun i => ws[i]?) = wc.map some) (hR : ir.map (fun i => ws[i]?) = wr.map some) (hn : va_nd ir = true) (hdis : ∀ i ∈ ir, i ∉ is)
    (hr : va_Run p l e R s m args below meth c H locs cells slots mc ms (F0 m pc ls st0) rest (va_Qf post (Bw D (va_A wc H.size) w1) (va_A wc H.size) a) (va_A wc H.size))
    (kk : ∀ (r : UInt32) (u : S) (H1 : Heap) (locs1 : List Loc), post r u → Wd D τ s A0 H0 (wr ++ w1 u) H1 locs1 → W p l e R s m args below meth c H1 locs1 (cells + mc) (slots + ms) Q (F0 m (pc + 3) ls (.float r :: rest))) : W p l e R s m args below meth c H locs cells slots Q (F0 m pc ls st0) := by
  obtain ⟨hK, hP, hD, hS, hA⟩ := Y
  have hFc := va_free (wc := wc) hD hS hA is hC
  refine va_callf hr hS (fun q _ h => hFc q h) hFc (fun r u t H1 locs1 ht hvm hw hB hz1 hk1 hS1 => ?_)
  obtain ⟨hP1, hD1⟩ := hB
  rw [ht] at hP1
  obtain ⟨hPj, hDj⟩ := va_join (wr := wr) (w1 := w1 u) hP hD is ir hC hR hn hdis hk1 hFc hP1 hD1
  exact kk r u H1 locs1 hw ⟨hK, hPj, hDj, hS1, hA⟩
theorem retD {S : Type} {post : UInt64 → S → Prop} {w1 : S → va_W} {mc ms : Nat} {wc wr : va_W} {a : Array Value} {st0 : List Value} {A0 : Nat → Prop} (Y : Wd D τ s A0 H0 ws H locs) (is ir : List Nat) (hC : is.map (fun i => ws[i]?) = wc.map some) (hR : ir.map (fun i => ws[i]?) = wr.map some) (hn : va_nd ir = true) (hdis : ∀ i ∈ ir, i ∉ is)
    (hr : va_Run p l e R s m args below meth c H locs cells slots mc ms (F0 m pc ls st0) rest (va_Qd post (Bw D (va_A wc H.size) w1) (va_A wc H.size) a) (va_A wc H.size))
    (kk : ∀ (r : UInt64) (u : S) (H1 : Heap) (locs1 : List Loc), post r u → Wd D τ s A0 H0 (wr ++ w1 u) H1 locs1 → W p l e R s m args below meth c H1 locs1 (cells + mc) (slots + ms) Q (F0 m (pc + 3) ls (.double r :: rest))) : W p l e R s m args below meth c H locs cells slots Q (F0 m pc ls st0) := by
  obtain ⟨hK, hP, hD, hS, hA⟩ := Y
  have hFc := va_free (wc := wc) hD hS hA is hC
  refine va_calld hr hS (fun q _ h => hFc q h) hFc (fun r u t H1 locs1 ht hvm hw hB hz1 hk1 hS1 => ?_)
  obtain ⟨hP1, hD1⟩ := hB
  rw [ht] at hP1
  obtain ⟨hPj, hDj⟩ := va_join (wr := wr) (w1 := w1 u) hP hD is ir hC hR hn hdis hk1 hFc hP1 hD1
  exact kk r u H1 locs1 hw ⟨hK, hPj, hDj, hS1, hA⟩
end LW
theorem tyP {args : Array Value} {s : State} {ty : FieldType} (hty : ∀ C, ty ≠ .object C) (h : (Cond.arrayClass ty).before args s = true) : ∃ cA : ClassId, ArrOfT s cA ty ∧ va_RA s cA ty := by
  obtain ⟨cA, kA, comp, h1, h2, h3⟩ := Cond.arrayClass_spec h
  refine ⟨cA, fun n z => ⟨fun k h => (by cases h), kA, h2, comp, h3⟩, ?_⟩
  cases ty with
  | object C => exact absurd rfl (hty C)
  | _ => exact h1
theorem tyO {args : Array Value} {s : State} {C : String} (h : (Cond.arrayOver (.object C)).before args s = true) : ∃ cA : ClassId, ArrOfT s cA (.object C) ∧ va_RA s cA (.object C) := by
  obtain ⟨comp, cA, kA, h1, h2, h3, h4, h5⟩ := Cond.arrayOver_spec h
  exact ⟨cA, fun n z => ⟨fun k h => (by cases h), kA, h3, comp, h4⟩, kA, comp, h3, h4, h1, h5⟩
theorem cmb1 {r t r2 : Int32} {g : Nat → Int64} {PV : Int32 → Prop} {X : String → Prop} (hw : (r = 0 ∧ ∃ v : Int32, g 0 = Int32.toInt64 v ∧ PV v) ∨ (r = 1 ∧ ∃ E : String, X E)) (hv : ∀ v, PV v → r2 = v ∧ t = 0) (hx : ∀ E, X E → t = 1) : t = r ∧ (r = 0 → g 0 = Int32.toInt64 r2) := by
  rcases hw with ⟨rfl, v, hg, h⟩ | ⟨rfl, E, h⟩
  · obtain ⟨e, et⟩ := hv v h
    subst e
    exact ⟨et, fun _ => hg⟩
  · exact ⟨hx E h, fun h => absurd h (by decide)⟩
theorem cmb2 {r t r2 : Int32} {g : Nat → Int64} {PV : Int32 → Prop} {X : String → Prop} (hw : (r = 0 ∧ ∃ v : Int32, g 0 = Int32.toInt64 v ∧ PV v) ∨ (∃ E : String, ((E = "java/lang/IndexOutOfBoundsException" ∧ r = 1) ∨ (E = "java/lang/IllegalArgumentException" ∧ r = 2)) ∧ X E)) (hv : ∀ v, PV v → r2 = v ∧ t = 0) (hx1 : ∀ E, X E → E = "java/lang/IndexOutOfBoundsException" → t = 1) (hx2 : ∀ E, X E → E = "java/lang/IllegalArgumentException" → t = 2) : t = r ∧ (r = 0 → g 0 = Int32.toInt64 r2) := by
  rcases hw with ⟨rfl, v, hg, h⟩ | ⟨E, ⟨e, rfl⟩ | ⟨e, rfl⟩, h⟩
  · obtain ⟨e, et⟩ := hv v h
    subst e
    exact ⟨et, fun _ => hg⟩
  · exact ⟨hx1 E h e, fun h => absurd h (by decide)⟩
  · exact ⟨hx2 E h e, fun h => absurd h (by decide)⟩
theorem cmbF {r t : Int32} {g : Nat → Int64} {X : String → Prop} (hw : (r = 0 ∧ ∃ v : Int32, g 0 = Int32.toInt64 v ∧ False) ∨ (∃ E : String, ((E = "java/lang/IndexOutOfBoundsException" ∧ r = 1) ∨ (E = "java/lang/IllegalArgumentException" ∧ r = 2)) ∧ X E)) (hx1 : ∀ E, X E → E = "java/lang/IndexOutOfBoundsException" → t = 1) (hx2 : ∀ E, X E → E = "java/lang/IllegalArgumentException" → t = 2) : t = r ∧ ¬ r = 0 := by
  rcases hw with ⟨rfl, v, hg, h⟩ | ⟨E, ⟨e, rfl⟩ | ⟨e, rfl⟩, h⟩
  · exact absurd h id
  · exact ⟨hx1 E h e, by decide⟩
  · exact ⟨hx2 E h e, by decide⟩
