/-! starts that know more (a fact of what a method doesn't write); the words of the description, as constants -/
def PwE (E : (Nat → Prop) → State → Prop) (D : va_G) (τ : Nat → ClassId) (wc : va_W) (sz : Nat) (av : List Value) : Array Value → State → Prop := va_Pc av (fun U => U.heap.size = sz ∧ va_P D vwCl wc U.heap ∧ Gw D τ U ∧ va_D (fun _ => True) wc ∧ E (va_A wc sz) U)
def EOK (E : (Nat → Prop) → State → Prop) : Prop := (∀ (A : Nat → Prop) (a : Array Value) (U : State) (g : JFrame) (mk : MethodId), E A U → E A (U.calling g mk a)) ∧ (∀ (A B : Nat → Prop) (s U : State), E A s → (∀ q : Nat, q < s.heap.size → ¬ A q → U.heap[q]? = s.heap[q]?) → s.WarmedH U.vm → (∀ q, B q → A q) → E B U)
theorem PwE.blind {E : (Nat → Prop) → State → Prop} (hE : EOK E) {D : va_G} {τ : Nat → ClassId} {wc : va_W} {sz : Nat} {av : List Value} : FrameBlind (PwE E D τ wc sz av) := fun a U g mk q => by
  obtain ⟨q0, q1, qP, qK, qD, qT⟩ := q
  exact ⟨q0, q1, qP, qK.call, qD, hE.1 _ _ _ _ _ qT⟩
section EW
variable {p : Program} {l : Launch} {e : Env} {R : Room} {s : State} {m : MethodId} {args : Array Value} {below : List Frame} {meth : Method} {c : Code} {H : Heap} {locs : List Loc} {cells slots : Nat} {Q : State → Prop}
variable {cc : ByteArray} {pc nL : Nat} {ls : Array Slot} {rest : List Value} {own : String} {D : va_G} {τ : Nat → ClassId} {A A0 : Nat → Prop} {H0 : Heap} {ws : va_W} {E : (Nat → Prop) → State → Prop}
theorem EOK.sub (hE : EOK E) {wc : va_W} {U : State} (T : E A0 s) (Y : Wd D τ s A0 s.heap ws H locs) (hU : U.heap = H) (hW : s.WarmedH U.vm) (hF : ∀ q, va_A wc H.size q → A0 q) : E (va_A wc H.size) U :=
  hE.2 A0 _ s U T (fun a h1 h2 => by rw [hU]; exact Y.2.2.2.1.2.1 a h1 h2) hW hF
theorem bodyE {y : MethodName} {b : ByteArray} {n : Nat} {ret : Option FieldType} {rm : Room} {av : List Value} {wc : va_W} {sz : Nat} {Qc : Array Value → State → Outcome → State → Prop} {mc ms : Nat} {free : Addr → Prop} (hy : plainFor y = true) (hn : (lg_sl av).length ≤ n)
    (k : ∀ (p : Program) (e : Env) (s : State) (m : MethodId) (below : List Frame) (meth : Method) (c : Code) (ls : Array Slot), CallFix p m c b n s av.toArray wALL y.cls → meth.sig.returnType = ret → meth.locks = false → meth.name = y.name → s.heap.size = sz → Wd D τ s (va_A wc sz) s.heap wc s.heap [] → E (va_A wc sz) s → lv_has ls n (lv_args 0 av) → W p l e rm s m av.toArray below meth c s.heap [] 0 0 (MQ below Qc av.toArray s mc ms free) (F0 m 0 ls [])) :
    Met l y (Cond.code y b n ret :: wALL) rm (PwE E D τ wc sz av) Qc mc ms free := by
  refine ofWF (cc := b) (maxL := n) (ret := ret) hy rfl ?_
  intro p e s m args below meth c s₁ B hml hv
  obtain ⟨rfl, hsz, hP, hK, hD0, hT⟩ := hv
  have hts := atoms_spec (ws := Cond.code y b n ret :: wALL) B.pre
  have hts : ∀ w ∈ wALL, w.before _ s = true := fun w h => hts w (List.mem_cons_of_mem _ h)
  subst hsz
  have hl := lv_entry av (n := n) hn
  rw [lg_entry_eq]
  exact k p e s m below meth c _ ⟨B.exec, B.bytes, hml, findClass_of_methodNamed B.named, hts⟩ B.returns B.notSynchronized (name_of_methodNamed B.named B.method).1 rfl ⟨hK, hP, hD0.self, va_S.rf, fun q h => Or.inr h⟩ hT hl
theorem bodyEX {y : MethodName} {b : ByteArray} {n : Nat} {ret : Option FieldType} {rm : Room} {av : List Value} {wc : va_W} {sz : Nat} {Qc : Array Value → State → Outcome → State → Prop} {XC : String → State → State → Prop} {mc ms : Nat} {free : Addr → Prop} (hy : plainName y.cls = true) (hn : (lg_sl av).length ≤ n)
    (k : ∀ (p : Program) (e : Env) (s : State) (m : MethodId) (below : List Frame) (meth : Method) (c : Code) (ls : Array Slot), CallFix p m c b n s av.toArray wALL y.cls → meth.sig.returnType = ret → meth.locks = false → (∀ x ∈ c.exceptionTable.toList, False) → s.heap.size = sz → Wd D τ s (va_A wc sz) s.heap wc s.heap [] → E (va_A wc sz) s → lv_has ls n (lv_args 0 av) → W p l e rm s m av.toArray below meth c s.heap [] 0 0 (vx_MQ below Qc XC av.toArray s mc ms free) (F0 m 0 ls [])) :
    vx_Met l y (Cond.code y b n ret :: wALL) rm (PwE E D τ wc sz av) Qc XC mc ms free := by
  refine vx_ofW (cc := b) (maxL := n) (ret := ret) hy rfl ?_
  intro p e s m args below meth c s₁ B hml ht hv
  obtain ⟨rfl, hsz, hP, hK, hD0, hT⟩ := hv
  have hts := atoms_spec (ws := Cond.code y b n ret :: wALL) B.pre
  have hts : ∀ w ∈ wALL, w.before _ s = true := fun w h => hts w (List.mem_cons_of_mem _ h)
  subst hsz
  have hl := lv_entry av (n := n) hn
  rw [lg_entry_eq]
  exact k p e s m below meth c _ ⟨B.exec, B.bytes, hml, findClass_of_methodNamed B.named, hts⟩ B.returns B.notSynchronized ht rfl ⟨hK, hP, hD0.self, va_S.rf, fun q h => Or.inr h⟩ hT hl
theorem gV {y : MethodName} {bytes : ByteArray} {maxL index : Nat} {ret : Option FieldType} (k1 : Cond.methodLink own index y ∈ wALL) (k2 : Cond.instanceMethod y ∈ wALL) (k3 : Cond.selects y.cls y y ∈ wALL) (k4 : Cond.initialized y.cls ∈ wALL) (k5 : Cond.code y bytes maxL ret ∈ wALL) : GoodIn wALL (wsV own index y.cls y (Cond.code y bytes maxL ret :: wALL)) := by
  intro w hw
  rcases List.mem_append.mp (by unfold wsV at hw; exact hw) with h | h
  · simp only [List.mem_cons, List.not_mem_nil, or_false] at h
    rcases h with rfl | rfl | rfl | rfl
    · exact ⟨k1, wALL_good k1⟩
    · exact ⟨k2, wALL_good k2⟩
    · exact ⟨k3, wALL_good k3⟩
    · exact ⟨k4, wALL_good k4⟩
  · exact gALL k5 w h
/-- a call of a method that knows more; its receiver is an object of a world, or a constant -/
theorem rVE {y : MethodName} {bytes : ByteArray} {maxL n index mc ms : Nat} {ret : Option FieldType} {rm : Room} {Qc : Array Value → State → Outcome → State → Prop} {free : Addr → Prop} {As : List Value} {b : Nat} {wc : va_W} {st0 : List Value} (hE : EOK E) (hT : E A s)
    (hrecv : ∃ cell : Cell, H[b]? = some cell ∧ cell.vm.isStatics = false ∧ s.vm.findClass y.cls = some cell.cls)
    (B : CallFix p m c cc nL s args wALL own) (Y : Wd D τ s A s.heap ws H locs) (is : List Nat) (hn : va_nd is = true) (hC : is.map (fun i => ws[i]?) = wc.map some)
    (hM : Met l y (Cond.code y bytes maxL ret :: wALL) rm (PwE E D τ wc H.size (.ref b :: As)) Qc mc ms free)
    (k1 : Cond.methodLink own index y ∈ wALL) (k2 : Cond.instanceMethod y ∈ wALL) (k3 : Cond.selects y.cls y y ∈ wALL) (k4 : Cond.initialized y.cls ∈ wALL) (k5 : Cond.code y bytes maxL ret ∈ wALL) (hrc : rm.cells = mc) (hrs : rm.slots = ms)
    (hd : y.cls ≠ "java/lang/invoke/MethodHandle" ∧ y.cls ≠ "java/lang/invoke/VarHandle" ∧ (parseMethodDescriptor y.desc).map (fun d => d.parameters.length) = some n) (hR : rm.frames + 1 ≤ R.frames ∧ 8 + (maxL + 11) + rm.locals ≤ R.locals) (hAs : As.length = n) (hls : ls.size = nL) (hst : st0 = As.reverse ++ .ref b :: rest) (hrest : (rest.map fun v => v.category).sum ≤ 8) (hdg : decode cc pc = .ok (.invokevirtual index, 3)) (hf : cells + mc ≤ R.cells ∧ slots + ms ≤ R.slots) :
    va_Run p l e R s m args below meth c H locs cells slots mc ms (F0 m pc ls st0) rest (Qc (Value.ref b :: As).toArray) free := by
  have Z := Y.sub is hn hC
  have hFc := va_free (wc := wc) Y.2.2.1 Y.2.2.2.1 Y.2.2.2.2 is hC
  exact va_runV (As := As) (rest := rest) B hM (cwV n B.2.2.2.2 (gV k1 k2 k3 k4 k5) rfl hrc hrs ⟨rfl, hd⟩ hR) ⟨PwE.blind hE, hrecv, fun U hU hW => ⟨rfl, by rw [hU], by rw [hU]; exact Z.2.1, Z.1.warm hW, Z.2.2.1.weaken (fun _ _ _ _ => trivial), hE.sub hT Y hU hW hFc⟩⟩ rfl hAs hls hst (lv_room hrest) hdg hf
theorem rVEX {y : MethodName} {bytes : ByteArray} {maxL n index mc ms : Nat} {ret : Option FieldType} {rm : Room} {Qc : Array Value → State → Outcome → State → Prop} {XC : String → State → State → Prop} {free : Addr → Prop} {As : List Value} {b : Nat} {wc : va_W} {st0 : List Value} (hE : EOK E) (hT : E A s)
    (hrecv : ∃ cell : Cell, H[b]? = some cell ∧ cell.vm.isStatics = false ∧ s.vm.findClass y.cls = some cell.cls)
    (B : CallFix p m c cc nL s args wALL own) (Y : Wd D τ s A s.heap ws H locs) (is : List Nat) (hn : va_nd is = true) (hC : is.map (fun i => ws[i]?) = wc.map some)
    (hM : vx_Met l y (Cond.code y bytes maxL ret :: wALL) rm (PwE E D τ wc H.size (.ref b :: As)) Qc XC mc ms free)
    (k1 : Cond.methodLink own index y ∈ wALL) (k2 : Cond.instanceMethod y ∈ wALL) (k3 : Cond.selects y.cls y y ∈ wALL) (k4 : Cond.initialized y.cls ∈ wALL) (k5 : Cond.code y bytes maxL ret ∈ wALL) (hrc : rm.cells = mc) (hrs : rm.slots = ms)
    (hd : y.cls ≠ "java/lang/invoke/MethodHandle" ∧ y.cls ≠ "java/lang/invoke/VarHandle" ∧ (parseMethodDescriptor y.desc).map (fun d => d.parameters.length) = some n) (hR : rm.frames + 1 ≤ R.frames ∧ 8 + (maxL + 11) + rm.locals ≤ R.locals) (hAs : As.length = n) (hls : ls.size = nL) (hst : st0 = As.reverse ++ .ref b :: rest) (hrest : (rest.map fun v => v.category).sum ≤ 8) (hdg : decode cc pc = .ok (.invokevirtual index, 3)) (hf : cells + mc ≤ R.cells ∧ slots + ms ≤ R.slots) :
    vx_Run p l e R s m args below meth c H locs cells slots mc ms (F0 m pc ls st0) rest (Qc (Value.ref b :: As).toArray) XC free := by
  have Z := Y.sub is hn hC
  have hFc := va_free (wc := wc) Y.2.2.1 Y.2.2.2.1 Y.2.2.2.2 is hC
  exact vx_runV (As := As) (rest := rest) B hM (cwV n B.2.2.2.2 (gV k1 k2 k3 k4 k5) rfl hrc hrs ⟨rfl, hd⟩ hR) ⟨PwE.blind hE, hrecv, fun U hU hW => ⟨rfl, by rw [hU], by rw [hU]; exact Z.2.1, Z.1.warm hW, Z.2.2.1.weaken (fun _ _ _ _ => trivial), hE.sub hT Y hU hW hFc⟩⟩ rfl hAs hls hst (lv_room hrest) hdg hf
theorem rSE {y : MethodName} {bytes : ByteArray} {maxL n index mc ms : Nat} {ret : Option FieldType} {rm : Room} {Qc : Array Value → State → Outcome → State → Prop} {free : Addr → Prop} {As : List Value} {wc : va_W} {st0 : List Value} (hE : EOK E) (hT : E A s)
    (B : CallFix p m c cc nL s args wALL own) (Y : Wd D τ s A s.heap ws H locs) (is : List Nat) (hn : va_nd is = true) (hC : is.map (fun i => ws[i]?) = wc.map some)
    (hM : Met l y (Cond.code y bytes maxL ret :: wALL) rm (PwE E D τ wc H.size As) Qc mc ms free)
    (k1 : Cond.methodLink own index y ∈ wALL) (k2 : Cond.static y ∈ wALL) (k4 : Cond.initialized y.cls ∈ wALL) (k5 : Cond.code y bytes maxL ret ∈ wALL) (hrc : rm.cells = mc) (hrs : rm.slots = ms)
    (hd : y.cls ≠ "java/lang/invoke/MethodHandle" ∧ y.cls ≠ "java/lang/invoke/VarHandle" ∧ (parseMethodDescriptor y.desc).map (fun d => d.parameters.length) = some n) (hR : rm.frames + 1 ≤ R.frames ∧ 8 + (maxL + 11) + rm.locals ≤ R.locals) (hAs : As.length = n) (hls : ls.size = nL) (hst : st0 = As.reverse ++ rest) (hrest : (rest.map fun v => v.category).sum ≤ 8) (hdg : decode cc pc = .ok (.invokestatic index, 3)) (hf : cells + mc ≤ R.cells ∧ slots + ms ≤ R.slots) :
    va_Run p l e R s m args below meth c H locs cells slots mc ms (F0 m pc ls st0) rest (Qc As.toArray) free := by
  have Z := Y.sub is hn hC
  have hts := B.2.2.2.2
  have hFc := va_free (wc := wc) Y.2.2.1 Y.2.2.2.1 Y.2.2.2.2 is hC
  exact va_runS (As := As) (rest := rest) B hM ⟨callB_of n hts (gALL k5) rfl hrc hrs (hts _ k4) (hts _ k1) hd hR, hts _ k2⟩ ⟨PwE.blind hE, fun U hU hW => ⟨rfl, by rw [hU], by rw [hU]; exact Z.2.1, Z.1.warm hW, Z.2.2.1.weaken (fun _ _ _ _ => trivial), hE.sub hT Y hU hW hFc⟩⟩ rfl hAs hls hst (lv_room hrest) hdg hf
theorem endY {S : Type} {post : Int32 → S → Prop} {w1 : S → va_W} {mc ms : Nat} {ty : FieldType} (B : CallFix p m c cc nL s args wALL own) (hr : meth.sig.returnType = some ty) (hk : meth.locks = false) (Y : Wd D τ s A s.heap ws H locs) {v : Int32} (hv : narrow ty (.int v) = .int v) (u : S) (hp : post v u) (is : List Nat) (hn : va_nd is = true) (hs : is.map (fun i => ws[i]?) = (w1 u).map some) (hc : cells ≤ mc) (hs2 : slots ≤ ms) (hdg : decode cc pc = .ok (.ireturn, 1)) : W p l e R s m args below meth c H locs cells slots (MQ below (va_Qi post (Bw D A w1) A) args s mc ms A) (F0 m pc ls [.int v]) := by
  have Z := Y.sub is hn hs
  exact W.widen hc hs2 (W.zret B.1 B.2.1 hr hv (fun t ht hW => ⟨⟨v, u, rfl, hp, by rw [ht]; exact Z.2.1, Z.2.2.1⟩, Y.2.2.2.1.F ht⟩) Y.2.2.2.1.2.2 hdg hk)
theorem t_throwN {cls text : String} {names : List String} {ik is ic MC MS : Nat} {P : String → Prop} {Qc : Array Value → State → Outcome → State → Prop} (B : CallFix p m c cc nL s args wALL own) (hl : l.stackTraces = false) (Y : Wd D τ s A s.heap ws H locs) (hT : Tz A s) (hcls : Bundle.fit cls = true) (hnames : ∀ n ∈ names, Bundle.fit n = true)
    (k1 : Cond.classLink own ik cls ∈ wALL) (k2 : Cond.initialized cls ∈ wALL) (k3 : (own, is, text) ∈ strW) (h1 : ∀ w ∈ (vx_atS own ic cls names).filter goodWord, w ∈ lw_tbl) (h2 : ∀ w ∈ (vx_atS own ic cls names).filter (fun w => !goodWord w), w ∈ castW ++ declW) (hg : ∀ w ∈ Cond.classLink own ik cls :: Cond.initialized cls :: vx_atS own ic cls names, vx_ot w = true)
    (hls : ls.size = nL) (d0 : decode cc pc = .ok (.new ik, 3)) (d3 : decode cc (pc + 3) = .ok (.dup, 1)) (d4 : decode cc (pc + 4) = .ok (.ldc is, 2)) (d6 : decode cc (pc + 6) = .ok (.invokespecial ic, 3)) (d9 : decode cc (pc + 9) = .ok (.athrow, 1)) (ht : ∀ x ∈ c.exceptionTable.toList, False) (hlk : meth.locks = false)
    (hRf : names.length + 3 < R.frames) (hRl : (rest.map fun v => v.category).sum + (13 * (names.length + 1) + 43) ≤ R.locals) (hRc : cells + 1 ≤ R.cells) (hRs : slots + 6 ≤ R.slots) (hP : P cls) (hc : cells + 1 ≤ MC) (hs : slots + 6 ≤ MS) :
    W p l e R s m args below meth c H locs cells slots (vx_MQ below Qc (XQ P A) args s MC MS A) (F0 m pc ls rest) := by
  have hts := B.2.2.2.2
  obtain ⟨sa, hstr⟩ := Y.1.2.2.2.2.2.2.2.2 _ k3
  have hat : ∀ w ∈ vx_atS own ic cls names, w.before args s = true := vx_hat (B := castW ++ declW) (fun w hw => hts w (wALL_of (h1 w hw) (List.mem_filter.mp hw).2)) h2 (fun w hw => (List.mem_append.mp hw).elim (fun h => by
    obtain ⟨a, b, rfl⟩ := castW_is w h
    exact va_Nw.use rfl (Y.1.2.2.2.2.2.2.1 _ h)) (fun h => by
    obtain ⟨x, rfl⟩ := declW_is w h
    exact va_Nw.use rfl (Y.1.2.2.2.2.2.2.2.1 _ h)))
  refine vx_throwS B.1 B.2.1 hl (text := text) B.2.2.2.1 hcls hnames (hts _ k1) (hts _ k2) hstr hat hg hT.1 hT.2 Y.2.2.2.1 (by rw [B.2.2.1]; exact hls) d0 d3 d4 d6 d9 (fun x hx => absurd (ht x hx) id) hRf hRl hRc hRs hlk (fun t _ hz hk => ⟨(), trivial, hP, ?_⟩) Y.2.2.2.1.2.2 hc hs
  exact ⟨Nat.le_trans Y.2.2.2.1.1 hz, fun q h3 h4 => (hk q (Nat.lt_of_lt_of_le h3 Y.2.2.2.1.1)).trans (Y.2.2.2.1.2.1 q h3 h4)⟩
end EW
/-! the four words -/
def lenW : List Nat := [4, 4, 6, 4]
def bytW : List (List Int32) := [[108, 105, 110, 107], [108, 105, 102, 101], [112, 111, 108, 105, 99, 121], [115, 101, 110, 100]]
def txW : List String := ["link", "life", "policy", "send"]
def Sk (adK adV : Nat → Nat) (A : Nat → Prop) (U : State) : Prop := (∀ i : Nat, i < 4 → vk_S 1 [lenW.getD i 0] [bytW.getD i []] (fun _ => adK i) (fun _ => adV i) A U U.heap) ∧ (∀ i : Nat, i < 4 → vk_R "FragmentPath$Reader" (119 + 2 * i) (txW.getD i "") (adK i) U) ∧ va_Z "java/lang/String" "COMPACT_STRINGS" "Z" (.int 1) A U U.heap
theorem Sk.ok (adK adV : Nat → Nat) : EOK (Sk adK adV) := by
  refine ⟨fun A a U g mk h => ?_, fun A B s U h hk hW hF => ?_⟩
  · have hA : U.vm.Alike (U.calling g mk a).vm := Vm.Alike.refl U.vm
    exact ⟨fun i hi => vk_S.moved (u := U) (U := U.calling g mk a) hA (h.1 i hi), fun i hi => vk_R.same (u := U) rfl (h.2.1 i hi), va_Z.moved (u := U) (U := U.calling g mk a) hA h.2.2⟩
  · exact ⟨fun i hi => vk_S.narrow (vk_S.moved hW.alike (vk_S.kept (h.1 i hi) hk)) hF, fun i hi => vk_R.warm hW (h.2.1 i hi), va_Z.narrow (va_Z.moved hW.alike (va_Z.kept h.2.2 hk)) hF⟩
def SkX (adK adV : Nat → Nat) (A : Nat → Prop) (U : State) : Prop := Tz A U ∧ Sk adK adV A U
theorem SkX.ok (adK adV : Nat → Nat) : EOK (SkX adK adV) := by
  refine ⟨fun A a U g mk h => ⟨h.1.call, (Sk.ok adK adV).1 A a U g mk h.2⟩, fun A B s U h hk hW hF => ⟨⟨?_, ?_⟩, (Sk.ok adK adV).2 A B s U h.2 hk hW hF⟩⟩
  · exact vx_Zq.narrow (vx_Zq.moved hW.alike (vx_Zq.kept h.1.1 hk)) hF
  · exact vx_Zq.narrow (vx_Zq.moved hW.alike (vx_Zq.kept h.1.2 hk)) hF
theorem hd_J0_length_8abf5 : yJ0_length_8abf5.cls ≠ "java/lang/invoke/MethodHandle" ∧ yJ0_length_8abf5.cls ≠ "java/lang/invoke/VarHandle" ∧ (parseMethodDescriptor yJ0_length_8abf5.desc).map (fun d => d.parameters.length) = some 0 := by decide +kernel
theorem hd_J0_coder_7d493 : yJ0_coder_7d493.cls ≠ "java/lang/invoke/MethodHandle" ∧ yJ0_coder_7d493.cls ≠ "java/lang/invoke/VarHandle" ∧ (parseMethodDescriptor yJ0_coder_7d493.desc).map (fun d => d.parameters.length) = some 0 := by decide +kernel
