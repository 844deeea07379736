/-! starts that know more: constants that no method writes -/
def PwE (E : (Nat → Prop) → State → Prop) (D : va_G) (τ : Nat → ClassId) (wc : va_W) (sz : Nat) (av : List Value) : Array Value → State → Prop := va_Pc av (fun U => U.heap.size = sz ∧ va_P D vwCl wc U.heap ∧ Gw D τ U ∧ va_D (fun _ => True) wc ∧ E (va_A wc sz) U)
def PzE (E : (Nat → Prop) → State → Prop) (D : va_G) (τ : Nat → ClassId) (wc : va_W) (sz T0 : Nat) (av : List Value) (KC KS pc ps : Nat) : Array Value → State → Prop := va_Pc av (fun U => (U.heap.size = sz ∧ totS U.heap = T0 ∧ sz + pc ≤ KC ∧ T0 + ps ≤ KS) ∧ va_P D vwCl wc U.heap ∧ Gw D τ U ∧ va_D (fun _ => True) wc ∧ E (va_A wc sz) U)
def EOK (E : (Nat → Prop) → State → Prop) : Prop := (∀ (A : Nat → Prop) (a : Array Value) (U : State) (g : JFrame) (mk : MethodId), E A U → E A (U.calling g mk a)) ∧ (∀ (A B : Nat → Prop) (s U : State), E A s → (∀ q : Nat, q < s.heap.size → ¬ A q → U.heap[q]? = s.heap[q]?) → s.WarmedH U.vm → (∀ q, B q → A q) → E B U)
theorem PwE.blind {E : (Nat → Prop) → State → Prop} (hE : EOK E) {D : va_G} {τ : Nat → ClassId} {wc : va_W} {sz : Nat} {av : List Value} : FrameBlind (PwE E D τ wc sz av) := fun a U g mk q => by
  obtain ⟨q0, q1, qP, qK, qD, qT⟩ := q
  exact ⟨q0, q1, qP, qK.call, qD, hE.1 _ _ _ _ _ qT⟩
theorem PzE.blind {E : (Nat → Prop) → State → Prop} (hE : EOK E) {D : va_G} {τ : Nat → ClassId} {wc : va_W} {sz T0 : Nat} {av : List Value} {KC KS pc ps : Nat} : FrameBlind (PzE E D τ wc sz T0 av KC KS pc ps) := fun a U g mk q => by
  obtain ⟨q0, q1, qP, qK, qD, qT⟩ := q
  exact ⟨q0, q1, qP, qK.call, qD, hE.1 _ _ _ _ _ qT⟩
section EW
variable {p : Program} {l : Launch} {e : Env} {R : Room} {s : State} {m : MethodId} {args : Array Value} {below : List Frame} {meth : Method} {c : Code} {H : Heap} {locs : List Loc} {cells slots : Nat} {Q : State → Prop}
variable {cc : ByteArray} {pc nL : Nat} {ls : Array Slot} {rest : List Value} {own : String} {D : va_G} {τ : Nat → ClassId} {A : Nat → Prop} {B Cs Rs : List va_W} {E : (Nat → Prop) → State → Prop}
theorem EOK.subB (hE : EOK E) {U : State} (T : E A s) (Z : Wd D τ s A s.heap (bl B) H locs) (hU : U.heap = H) (hW : s.WarmedH U.vm) : E (va_A (bl B) H.size) U :=
  hE.2 A _ s U T (fun a h1 h2 => by rw [hU]; exact Z.2.2.2.1.2.1 a h1 h2) hW (blk_free Z.2.2.1 Z.2.2.2.1 Z.2.2.2.2)
theorem bodyE {y : MethodName} {b : ByteArray} {n : Nat} {ret : Option FieldType} {rm : Room} {av : List Value} {wc : va_W} {sz : Nat} {Qc : Array Value → State → Outcome → State → Prop} {mc ms : Nat} {free : Addr → Prop} (hy : plainFor y = true) (hn : (lg_sl av).length ≤ n)
    (k : ∀ (p : Program) (e : Env) (s : State) (m : MethodId) (below : List Frame) (meth : Method) (c : Code) (ls : Array Slot), CallFix p m c b n s av.toArray wALL y.cls → meth.sig.returnType = ret → meth.locks = false → meth.name = y.name → s.heap.size = sz → Wd D τ s (va_A wc sz) s.heap wc s.heap [] → E (va_A wc sz) s → lv_has ls n (lv_args 0 av) → W p l e rm s m av.toArray below meth c s.heap [] 0 0 (MQ below Qc av.toArray s mc ms free) (F0 m 0 ls [])) :
    Met l y (Cond.code y b n ret :: wALL) rm (PwE E D τ wc sz av) Qc mc ms free := by
  refine ofWF (cc := b) (maxL := n) (ret := ret) hy rfl ?_
  intro p e s m args below meth c s₁ B hml hv
  obtain ⟨rfl, hsz, hP, hK, hD0, hT⟩ := hv
  have hts := atoms_spec (ws := Cond.code y b n ret :: wALL) B.pre
  have hts : ∀ w ∈ wALL, w.before _ s = true := fun w h => hts w (List.mem_cons_of_mem _ h)
  subst hsz
  have hl := lv_entry av (n := n) hn
  rw [lg_entry_eq]
  exact k p e s m below meth c _ ⟨B.exec, B.bytes, hml, findClass_of_methodNamed B.named, hts⟩ B.returns B.notSynchronized (name_of_methodNamed B.named B.method).1 rfl ⟨hK, hP, hD0.self, va_S.rf, fun q h => Or.inr h⟩ hT hl
theorem bodyZE {y : MethodName} {b : ByteArray} {n : Nat} {ret : Option FieldType} {F L sz T0 KC KS pcn psn : Nat} {av : List Value} {wc : va_W} {Qc : Array Value → State → Outcome → State → Prop} {free : Addr → Prop} (hy : plainFor y = true) (hn : (lg_sl av).length ≤ n)
    (k : ∀ (p : Program) (e : Env) (s : State) (m : MethodId) (below : List Frame) (meth : Method) (c : Code) (ls : Array Slot), CallFix p m c b n s av.toArray wALL y.cls → meth.sig.returnType = ret → meth.locks = false → meth.name = y.name → s.heap.size = sz → totS s.heap = T0 → s.heap.size + 0 + pcn ≤ KC → totS s.heap + 0 + psn ≤ KS → Wd D τ s (va_A wc sz) s.heap wc s.heap [] → E (va_A wc sz) s → lv_has ls n (lv_args 0 av) → W p l e { frames := F, cells := KC - s.heap.size, slots := KS - totS s.heap, locals := L } s m av.toArray below meth c s.heap [] 0 0 (MQ below Qc av.toArray s (KC - s.heap.size) (KS - totS s.heap) free) (F0 m 0 ls [])) :
    Met l y (Cond.code y b n ret :: wALL) { frames := F, cells := KC - sz, slots := KS - T0, locals := L } (PzE E D τ wc sz T0 av KC KS pcn psn) Qc (KC - sz) (KS - T0) free := by
  refine ofWF (cc := b) (maxL := n) (ret := ret) hy rfl ?_
  intro p e s m args below meth c s₁ B hml hv
  obtain ⟨rfl, ⟨hsz, hT0, hkc, hks⟩, hP, hK, hD0, hT⟩ := hv
  have hts := atoms_spec (ws := Cond.code y b n ret :: wALL) B.pre
  have hts : ∀ w ∈ wALL, w.before _ s = true := fun w h => hts w (List.mem_cons_of_mem _ h)
  subst hsz
  subst hT0
  have hl := lv_entry av (n := n) hn
  rw [lg_entry_eq]
  exact k p e s m below meth c _ ⟨B.exec, B.bytes, hml, findClass_of_methodNamed B.named, hts⟩ B.returns B.notSynchronized (name_of_methodNamed B.named B.method).1 rfl rfl hkc hks ⟨hK, hP, hD0.self, va_S.rf, fun q h => Or.inr h⟩ hT hl
theorem cVK {y : MethodName} {bytes : ByteArray} {maxL n index mc ms : Nat} {ret : Option FieldType} {rm : Room} {Qc : Array Value → State → Outcome → State → Prop} {free : Addr → Prop} {As : List Value} {b : Nat} {st0 : List Value} (hrecv : ∃ cell : Cell, H[b]? = some cell ∧ cell.vm.isStatics = false ∧ s.vm.findClass y.cls = some cell.cls) (hE0 : EOK E) (hT0 : E A s) (X : CallFix p m c cc nL s args wALL own) (Y : Wd D τ s A s.heap (bl B) H locs) (is : List Nat) (hn : va_nd is = true) (hC : is.map (fun i => B[i]?) = Cs.map some) (hM : Met l y (Cond.code y bytes maxL ret :: wALL) rm (PwE E D τ (bl Cs) H.size (.ref b :: As)) Qc mc ms free) (k1 : Cond.methodLink own index y ∈ wALL) (k2 : Cond.instanceMethod y ∈ wALL) (k3 : Cond.selects y.cls y y ∈ wALL) (k4 : Cond.initialized y.cls ∈ wALL) (k5 : Cond.code y bytes maxL ret ∈ wALL) (hrc : rm.cells = mc) (hrs : rm.slots = ms) (hd : y.cls ≠ "java/lang/invoke/MethodHandle" ∧ y.cls ≠ "java/lang/invoke/VarHandle" ∧ (parseMethodDescriptor y.desc).map (fun d => d.parameters.length) = some n) (hR : rm.frames + 1 ≤ R.frames ∧ 8 + (maxL + 11) + rm.locals ≤ R.locals) (hAs : As.length = n) (hls : ls.size = nL) (hst : st0 = As.reverse ++ .ref b :: rest) (hrest : (rest.map fun v => v.category).sum ≤ 8) (hdg : decode cc pc = .ok (.invokevirtual index, 3)) (hf : cells + mc ≤ R.cells ∧ slots + ms ≤ R.slots) :
    va_Run p l e R s m args below meth c H locs cells slots mc ms (F0 m pc ls st0) rest (Qc (Value.ref b :: As).toArray) free := by
  have Z := Y.pick is hn hC
  have hT : GoodIn wALL (wsV own index y.cls y (Cond.code y bytes maxL ret :: wALL)) := by
    intro w hw
    rcases List.mem_append.mp (by unfold wsV at hw; exact hw) with h | h
    · simp only [List.mem_cons, List.not_mem_nil, or_false] at h
      rcases h with rfl | rfl | rfl | rfl
      · exact ⟨k1, wALL_good k1⟩
      · exact ⟨k2, wALL_good k2⟩
      · exact ⟨k3, wALL_good k3⟩
      · exact ⟨k4, wALL_good k4⟩
    · exact gALL k5 w h
  exact va_runV (As := As) (rest := rest) X hM (cwV n X.2.2.2.2 hT rfl hrc hrs ⟨rfl, hd⟩ hR) ⟨PwE.blind hE0, hrecv, fun U hU hW => ⟨rfl, by rw [hU], by rw [hU]; exact Z.2.1, Z.1.warm hW, Z.2.2.1.weaken (fun _ _ _ _ => trivial), hE0.subB hT0 Z hU hW⟩⟩ rfl hAs hls hst (lv_room hrest) hdg hf
theorem cVE {y : MethodName} {bytes : ByteArray} {maxL n index mc ms : Nat} {ret : Option FieldType} {rm : Room} {Qc : Array Value → State → Outcome → State → Prop} {free : Addr → Prop} {As : List Value} {b ci q0 N : Nat} {T : u_T} {fs : List Value} {st0 : List Value} (hE0 : EOK E) (hT0 : E A s) (X : CallFix p m c cc nL s args wALL own) (Y : Wd D τ s A s.heap (bl B) H locs) (is : List Nat) (hn : va_nd is = true) (hC : is.map (fun i => B[i]?) = Cs.map some) (hM : Met l y (Cond.code y bytes maxL ret :: wALL) rm (PwE E D τ (bl Cs) H.size (.ref b :: As)) Qc mc ms free) (he : B[q0]? = some [(b, .inr (ci, fs))]) (hc : vwCl[ci]? = some (y.cls, T, N)) (k1 : Cond.methodLink own index y ∈ wALL) (k2 : Cond.instanceMethod y ∈ wALL) (k3 : Cond.selects y.cls y y ∈ wALL) (k4 : Cond.initialized y.cls ∈ wALL) (k5 : Cond.code y bytes maxL ret ∈ wALL) (hrc : rm.cells = mc) (hrs : rm.slots = ms) (hd : y.cls ≠ "java/lang/invoke/MethodHandle" ∧ y.cls ≠ "java/lang/invoke/VarHandle" ∧ (parseMethodDescriptor y.desc).map (fun d => d.parameters.length) = some n) (hR : rm.frames + 1 ≤ R.frames ∧ 8 + (maxL + 11) + rm.locals ≤ R.locals) (hAs : As.length = n) (hls : ls.size = nL) (hst : st0 = As.reverse ++ .ref b :: rest) (hrest : (rest.map fun v => v.category).sum ≤ 8) (hdg : decode cc pc = .ok (.invokevirtual index, 3)) (hf : cells + mc ≤ R.cells ∧ slots + ms ≤ R.slots) :
    va_Run p l e R s m args below meth c H locs cells slots mc ms (F0 m pc ls st0) rest (Qc (Value.ref b :: As).toArray) free := by
  have Z := Y.pick is hn hC
  obtain ⟨z, he1, -⟩ := bl_at he
  exact cVK (va_recv Y.1.1 Y.2.1 hc he1) hE0 hT0 X Y is hn hC hM k1 k2 k3 k4 k5 hrc hrs hd hR hAs hls hst hrest hdg hf
theorem cSE {y : MethodName} {bytes : ByteArray} {maxL n index mc ms : Nat} {ret : Option FieldType} {rm : Room} {Qc : Array Value → State → Outcome → State → Prop} {free : Addr → Prop} {As : List Value} {st0 : List Value} (hE0 : EOK E) (hT0 : E A s) (X : CallFix p m c cc nL s args wALL own) (Y : Wd D τ s A s.heap (bl B) H locs) (is : List Nat) (hn : va_nd is = true) (hC : is.map (fun i => B[i]?) = Cs.map some) (hM : Met l y (Cond.code y bytes maxL ret :: wALL) rm (PwE E D τ (bl Cs) H.size As) Qc mc ms free) (k1 : Cond.methodLink own index y ∈ wALL) (k2 : Cond.static y ∈ wALL) (k4 : Cond.initialized y.cls ∈ wALL) (k5 : Cond.code y bytes maxL ret ∈ wALL) (hrc : rm.cells = mc) (hrs : rm.slots = ms) (hd : y.cls ≠ "java/lang/invoke/MethodHandle" ∧ y.cls ≠ "java/lang/invoke/VarHandle" ∧ (parseMethodDescriptor y.desc).map (fun d => d.parameters.length) = some n) (hR : rm.frames + 1 ≤ R.frames ∧ 8 + (maxL + 11) + rm.locals ≤ R.locals) (hAs : As.length = n) (hls : ls.size = nL) (hst : st0 = As.reverse ++ rest) (hrest : (rest.map fun v => v.category).sum ≤ 8) (hdg : decode cc pc = .ok (.invokestatic index, 3)) (hf : cells + mc ≤ R.cells ∧ slots + ms ≤ R.slots) :
    va_Run p l e R s m args below meth c H locs cells slots mc ms (F0 m pc ls st0) rest (Qc (As).toArray) free := by
  have Z := Y.pick is hn hC
  have hts := X.2.2.2.2
  exact va_runS (As := As) (rest := rest) X hM ⟨callB_of n hts (gALL k5) rfl hrc hrs (hts _ k4) (hts _ k1) hd hR, hts _ k2⟩ ⟨PwE.blind hE0, fun U hU hW => ⟨rfl, by rw [hU], by rw [hU]; exact Z.2.1, Z.1.warm hW, Z.2.2.1.weaken (fun _ _ _ _ => trivial), hE0.subB hT0 Z hU hW⟩⟩ rfl hAs hls hst (lv_room hrest) hdg hf
theorem cSNE {y : MethodName} {bytes : ByteArray} {maxL n index mc ms : Nat} {ret : Option FieldType} {rm : Room} {Qc : Array Value → State → Outcome → State → Prop} {free : Addr → Prop} {As : List Value} {host : String} {st0 : List Value} (hE0 : EOK E) (hT0 : E A s) (X : CallFix p m c cc nL s args wALL own) (Y : Wd D τ s A s.heap (bl B) H locs) (is : List Nat) (hn : va_nd is = true) (hC : is.map (fun i => B[i]?) = Cs.map some) (hM : Met l y (Cond.code y bytes maxL ret :: wALL) rm (PwE E D τ (bl Cs) H.size As) Qc mc ms free) (k1 : va_Nw (.methodLinkNest own index y host) s) (k2 : Cond.static y ∈ wALL) (k4 : Cond.initialized y.cls ∈ wALL) (k5 : Cond.code y bytes maxL ret ∈ wALL) (hrc : rm.cells = mc) (hrs : rm.slots = ms) (hd : y.cls ≠ "java/lang/invoke/MethodHandle" ∧ y.cls ≠ "java/lang/invoke/VarHandle" ∧ (parseMethodDescriptor y.desc).map (fun d => d.parameters.length) = some n) (hR : rm.frames + 1 ≤ R.frames ∧ 8 + (maxL + 11) + rm.locals ≤ R.locals) (hAs : As.length = n) (hls : ls.size = nL) (hst : st0 = As.reverse ++ rest) (hrest : (rest.map fun v => v.category).sum ≤ 8) (hdg : decode cc pc = .ok (.invokestatic index, 3)) (hf : cells + mc ≤ R.cells ∧ slots + ms ≤ R.slots) :
    va_Run p l e R s m args below meth c H locs cells slots mc ms (F0 m pc ls st0) rest (Qc (As).toArray) free := by
  have Z := Y.pick is hn hC
  have hts := X.2.2.2.2
  exact va_runSN (As := As) (rest := rest) X hM ⟨va_cnB n hts (gALL k5) rfl hrc hrs k1 (hts _ k4) hd hR, hts _ k2, trivial⟩ ⟨PwE.blind hE0, fun U hU hW => ⟨rfl, by rw [hU], by rw [hU]; exact Z.2.1, Z.1.warm hW, Z.2.2.1.weaken (fun _ _ _ _ => trivial), hE0.subB hT0 Z hU hW⟩⟩ rfl hAs hls hst (lv_room hrest) hdg hf
theorem cIE {y : MethodName} {bytes : ByteArray} {maxL n index mc ms : Nat} {rm : Room} {Qc : Array Value → State → Outcome → State → Prop} {free : Addr → Prop} {As : List Value} {b : Nat} {st0 : List Value} (hE0 : EOK E) (hT0 : E A s) (X : CallFix p m c cc nL s args wALL own) (Y : Wd D τ s A s.heap (bl B) H locs) (is : List Nat) (hn : va_nd is = true) (hC : is.map (fun i => B[i]?) = Cs.map some) (hM : Met l y (Cond.code y bytes maxL none :: wALL) rm (PwE E D τ (bl Cs) H.size (.ref b :: As)) Qc mc ms free) (k1 : Cond.methodLink own index y ∈ wALL) (k2 : Cond.instanceMethod y ∈ wALL) (k4 : Cond.initialized y.cls ∈ wALL) (k5 : Cond.code y bytes maxL none ∈ wALL) (hname : y.name = "<init>") (hrc : rm.cells = mc) (hrs : rm.slots = ms) (hd : y.cls ≠ "java/lang/invoke/MethodHandle" ∧ y.cls ≠ "java/lang/invoke/VarHandle" ∧ (parseMethodDescriptor y.desc).map (fun d => d.parameters.length) = some n) (hR : rm.frames + 1 ≤ R.frames ∧ 8 + (maxL + 11) + rm.locals ≤ R.locals) (hAs : As.length = n) (hls : ls.size = nL) (hst : st0 = As.reverse ++ .ref b :: rest) (hrest : (rest.map fun v => v.category).sum ≤ 8) (hdg : decode cc pc = .ok (.invokespecial index, 3)) (hf : cells + mc ≤ R.cells ∧ slots + ms ≤ R.slots) :
    va_Run p l e R s m args below meth c H locs cells slots mc ms (F0 m pc ls st0) rest (Qc (Value.ref b :: As).toArray) free := by
  have Z := Y.pick is hn hC
  have hts := X.2.2.2.2
  exact va_runI (As := As) (rest := rest) X hM (cwI n hts (gALL k5) rfl hrc hrs (hts _ k4) (hts _ k1) (hts _ k2) hname hd hR) ⟨PwE.blind hE0, fun U hU hW => ⟨rfl, by rw [hU], by rw [hU]; exact Z.2.1, Z.1.warm hW, Z.2.2.1.weaken (fun _ _ _ _ => trivial), hE0.subB hT0 Z hU hW⟩⟩ rfl hAs hls hst (lv_room hrest) hdg hf
theorem cVKz {y : MethodName} {bytes : ByteArray} {maxL n index mc ms KC KS pcn psn : Nat} {ret : Option FieldType} {rm : Room} {Qc : Array Value → State → Outcome → State → Prop} {free : Addr → Prop} {As : List Value} {b : Nat} {st0 : List Value} (hrecv : ∃ cell : Cell, H[b]? = some cell ∧ cell.vm.isStatics = false ∧ s.vm.findClass y.cls = some cell.cls) (hE0 : EOK E) (hT0 : E A s) (X : CallFix p m c cc nL s args wALL own) (Y : Wd D τ s A s.heap (bl B) H locs) (is : List Nat) (hn : va_nd is = true) (hC : is.map (fun i => B[i]?) = Cs.map some) (hM : Met l y (Cond.code y bytes maxL ret :: wALL) rm (PzE E D τ (bl Cs) H.size (totS H) (.ref b :: As) KC KS pcn psn) Qc mc ms free) (k1 : Cond.methodLink own index y ∈ wALL) (k2 : Cond.instanceMethod y ∈ wALL) (k3 : Cond.selects y.cls y y ∈ wALL) (k4 : Cond.initialized y.cls ∈ wALL) (k5 : Cond.code y bytes maxL ret ∈ wALL) (hrc : rm.cells = mc) (hrs : rm.slots = ms) (hd : y.cls ≠ "java/lang/invoke/MethodHandle" ∧ y.cls ≠ "java/lang/invoke/VarHandle" ∧ (parseMethodDescriptor y.desc).map (fun d => d.parameters.length) = some n) (hR : rm.frames + 1 ≤ R.frames ∧ 8 + (maxL + 11) + rm.locals ≤ R.locals) (hAs : As.length = n) (hls : ls.size = nL) (hst : st0 = As.reverse ++ .ref b :: rest) (hrest : (rest.map fun v => v.category).sum ≤ 8) (hdg : decode cc pc = .ok (.invokevirtual index, 3)) (hz : H.size + pcn ≤ KC ∧ totS H + psn ≤ KS) (hf : cells + mc ≤ R.cells ∧ slots + ms ≤ R.slots) :
    va_Run p l e R s m args below meth c H locs cells slots mc ms (F0 m pc ls st0) rest (Qc (Value.ref b :: As).toArray) free := by
  have Z := Y.pick is hn hC
  have hT : GoodIn wALL (wsV own index y.cls y (Cond.code y bytes maxL ret :: wALL)) := by
    intro w hw
    rcases List.mem_append.mp (by unfold wsV at hw; exact hw) with h | h
    · simp only [List.mem_cons, List.not_mem_nil, or_false] at h
      rcases h with rfl | rfl | rfl | rfl
      · exact ⟨k1, wALL_good k1⟩
      · exact ⟨k2, wALL_good k2⟩
      · exact ⟨k3, wALL_good k3⟩
      · exact ⟨k4, wALL_good k4⟩
    · exact gALL k5 w h
  exact va_runV (As := As) (rest := rest) X hM (cwV n X.2.2.2.2 hT rfl hrc hrs ⟨rfl, hd⟩ hR) ⟨PzE.blind hE0, hrecv, fun U hU hW => ⟨rfl, by rw [hU]; exact ⟨rfl, rfl, hz.1, hz.2⟩, by rw [hU]; exact Z.2.1, Z.1.warm hW, Z.2.2.1.weaken (fun _ _ _ _ => trivial), hE0.subB hT0 Z hU hW⟩⟩ rfl hAs hls hst (lv_room hrest) hdg hf
theorem cVEz {y : MethodName} {bytes : ByteArray} {maxL n index mc ms KC KS pcn psn : Nat} {ret : Option FieldType} {rm : Room} {Qc : Array Value → State → Outcome → State → Prop} {free : Addr → Prop} {As : List Value} {b ci q0 N : Nat} {T : u_T} {fs : List Value} {st0 : List Value} (hE0 : EOK E) (hT0 : E A s) (X : CallFix p m c cc nL s args wALL own) (Y : Wd D τ s A s.heap (bl B) H locs) (is : List Nat) (hn : va_nd is = true) (hC : is.map (fun i => B[i]?) = Cs.map some) (hM : Met l y (Cond.code y bytes maxL ret :: wALL) rm (PzE E D τ (bl Cs) H.size (totS H) (.ref b :: As) KC KS pcn psn) Qc mc ms free) (he : B[q0]? = some [(b, .inr (ci, fs))]) (hc : vwCl[ci]? = some (y.cls, T, N)) (k1 : Cond.methodLink own index y ∈ wALL) (k2 : Cond.instanceMethod y ∈ wALL) (k3 : Cond.selects y.cls y y ∈ wALL) (k4 : Cond.initialized y.cls ∈ wALL) (k5 : Cond.code y bytes maxL ret ∈ wALL) (hrc : rm.cells = mc) (hrs : rm.slots = ms) (hd : y.cls ≠ "java/lang/invoke/MethodHandle" ∧ y.cls ≠ "java/lang/invoke/VarHandle" ∧ (parseMethodDescriptor y.desc).map (fun d => d.parameters.length) = some n) (hR : rm.frames + 1 ≤ R.frames ∧ 8 + (maxL + 11) + rm.locals ≤ R.locals) (hAs : As.length = n) (hls : ls.size = nL) (hst : st0 = As.reverse ++ .ref b :: rest) (hrest : (rest.map fun v => v.category).sum ≤ 8) (hdg : decode cc pc = .ok (.invokevirtual index, 3)) (hz : H.size + pcn ≤ KC ∧ totS H + psn ≤ KS) (hf : cells + mc ≤ R.cells ∧ slots + ms ≤ R.slots) :
    va_Run p l e R s m args below meth c H locs cells slots mc ms (F0 m pc ls st0) rest (Qc (Value.ref b :: As).toArray) free := by
  have Z := Y.pick is hn hC
  obtain ⟨z, he1, -⟩ := bl_at he
  exact cVKz (va_recv Y.1.1 Y.2.1 hc he1) hE0 hT0 X Y is hn hC hM k1 k2 k3 k4 k5 hrc hrs hd hR hAs hls hst hrest hdg hz hf
theorem cSEz {y : MethodName} {bytes : ByteArray} {maxL n index mc ms KC KS pcn psn : Nat} {ret : Option FieldType} {rm : Room} {Qc : Array Value → State → Outcome → State → Prop} {free : Addr → Prop} {As : List Value} {st0 : List Value} (hE0 : EOK E) (hT0 : E A s) (X : CallFix p m c cc nL s args wALL own) (Y : Wd D τ s A s.heap (bl B) H locs) (is : List Nat) (hn : va_nd is = true) (hC : is.map (fun i => B[i]?) = Cs.map some) (hM : Met l y (Cond.code y bytes maxL ret :: wALL) rm (PzE E D τ (bl Cs) H.size (totS H) As KC KS pcn psn) Qc mc ms free) (k1 : Cond.methodLink own index y ∈ wALL) (k2 : Cond.static y ∈ wALL) (k4 : Cond.initialized y.cls ∈ wALL) (k5 : Cond.code y bytes maxL ret ∈ wALL) (hrc : rm.cells = mc) (hrs : rm.slots = ms) (hd : y.cls ≠ "java/lang/invoke/MethodHandle" ∧ y.cls ≠ "java/lang/invoke/VarHandle" ∧ (parseMethodDescriptor y.desc).map (fun d => d.parameters.length) = some n) (hR : rm.frames + 1 ≤ R.frames ∧ 8 + (maxL + 11) + rm.locals ≤ R.locals) (hAs : As.length = n) (hls : ls.size = nL) (hst : st0 = As.reverse ++ rest) (hrest : (rest.map fun v => v.category).sum ≤ 8) (hdg : decode cc pc = .ok (.invokestatic index, 3)) (hz : H.size + pcn ≤ KC ∧ totS H + psn ≤ KS) (hf : cells + mc ≤ R.cells ∧ slots + ms ≤ R.slots) :
    va_Run p l e R s m args below meth c H locs cells slots mc ms (F0 m pc ls st0) rest (Qc (As).toArray) free := by
  have Z := Y.pick is hn hC
  have hts := X.2.2.2.2
  exact va_runS (As := As) (rest := rest) X hM ⟨callB_of n hts (gALL k5) rfl hrc hrs (hts _ k4) (hts _ k1) hd hR, hts _ k2⟩ ⟨PzE.blind hE0, fun U hU hW => ⟨rfl, by rw [hU]; exact ⟨rfl, rfl, hz.1, hz.2⟩, by rw [hU]; exact Z.2.1, Z.1.warm hW, Z.2.2.1.weaken (fun _ _ _ _ => trivial), hE0.subB hT0 Z hU hW⟩⟩ rfl hAs hls hst (lv_room hrest) hdg hf
theorem cSNEz {y : MethodName} {bytes : ByteArray} {maxL n index mc ms KC KS pcn psn : Nat} {ret : Option FieldType} {rm : Room} {Qc : Array Value → State → Outcome → State → Prop} {free : Addr → Prop} {As : List Value} {host : String} {st0 : List Value} (hE0 : EOK E) (hT0 : E A s) (X : CallFix p m c cc nL s args wALL own) (Y : Wd D τ s A s.heap (bl B) H locs) (is : List Nat) (hn : va_nd is = true) (hC : is.map (fun i => B[i]?) = Cs.map some) (hM : Met l y (Cond.code y bytes maxL ret :: wALL) rm (PzE E D τ (bl Cs) H.size (totS H) As KC KS pcn psn) Qc mc ms free) (k1 : va_Nw (.methodLinkNest own index y host) s) (k2 : Cond.static y ∈ wALL) (k4 : Cond.initialized y.cls ∈ wALL) (k5 : Cond.code y bytes maxL ret ∈ wALL) (hrc : rm.cells = mc) (hrs : rm.slots = ms) (hd : y.cls ≠ "java/lang/invoke/MethodHandle" ∧ y.cls ≠ "java/lang/invoke/VarHandle" ∧ (parseMethodDescriptor y.desc).map (fun d => d.parameters.length) = some n) (hR : rm.frames + 1 ≤ R.frames ∧ 8 + (maxL + 11) + rm.locals ≤ R.locals) (hAs : As.length = n) (hls : ls.size = nL) (hst : st0 = As.reverse ++ rest) (hrest : (rest.map fun v => v.category).sum ≤ 8) (hdg : decode cc pc = .ok (.invokestatic index, 3)) (hz : H.size + pcn ≤ KC ∧ totS H + psn ≤ KS) (hf : cells + mc ≤ R.cells ∧ slots + ms ≤ R.slots) :
    va_Run p l e R s m args below meth c H locs cells slots mc ms (F0 m pc ls st0) rest (Qc (As).toArray) free := by
  have Z := Y.pick is hn hC
  have hts := X.2.2.2.2
  exact va_runSN (As := As) (rest := rest) X hM ⟨va_cnB n hts (gALL k5) rfl hrc hrs k1 (hts _ k4) hd hR, hts _ k2, trivial⟩ ⟨PzE.blind hE0, fun U hU hW => ⟨rfl, by rw [hU]; exact ⟨rfl, rfl, hz.1, hz.2⟩, by rw [hU]; exact Z.2.1, Z.1.warm hW, Z.2.2.1.weaken (fun _ _ _ _ => trivial), hE0.subB hT0 Z hU hW⟩⟩ rfl hAs hls hst (lv_room hrest) hdg hf
theorem cIEz {y : MethodName} {bytes : ByteArray} {maxL n index mc ms KC KS pcn psn : Nat} {rm : Room} {Qc : Array Value → State → Outcome → State → Prop} {free : Addr → Prop} {As : List Value} {b : Nat} {st0 : List Value} (hE0 : EOK E) (hT0 : E A s) (X : CallFix p m c cc nL s args wALL own) (Y : Wd D τ s A s.heap (bl B) H locs) (is : List Nat) (hn : va_nd is = true) (hC : is.map (fun i => B[i]?) = Cs.map some) (hM : Met l y (Cond.code y bytes maxL none :: wALL) rm (PzE E D τ (bl Cs) H.size (totS H) (.ref b :: As) KC KS pcn psn) Qc mc ms free) (k1 : Cond.methodLink own index y ∈ wALL) (k2 : Cond.instanceMethod y ∈ wALL) (k4 : Cond.initialized y.cls ∈ wALL) (k5 : Cond.code y bytes maxL none ∈ wALL) (hname : y.name = "<init>") (hrc : rm.cells = mc) (hrs : rm.slots = ms) (hd : y.cls ≠ "java/lang/invoke/MethodHandle" ∧ y.cls ≠ "java/lang/invoke/VarHandle" ∧ (parseMethodDescriptor y.desc).map (fun d => d.parameters.length) = some n) (hR : rm.frames + 1 ≤ R.frames ∧ 8 + (maxL + 11) + rm.locals ≤ R.locals) (hAs : As.length = n) (hls : ls.size = nL) (hst : st0 = As.reverse ++ .ref b :: rest) (hrest : (rest.map fun v => v.category).sum ≤ 8) (hdg : decode cc pc = .ok (.invokespecial index, 3)) (hz : H.size + pcn ≤ KC ∧ totS H + psn ≤ KS) (hf : cells + mc ≤ R.cells ∧ slots + ms ≤ R.slots) :
    va_Run p l e R s m args below meth c H locs cells slots mc ms (F0 m pc ls st0) rest (Qc (Value.ref b :: As).toArray) free := by
  have Z := Y.pick is hn hC
  have hts := X.2.2.2.2
  exact va_runI (As := As) (rest := rest) X hM (cwI n hts (gALL k5) rfl hrc hrs (hts _ k4) (hts _ k1) (hts _ k2) hname hd hR) ⟨PzE.blind hE0, fun U hU hW => ⟨rfl, by rw [hU]; exact ⟨rfl, rfl, hz.1, hz.2⟩, by rw [hU]; exact Z.2.1, Z.1.warm hW, Z.2.2.1.weaken (fun _ _ _ _ => trivial), hE0.subB hT0 Z hU hW⟩⟩ rfl hAs hls hst (lv_room hrest) hdg hf
end EW
def ksBl : List (List Int32) := [[108, 105, 110, 107], [108, 105, 102, 101], [112, 111, 108, 105, 99, 121], [115, 101, 110, 100], [97, 103, 97, 105, 110], [112, 114, 111, 98, 101], [102, 111, 114, 103, 101], [115, 105, 122, 101], [101, 118, 101, 114, 121], [112, 97, 115, 115], [102, 105, 114, 109], [109, 111, 114, 101], [], [59], [108, 105, 110, 107, 32], [59, 115, 101, 110, 100, 32], [32, 102, 105, 114, 109], [59, 108, 105, 102, 101, 32], [59, 112, 111, 108, 105, 99, 121, 32], [112, 114, 111, 98, 101, 32, 53, 48, 59, 112, 97, 115, 115, 32, 51, 59, 115, 105, 122, 101, 32, 48, 32, 52, 48, 59]]
def ksOl : List String := ["FragmentPath$Reader", "FragmentPath$Reader", "FragmentPath$Reader", "FragmentPath$Reader", "FragmentPath$Reader", "FragmentPath$Reader", "FragmentPath$Reader", "FragmentPath$Reader", "FragmentPath$Reader", "FragmentPath$Reader", "FragmentPath$Reader", "FragmentPath$Reader", "FragmentPathLaw", "FragmentPathLaw", "FragmentPathLaw", "FragmentPathLaw", "FragmentPathLaw", "FragmentPathLaw", "FragmentPathLaw", "FragmentPathLaw"]
def ksIl : List Nat := [119, 121, 123, 125, 127, 129, 131, 133, 135, 137, 148, 150, 127, 129, 134, 142, 144, 146, 148, 217]
def ksXl : List String := ["link", "life", "policy", "send", "again", "probe", "forge", "size", "every", "pass", "firm", "more", "", ";", "link ", ";send ", " firm", ";life ", ";policy ", "probe 50;pass 3;size 0 40;"]
def numL : List Int := [3, 1, 1, 2, 1, 1, 4, 2, 2, 1]
def lstL : List Int := [28, 1, 0, 0, 1, 0, 0, 0, 0, 0, 0, 0, 1, 0, 0, 0, 0, 0, 0, 0, 28, 0, 0, 0, 0, 0, 1, 0, 0, 28, 0, 0, 0, 0, 0, 0, 1, 0, 0, 0]
def grtL : List Int := [1500, 50, 99, 0, 200, 0, 0, 0, 2, 0, 0, 0, 1000, 255, 0, 0, 39, 0, 0, 0, 1500, 0, 0, 0, 39, 992, 200, 255, 5, 1500, 0, 0, 5, 99, 0, 0, 500, 0, 0, 0]
/-- an object, or nothing: the formatter -/
def oK (K : Nat → Nat) : Option Nat := if K 106 = 0 then none else some (K 105)
def Ke (K : Nat → Nat) (A : Nat → Prop) (U : State) : Prop :=
  (∀ i : Nat, i < 20 → vk_S 1 [(ksBl.getD i []).length] [ksBl.getD i []] (fun _ => K (2 * i)) (fun _ => K (2 * i + 1)) A U U.heap) ∧ (∀ i : Nat, i < 20 → vk_R (ksOl.getD i "") (ksIl.getD i 0) (ksXl.getD i "") (K (2 * i)) U)
  ∧ va_Z "java/lang/String" "COMPACT_STRINGS" "Z" (.int 1) A U U.heap ∧ va_Z "FragmentPath$Reader" "NUMBERS" "[I" (.ref (K 100)) A U U.heap ∧ va_Z "FragmentPath$Reader" "LEAST" "[I" (.ref (K 101)) A U U.heap ∧ va_Z "FragmentPath$Reader" "GREATEST" "[I" (.ref (K 102)) A U U.heap
  ∧ va_T .int (K 100) 10 (fun j => .int (iI (numL.getD j 0))) A U U.heap ∧ va_T .int (K 101) 40 (fun j => .int (iI (lstL.getD j 0))) A U U.heap ∧ va_T .int (K 102) 40 (fun j => .int (iI (grtL.getD j 0))) A U U.heap
  ∧ va_Z "java/lang/Integer" "DigitOnes" "[B" (.ref (K 103)) A U U.heap ∧ va_Z "java/lang/Integer" "DigitTens" "[B" (.ref (K 104)) A U U.heap ∧ va_T .byte (K 103) 100 (fun j => .int (iI ((48 + j % 10 : Nat) : Int))) A U U.heap ∧ va_T .byte (K 104) 100 (fun j => .int (iI ((48 + j / 10 : Nat) : Int))) A U U.heap
  ∧ va_Z "jdk/internal/util/Preconditions" "SIOOBE_FORMATTER" "Ljava/util/function/BiFunction;" (va_rf (oK K)) A U U.heap
theorem Ke.ok (K : Nat → Nat) : EOK (Ke K) := by
  refine ⟨fun A a U g mk h => ?_, fun A B s U h hk hW hF => ?_⟩
  · have hA : U.vm.Alike (U.calling g mk a).vm := Vm.Alike.refl U.vm
    obtain ⟨h1, h2, h3, h4, h5, h6, h7, h8, h9, h10, h11, h12, h13, h14⟩ := h
    exact ⟨fun i hi => vk_S.moved (u := U) (U := U.calling g mk a) hA (h1 i hi), fun i hi => vk_R.same (u := U) rfl (h2 i hi), va_Z.moved (u := U) (U := U.calling g mk a) hA h3, va_Z.moved (u := U) (U := U.calling g mk a) hA h4, va_Z.moved (u := U) (U := U.calling g mk a) hA h5, va_Z.moved (u := U) (U := U.calling g mk a) hA h6, va_T.moved (u := U) (U := U.calling g mk a) hA h7, va_T.moved (u := U) (U := U.calling g mk a) hA h8, va_T.moved (u := U) (U := U.calling g mk a) hA h9, va_Z.moved (u := U) (U := U.calling g mk a) hA h10, va_Z.moved (u := U) (U := U.calling g mk a) hA h11, va_T.moved (u := U) (U := U.calling g mk a) hA h12, va_T.moved (u := U) (U := U.calling g mk a) hA h13, va_Z.moved (u := U) (U := U.calling g mk a) hA h14⟩
  · obtain ⟨h1, h2, h3, h4, h5, h6, h7, h8, h9, h10, h11, h12, h13, h14⟩ := h
    have mz : ∀ {C n d : String} {v : Value}, va_Z C n d v A s s.heap → va_Z C n d v B U U.heap := fun q => va_Z.narrow (va_Z.moved hW.alike (va_Z.kept q hk)) hF
    have mt : ∀ {ty : FieldType} {t N : Nat} {f : Nat → Value}, va_T ty t N f A s s.heap → va_T ty t N f B U U.heap := fun q => va_T.narrow (va_T.moved hW.alike (va_T.kept q hk)) hF
    exact ⟨fun i hi => vk_S.narrow (vk_S.moved hW.alike (vk_S.kept (h1 i hi) hk)) hF, fun i hi => vk_R.warm hW (h2 i hi), mz h3, mz h4, mz h5, mz h6, mt h7, mt h8, mt h9, mz h10, mz h11, mt h12, mt h13, mz h14⟩
section KeP
variable {K : Nat → Nat} {A : Nat → Prop} {U : State}
theorem Ke.str (h : Ke K A U) (i : Nat) (hi : i < 20) : vk_S 1 [(ksBl.getD i []).length] [ksBl.getD i []] (fun _ => K (2 * i)) (fun _ => K (2 * i + 1)) A U U.heap := h.1 i hi
theorem Ke.cod (h : Ke K A U) (i : Nat) (hi : i < 20) : va_OF "java/lang/String" "coder" "B" (.int 0) (K (2 * i)) A U U.heap := ((h.1 i hi).1 0 (by decide)).2.1
theorem Ke.val (h : Ke K A U) (i : Nat) (hi : i < 20) : va_OF "java/lang/String" "value" "[B" (.ref (K (2 * i + 1))) (K (2 * i)) A U U.heap := ((h.1 i hi).1 0 (by decide)).2.2.1
theorem Ke.byt (h : Ke K A U) (i : Nat) (hi : i < 20) : va_T .byte (K (2 * i + 1)) (ksBl.getD i []).length (fun j => .int ((ksBl.getD i []).getD j 0)) A U U.heap := ((h.1 i hi).1 0 (by decide)).2.2.2
theorem Ke.lit (h : Ke K A U) (i : Nat) (hi : i < 20) : vk_R (ksOl.getD i "") (ksIl.getD i 0) (ksXl.getD i "") (K (2 * i)) U := h.2.1 i hi
theorem Ke.fmN (h : Ke K A U) (q : K 106 = 0) : va_Z "jdk/internal/util/Preconditions" "SIOOBE_FORMATTER" "Ljava/util/function/BiFunction;" .null A U U.heap := by
  have w := h.2.2.2.2.2.2.2.2.2.2.2.2.2
  unfold oK at w
  rw [if_pos q] at w
  exact w
theorem Ke.fmR (h : Ke K A U) (q : ¬ K 106 = 0) : va_Z "jdk/internal/util/Preconditions" "SIOOBE_FORMATTER" "Ljava/util/function/BiFunction;" (.ref (K 105)) A U U.heap := by
  have w := h.2.2.2.2.2.2.2.2.2.2.2.2.2
  unfold oK at w
  rw [if_neg q] at w
  exact w
theorem Ke.cmp (h : Ke K A U) : va_Z "java/lang/String" "COMPACT_STRINGS" "Z" (.int 1) A U U.heap := h.2.2.1
end KeP
