/-! calls over worlds of blocks; room that is had once and used up -/
def totS (H : Heap) : Nat := H.foldl (fun n c => n + c.slots.size) 0
/-- a start, with a budget: at the end no more than KC cells and KS slots are there, and still pc and ps of these are to be had -/
def Pz (D : va_G) (τ : Nat → ClassId) (wc : va_W) (sz T0 : Nat) (av : List Value) (KC KS pc ps : Nat) : Array Value → State → Prop := va_Pc av (fun U => (U.heap.size = sz ∧ totS U.heap = T0 ∧ sz + pc ≤ KC ∧ T0 + ps ≤ KS) ∧ va_P D vwCl wc U.heap ∧ Gw D τ U ∧ va_D (fun _ => True) wc)
def Bz {S : Type} (D : va_G) (A : Nat → Prop) (w1 : S → List va_W) (KC KS : Nat) (pc ps : S → Nat) : S → State → Prop := fun u t => (t.heap.size + pc u ≤ KC ∧ totS t.heap + ps u ≤ KS) ∧ va_P D vwCl (bl (w1 u)) t.heap ∧ va_D A (bl (w1 u))
def Bb {S : Type} (D : va_G) (A : Nat → Prop) (w1 : S → List va_W) : S → State → Prop := fun u t => va_P D vwCl (bl (w1 u)) t.heap ∧ va_D A (bl (w1 u))
theorem Pz.blind {D : va_G} {τ : Nat → ClassId} {wc : va_W} {sz T0 : Nat} {av : List Value} {KC KS pc ps : Nat} : FrameBlind (Pz D τ wc sz T0 av KC KS pc ps) := fun a U g mk q => by
  obtain ⟨q0, q1, qP, qK, qD⟩ := q
  exact ⟨q0, q1, qP, qK.call, qD⟩
section TC
variable {p : Program} {l : Launch} {e : Env} {R : Room} {s : State} {m : MethodId} {args : Array Value} {below : List Frame} {meth : Method} {c : Code} {H : Heap} {locs : List Loc} {cells slots : Nat} {Q : State → Prop}
variable {cc : ByteArray} {pc nL : Nat} {ls : Array Slot} {rest : List Value} {own : String} {D : va_G} {τ : Nat → ClassId} {A : Nat → Prop} {H0 : Heap} {B Cs Rs : List va_W}
theorem stand_knows {T : State} (X : Stand p l e R s m args below meth c T locs cells slots) : totS s.heap = s.slotsUsed ∧ totS T.heap = T.slotsUsed := by
  have h1 := X.book
  have h0 : s.slotsTrue = true := by
    have h := X.room
    simp only [State.hasRoom, Bool.and_eq_true] at h
    exact h.2
  unfold State.slotsTrue at h0 h1
  exact ⟨(beq_iff_eq.mp h0).symm, (beq_iff_eq.mp h1).symm⟩
theorem W.any {c2 n2 : Nat} {g : JFrame} (h1 : H.size ≤ s.heap.size + c2) (h2 : totS H ≤ totS s.heap + n2) (k : W p l e R s m args below meth c H locs c2 n2 Q g) : W p l e R s m args below meth c H locs cells slots Q g := by
  intro T hT X
  obtain ⟨k1, k2⟩ := stand_knows X
  refine k T hT { X with same := ?_ }
  obtain ⟨e1, e2, -, e4, -, e6⟩ := X.same
  have e4' : T.slotsUsed = s.slotsUsed + ((T.heap.toList.drop s.heap.size).map (·.slots.size)).sum := e4
  refine ⟨e1, e2, ?_, e4, ?_, e6⟩
  · show T.heap.size ≤ s.heap.size + c2
    rw [hT]; exact h1
  · show ((T.heap.toList.drop s.heap.size).map (·.slots.size)).sum ≤ n2
    rw [hT] at k2
    omega
theorem W.knows {g : JFrame} (k : H.size ≤ s.heap.size + cells → totS H ≤ totS s.heap + slots → s.heap.size ≤ H.size → totS s.heap ≤ totS H → W p l e R s m args below meth c H locs cells slots Q g) : W p l e R s m args below meth c H locs cells slots Q g := by
  intro T hT X
  obtain ⟨k1, k2⟩ := stand_knows X
  have h1 := X.heapSize
  have h2 := X.used
  have h3 : s.heap.size ≤ T.heap.size := X.same.2.1
  have h4 : T.slotsUsed = s.slotsUsed + ((T.heap.toList.drop s.heap.size).map (·.slots.size)).sum := X.same.2.2.2.1
  rw [hT] at h1 h3 k2
  exact k h1 (by omega) h3 (by omega) T hT X
theorem W.exact {g : JFrame} (k : H.size ≤ s.heap.size + cells → totS H ≤ totS s.heap + slots → s.heap.size ≤ H.size → totS s.heap ≤ totS H → W p l e R s m args below meth c H locs (H.size - s.heap.size) (totS H - totS s.heap) Q g) : W p l e R s m args below meth c H locs cells slots Q g :=
  W.knows (fun h1 h2 h3 h4 => W.any (c2 := H.size - s.heap.size) (n2 := totS H - totS s.heap) (by omega) (by omega) (k h1 h2 h3 h4))
/-- a body, from its entry -/
theorem bodyZ {y : MethodName} {b : ByteArray} {n : Nat} {ret : Option FieldType} {F L sz T0 KC KS pcn psn : Nat} {av : List Value} {wc : va_W} {Qc : Array Value → State → Outcome → State → Prop} {free : Addr → Prop} (hy : plainName y.cls = true) (hn : (lg_sl av).length ≤ n)
    (k : ∀ (p : Program) (e : Env) (s : State) (m : MethodId) (below : List Frame) (meth : Method) (c : Code) (ls : Array Slot), CallFix p m c b n s av.toArray wALL y.cls → meth.sig.returnType = ret → meth.locks = false → meth.name = y.name → s.heap.size = sz → totS s.heap = T0 → s.heap.size + 0 + pcn ≤ KC → totS s.heap + 0 + psn ≤ KS → Wd D τ s (va_A wc sz) s.heap wc s.heap [] → lv_has ls n (lv_args 0 av) → W p l e { frames := F, cells := KC - s.heap.size, slots := KS - totS s.heap, locals := L } s m av.toArray below meth c s.heap [] 0 0 (MQ below Qc av.toArray s (KC - s.heap.size) (KS - totS s.heap) free) (F0 m 0 ls [])) :
    Met l y (Cond.code y b n ret :: wALL) { frames := F, cells := KC - sz, slots := KS - T0, locals := L } (Pz D τ wc sz T0 av KC KS pcn psn) Qc (KC - sz) (KS - T0) free := by
  refine Met.ofW (cc := b) (maxL := n) (ret := ret) hy rfl ?_
  intro p e s m args below meth c s₁ B hml hv
  obtain ⟨rfl, ⟨hsz, hT0, hkc, hks⟩, hP, hK, hD0⟩ := hv
  have hts := atoms_spec (ws := Cond.code y b n ret :: wALL) B.pre
  have hts : ∀ w ∈ wALL, w.before _ s = true := fun w h => hts w (List.mem_cons_of_mem _ h)
  subst hsz
  subst hT0
  have hl := lv_entry av (n := n) hn
  rw [lg_entry_eq]
  exact k p e s m below meth c _ ⟨B.exec, B.bytes, hml, findClass_of_methodNamed B.named, hts⟩ B.returns B.notSynchronized (name_of_methodNamed B.named B.method).1 rfl rfl hkc hks ⟨hK, hP, hD0.self, va_S.rf, fun q h => Or.inr h⟩ hl
/-! the calls -/
theorem cV {y : MethodName} {bytes : ByteArray} {maxL n index mc ms : Nat} {ret : Option FieldType} {rm : Room} {Qc : Array Value → State → Outcome → State → Prop} {free : Addr → Prop} {As : List Value} {b ci q0 N : Nat} {T : u_T} {fs : List Value} {st0 : List Value}
    (X : CallFix p m c cc nL s args wALL own) (Y : Wd D τ s A H0 (bl B) H locs) (is : List Nat) (hn : va_nd is = true) (hC : is.map (fun i => B[i]?) = Cs.map some)
    (hM : Met l y (Cond.code y bytes maxL ret :: wALL) rm (Pw D τ (bl Cs) H.size (.ref b :: As)) Qc mc ms free) (he : B[q0]? = some [(b, .inr (ci, fs))]) (hc : vwCl[ci]? = some (y.cls, T, N))
    (k1 : Cond.methodLink own index y ∈ wALL) (k2 : Cond.instanceMethod y ∈ wALL) (k3 : Cond.selects y.cls y y ∈ wALL) (k4 : Cond.initialized y.cls ∈ wALL) (k5 : Cond.code y bytes maxL ret ∈ wALL) (hrc : rm.cells = mc) (hrs : rm.slots = ms)
    (hd : y.cls ≠ "java/lang/invoke/MethodHandle" ∧ y.cls ≠ "java/lang/invoke/VarHandle" ∧ (parseMethodDescriptor y.desc).map (fun d => d.parameters.length) = some n) (hR : rm.frames + 1 ≤ R.frames ∧ 8 + (maxL + 11) + rm.locals ≤ R.locals) (hAs : As.length = n) (hls : ls.size = nL) (hst : st0 = As.reverse ++ .ref b :: rest) (hrest : (rest.map fun v => v.category).sum ≤ 8) (hdg : decode cc pc = .ok (.invokevirtual index, 3)) (hf : cells + mc ≤ R.cells ∧ slots + ms ≤ R.slots) :
    va_Run p l e R s m args below meth c H locs cells slots mc ms (F0 m pc ls st0) rest (Qc (Value.ref b :: As).toArray) free := by
  have Z := Y.pick is hn hC
  obtain ⟨z, he1, -⟩ := bl_at he
  have hT : GoodIn wALL (wsV own index y.cls y (Cond.code y bytes maxL ret :: wALL)) := by
    intro w hw
    rcases List.mem_append.mp (by unfold wsV at hw; exact hw) with h | h
    · simp only [List.mem_cons, List.not_mem_nil, or_false] at h
      rcases h with rfl | rfl | rfl | rfl
      · exact ⟨k1, wALL_good k1⟩
      · exact ⟨k2, wALL_good k2⟩
      · exact ⟨k3, wALL_good k3⟩
      · exact ⟨k4, wALL_good k4⟩
    · exact gALL k5 w h
  exact va_runV (As := As) (rest := rest) X hM (cwV n X.2.2.2.2 hT rfl hrc hrs ⟨rfl, hd⟩ hR) ⟨Pw.blind, va_recv Y.1.1 Y.2.1 hc he1, fun U hU hW => ⟨rfl, by rw [hU], by rw [hU]; exact Z.2.1, Z.1.warm hW, Z.2.2.1.weaken (fun _ _ _ _ => trivial)⟩⟩ rfl hAs hls hst (lv_room hrest) hdg hf
theorem cVz {y : MethodName} {bytes : ByteArray} {maxL n index mc ms KC KS pcn psn : Nat} {ret : Option FieldType} {rm : Room} {Qc : Array Value → State → Outcome → State → Prop} {free : Addr → Prop} {As : List Value} {b ci q0 N : Nat} {T : u_T} {fs : List Value} {st0 : List Value}
    (X : CallFix p m c cc nL s args wALL own) (Y : Wd D τ s A H0 (bl B) H locs) (is : List Nat) (hn : va_nd is = true) (hC : is.map (fun i => B[i]?) = Cs.map some)
    (hM : Met l y (Cond.code y bytes maxL ret :: wALL) rm (Pz D τ (bl Cs) H.size (totS H) (.ref b :: As) KC KS pcn psn) Qc mc ms free) (he : B[q0]? = some [(b, .inr (ci, fs))]) (hc : vwCl[ci]? = some (y.cls, T, N))
    (k1 : Cond.methodLink own index y ∈ wALL) (k2 : Cond.instanceMethod y ∈ wALL) (k3 : Cond.selects y.cls y y ∈ wALL) (k4 : Cond.initialized y.cls ∈ wALL) (k5 : Cond.code y bytes maxL ret ∈ wALL) (hrc : rm.cells = mc) (hrs : rm.slots = ms)
    (hd : y.cls ≠ "java/lang/invoke/MethodHandle" ∧ y.cls ≠ "java/lang/invoke/VarHandle" ∧ (parseMethodDescriptor y.desc).map (fun d => d.parameters.length) = some n) (hR : rm.frames + 1 ≤ R.frames ∧ 8 + (maxL + 11) + rm.locals ≤ R.locals) (hAs : As.length = n) (hls : ls.size = nL) (hst : st0 = As.reverse ++ .ref b :: rest) (hrest : (rest.map fun v => v.category).sum ≤ 8) (hdg : decode cc pc = .ok (.invokevirtual index, 3)) (hz : H.size + pcn ≤ KC ∧ totS H + psn ≤ KS) (hf : cells + mc ≤ R.cells ∧ slots + ms ≤ R.slots) :
    va_Run p l e R s m args below meth c H locs cells slots mc ms (F0 m pc ls st0) rest (Qc (Value.ref b :: As).toArray) free := by
  have Z := Y.pick is hn hC
  obtain ⟨z, he1, -⟩ := bl_at he
  have hT : GoodIn wALL (wsV own index y.cls y (Cond.code y bytes maxL ret :: wALL)) := by
    intro w hw
    rcases List.mem_append.mp (by unfold wsV at hw; exact hw) with h | h
    · simp only [List.mem_cons, List.not_mem_nil, or_false] at h
      rcases h with rfl | rfl | rfl | rfl
      · exact ⟨k1, wALL_good k1⟩
      · exact ⟨k2, wALL_good k2⟩
      · exact ⟨k3, wALL_good k3⟩
      · exact ⟨k4, wALL_good k4⟩
    · exact gALL k5 w h
  exact va_runV (As := As) (rest := rest) X hM (cwV n X.2.2.2.2 hT rfl hrc hrs ⟨rfl, hd⟩ hR) ⟨Pz.blind, va_recv Y.1.1 Y.2.1 hc he1, fun U hU hW => ⟨rfl, by rw [hU]; exact ⟨rfl, rfl, hz.1, hz.2⟩, by rw [hU]; exact Z.2.1, Z.1.warm hW, Z.2.2.1.weaken (fun _ _ _ _ => trivial)⟩⟩ rfl hAs hls hst (lv_room hrest) hdg hf
theorem cS {y : MethodName} {bytes : ByteArray} {maxL n index mc ms : Nat} {ret : Option FieldType} {rm : Room} {Qc : Array Value → State → Outcome → State → Prop} {free : Addr → Prop} {As : List Value} {st0 : List Value}
    (X : CallFix p m c cc nL s args wALL own) (Y : Wd D τ s A H0 (bl B) H locs) (is : List Nat) (hn : va_nd is = true) (hC : is.map (fun i => B[i]?) = Cs.map some)
    (hM : Met l y (Cond.code y bytes maxL ret :: wALL) rm (Pw D τ (bl Cs) H.size As) Qc mc ms free)
    (k1 : Cond.methodLink own index y ∈ wALL) (k2 : Cond.static y ∈ wALL) (k4 : Cond.initialized y.cls ∈ wALL) (k5 : Cond.code y bytes maxL ret ∈ wALL) (hrc : rm.cells = mc) (hrs : rm.slots = ms)
    (hd : y.cls ≠ "java/lang/invoke/MethodHandle" ∧ y.cls ≠ "java/lang/invoke/VarHandle" ∧ (parseMethodDescriptor y.desc).map (fun d => d.parameters.length) = some n) (hR : rm.frames + 1 ≤ R.frames ∧ 8 + (maxL + 11) + rm.locals ≤ R.locals) (hAs : As.length = n) (hls : ls.size = nL) (hst : st0 = As.reverse ++ rest) (hrest : (rest.map fun v => v.category).sum ≤ 8) (hdg : decode cc pc = .ok (.invokestatic index, 3)) (hf : cells + mc ≤ R.cells ∧ slots + ms ≤ R.slots) :
    va_Run p l e R s m args below meth c H locs cells slots mc ms (F0 m pc ls st0) rest (Qc As.toArray) free := by
  have Z := Y.pick is hn hC
  have hts := X.2.2.2.2
  exact va_runS (As := As) (rest := rest) X hM ⟨callB_of n hts (gALL k5) rfl hrc hrs (hts _ k4) (hts _ k1) hd hR, hts _ k2⟩ ⟨Pw.blind, fun U hU hW => ⟨rfl, by rw [hU], by rw [hU]; exact Z.2.1, Z.1.warm hW, Z.2.2.1.weaken (fun _ _ _ _ => trivial)⟩⟩ rfl hAs hls hst (lv_room hrest) hdg hf
theorem cSz {y : MethodName} {bytes : ByteArray} {maxL n index mc ms KC KS pcn psn : Nat} {ret : Option FieldType} {rm : Room} {Qc : Array Value → State → Outcome → State → Prop} {free : Addr → Prop} {As : List Value} {st0 : List Value}
    (X : CallFix p m c cc nL s args wALL own) (Y : Wd D τ s A H0 (bl B) H locs) (is : List Nat) (hn : va_nd is = true) (hC : is.map (fun i => B[i]?) = Cs.map some)
    (hM : Met l y (Cond.code y bytes maxL ret :: wALL) rm (Pz D τ (bl Cs) H.size (totS H) As KC KS pcn psn) Qc mc ms free)
    (k1 : Cond.methodLink own index y ∈ wALL) (k2 : Cond.static y ∈ wALL) (k4 : Cond.initialized y.cls ∈ wALL) (k5 : Cond.code y bytes maxL ret ∈ wALL) (hrc : rm.cells = mc) (hrs : rm.slots = ms)
    (hd : y.cls ≠ "java/lang/invoke/MethodHandle" ∧ y.cls ≠ "java/lang/invoke/VarHandle" ∧ (parseMethodDescriptor y.desc).map (fun d => d.parameters.length) = some n) (hR : rm.frames + 1 ≤ R.frames ∧ 8 + (maxL + 11) + rm.locals ≤ R.locals) (hAs : As.length = n) (hls : ls.size = nL) (hst : st0 = As.reverse ++ rest) (hrest : (rest.map fun v => v.category).sum ≤ 8) (hdg : decode cc pc = .ok (.invokestatic index, 3)) (hz : H.size + pcn ≤ KC ∧ totS H + psn ≤ KS) (hf : cells + mc ≤ R.cells ∧ slots + ms ≤ R.slots) :
    va_Run p l e R s m args below meth c H locs cells slots mc ms (F0 m pc ls st0) rest (Qc As.toArray) free := by
  have Z := Y.pick is hn hC
  have hts := X.2.2.2.2
  exact va_runS (As := As) (rest := rest) X hM ⟨callB_of n hts (gALL k5) rfl hrc hrs (hts _ k4) (hts _ k1) hd hR, hts _ k2⟩ ⟨Pz.blind, fun U hU hW => ⟨rfl, by rw [hU]; exact ⟨rfl, rfl, hz.1, hz.2⟩, by rw [hU]; exact Z.2.1, Z.1.warm hW, Z.2.2.1.weaken (fun _ _ _ _ => trivial)⟩⟩ rfl hAs hls hst (lv_room hrest) hdg hf
theorem cSN {y : MethodName} {bytes : ByteArray} {maxL n index mc ms : Nat} {host : String} {ret : Option FieldType} {rm : Room} {Qc : Array Value → State → Outcome → State → Prop} {free : Addr → Prop} {As : List Value} {st0 : List Value}
    (X : CallFix p m c cc nL s args wALL own) (Y : Wd D τ s A H0 (bl B) H locs) (is : List Nat) (hn : va_nd is = true) (hC : is.map (fun i => B[i]?) = Cs.map some)
    (hM : Met l y (Cond.code y bytes maxL ret :: wALL) rm (Pw D τ (bl Cs) H.size As) Qc mc ms free)
    (k1 : va_Nw (.methodLinkNest own index y host) s) (k2 : Cond.static y ∈ wALL) (k4 : Cond.initialized y.cls ∈ wALL) (k5 : Cond.code y bytes maxL ret ∈ wALL) (hrc : rm.cells = mc) (hrs : rm.slots = ms)
    (hd : y.cls ≠ "java/lang/invoke/MethodHandle" ∧ y.cls ≠ "java/lang/invoke/VarHandle" ∧ (parseMethodDescriptor y.desc).map (fun d => d.parameters.length) = some n) (hR : rm.frames + 1 ≤ R.frames ∧ 8 + (maxL + 11) + rm.locals ≤ R.locals) (hAs : As.length = n) (hls : ls.size = nL) (hst : st0 = As.reverse ++ rest) (hrest : (rest.map fun v => v.category).sum ≤ 8) (hdg : decode cc pc = .ok (.invokestatic index, 3)) (hf : cells + mc ≤ R.cells ∧ slots + ms ≤ R.slots) :
    va_Run p l e R s m args below meth c H locs cells slots mc ms (F0 m pc ls st0) rest (Qc As.toArray) free := by
  have Z := Y.pick is hn hC
  have hts := X.2.2.2.2
  exact va_runSN (As := As) (rest := rest) X hM ⟨va_cnB n hts (gALL k5) rfl hrc hrs k1 (hts _ k4) hd hR, hts _ k2, trivial⟩ ⟨Pw.blind, fun U hU hW => ⟨rfl, by rw [hU], by rw [hU]; exact Z.2.1, Z.1.warm hW, Z.2.2.1.weaken (fun _ _ _ _ => trivial)⟩⟩ rfl hAs hls hst (lv_room hrest) hdg hf
theorem cI {y : MethodName} {bytes : ByteArray} {maxL n index mc ms : Nat} {rm : Room} {Qc : Array Value → State → Outcome → State → Prop} {free : Addr → Prop} {As : List Value} {b : Nat} {st0 : List Value}
    (X : CallFix p m c cc nL s args wALL own) (Y : Wd D τ s A H0 (bl B) H locs) (is : List Nat) (hn : va_nd is = true) (hC : is.map (fun i => B[i]?) = Cs.map some)
    (hM : Met l y (Cond.code y bytes maxL none :: wALL) rm (Pw D τ (bl Cs) H.size (.ref b :: As)) Qc mc ms free)
    (k1 : Cond.methodLink own index y ∈ wALL) (k2 : Cond.instanceMethod y ∈ wALL) (k4 : Cond.initialized y.cls ∈ wALL) (k5 : Cond.code y bytes maxL none ∈ wALL) (hname : y.name = "<init>") (hrc : rm.cells = mc) (hrs : rm.slots = ms)
    (hd : y.cls ≠ "java/lang/invoke/MethodHandle" ∧ y.cls ≠ "java/lang/invoke/VarHandle" ∧ (parseMethodDescriptor y.desc).map (fun d => d.parameters.length) = some n) (hR : rm.frames + 1 ≤ R.frames ∧ 8 + (maxL + 11) + rm.locals ≤ R.locals) (hAs : As.length = n) (hls : ls.size = nL) (hst : st0 = As.reverse ++ .ref b :: rest) (hrest : (rest.map fun v => v.category).sum ≤ 8) (hdg : decode cc pc = .ok (.invokespecial index, 3)) (hf : cells + mc ≤ R.cells ∧ slots + ms ≤ R.slots) :
    va_Run p l e R s m args below meth c H locs cells slots mc ms (F0 m pc ls st0) rest (Qc (Value.ref b :: As).toArray) free := by
  have Z := Y.pick is hn hC
  have hts := X.2.2.2.2
  exact va_runI (As := As) (rest := rest) X hM (cwI n hts (gALL k5) rfl hrc hrs (hts _ k4) (hts _ k1) (hts _ k2) hname hd hR) ⟨Pw.blind, fun U hU hW => ⟨rfl, by rw [hU], by rw [hU]; exact Z.2.1, Z.1.warm hW, Z.2.2.1.weaken (fun _ _ _ _ => trivial)⟩⟩ rfl hAs hls hst (lv_room hrest) hdg hf
theorem cIN {y : MethodName} {bytes : ByteArray} {maxL n index mc ms : Nat} {host : String} {rm : Room} {Qc : Array Value → State → Outcome → State → Prop} {free : Addr → Prop} {As : List Value} {b : Nat} {st0 : List Value}
    (X : CallFix p m c cc nL s args wALL own) (Y : Wd D τ s A H0 (bl B) H locs) (is : List Nat) (hn : va_nd is = true) (hC : is.map (fun i => B[i]?) = Cs.map some)
    (hM : Met l y (Cond.code y bytes maxL none :: wALL) rm (Pw D τ (bl Cs) H.size (.ref b :: As)) Qc mc ms free)
    (k1 : va_Nw (.methodLinkNest own index y host) s) (k2 : Cond.instanceMethod y ∈ wALL) (k4 : Cond.initialized y.cls ∈ wALL) (k5 : Cond.code y bytes maxL none ∈ wALL) (hname : y.name = "<init>") (hrc : rm.cells = mc) (hrs : rm.slots = ms)
    (hd : y.cls ≠ "java/lang/invoke/MethodHandle" ∧ y.cls ≠ "java/lang/invoke/VarHandle" ∧ (parseMethodDescriptor y.desc).map (fun d => d.parameters.length) = some n) (hR : rm.frames + 1 ≤ R.frames ∧ 8 + (maxL + 11) + rm.locals ≤ R.locals) (hAs : As.length = n) (hls : ls.size = nL) (hst : st0 = As.reverse ++ .ref b :: rest) (hrest : (rest.map fun v => v.category).sum ≤ 8) (hdg : decode cc pc = .ok (.invokespecial index, 3)) (hf : cells + mc ≤ R.cells ∧ slots + ms ≤ R.slots) :
    va_Run p l e R s m args below meth c H locs cells slots mc ms (F0 m pc ls st0) rest (Qc (Value.ref b :: As).toArray) free := by
  have Z := Y.pick is hn hC
  have hts := X.2.2.2.2
  exact va_runIN (As := As) (rest := rest) X hM ⟨va_cnB n hts (gALL k5) rfl hrc hrs k1 (hts _ k4) hd hR, hname, hts _ k2⟩ ⟨Pw.blind, fun U hU hW => ⟨rfl, by rw [hU], by rw [hU]; exact Z.2.1, Z.1.warm hW, Z.2.2.1.weaken (fun _ _ _ _ => trivial)⟩⟩ rfl hAs hls hst (lv_room hrest) hdg hf
/-! behind a call, and the ends -/
theorem qI {S : Type} {post : Int32 → S → Prop} {w1 : S → List va_W} {mc ms : Nat} {a : Array Value} {st0 : List Value} (Y : Wd D τ s A H0 (bl B) H locs) (is ir : List Nat) (hn : va_nd (is ++ ir) = true) (hC : (is ++ ir).map (fun i => B[i]?) = (Cs ++ Rs).map some)
    (hr : va_Run p l e R s m args below meth c H locs cells slots mc ms (F0 m pc ls st0) rest (va_Qi post (Bb D (va_A (bl Cs) H.size) w1) (va_A (bl Cs) H.size) a) (va_A (bl Cs) H.size))
    (kk : ∀ (r : Int32) (u : S) (H1 : Heap) (locs1 : List Loc), post r u → Wd D τ s A H0 (bl (w1 u ++ Rs)) H1 locs1 → W p l e R s m args below meth c H1 locs1 (cells + mc) (slots + ms) Q (F0 m (pc + 3) ls (.int r :: rest))) : W p l e R s m args below meth c H locs cells slots Q (F0 m pc ls st0) := by
  obtain ⟨hK, hP, hD, hS, hA⟩ := (Y.pick (is ++ ir) hn hC).eqv (List.flatten_append)
  have hDc : va_D A (bl Cs) := va_D_iff.mpr ⟨(List.pairwise_append.mp (va_D_iff.mp hD).1).1, fun q hq => (va_D_iff.mp hD).2 q (List.mem_append_left _ hq)⟩
  have hFc := blk_free hDc hS hA
  refine va_calli hr hS (fun q _ h => hFc q h) hFc (fun r u t H1 locs1 ht hvm hw hB hz1 hk1 hS1 => ?_)
  obtain ⟨hP1, hD1⟩ := hB
  rw [ht] at hP1
  obtain ⟨hPj, hDj⟩ := blk_join hP hD hk1 hFc hP1 hD1
  have e : bl (w1 u) ++ bl Rs = bl (w1 u ++ Rs) := List.flatten_append.symm
  rw [show List.flatten Rs = bl Rs from rfl, e] at hPj hDj
  exact kk r u H1 locs1 hw ⟨hK, hPj, hDj, hS1, hA⟩
theorem qIz {S : Type} {post : Int32 → S → Prop} {w1 : S → List va_W} {pc1 ps1 : S → Nat} {F L KC KS PC PS pcn psn xc xs : Nat} {a : Array Value} {st0 : List Value} (Y : Wd D τ s A s.heap (bl B) H locs) (is ir : List Nat) (hn : va_nd (is ++ ir) = true) (hC : (is ++ ir).map (fun i => B[i]?) = (Cs ++ Rs).map some)
    (hz1 : s.heap.size + cells + PC ≤ KC) (hz2 : totS s.heap + slots + PS ≤ KS) (hx1 : pcn + xc ≤ PC) (hx2 : psn + xs ≤ PS)
    (hr : H.size + pcn ≤ KC - xc ∧ totS H + psn ≤ KS - xs → H.size - s.heap.size + (KC - xc - H.size) ≤ KC - s.heap.size ∧ totS H - totS s.heap + (KS - xs - totS H) ≤ KS - totS s.heap → va_Run p l e { frames := F, cells := KC - s.heap.size, slots := KS - totS s.heap, locals := L } s m args below meth c H locs (H.size - s.heap.size) (totS H - totS s.heap) (KC - xc - H.size) (KS - xs - totS H) (F0 m pc ls st0) rest (va_Qi post (Bz D (va_A (bl Cs) H.size) w1 (KC - xc) (KS - xs) pc1 ps1) (va_A (bl Cs) H.size) a) (va_A (bl Cs) H.size))
    (kk : ∀ (r : Int32) (u : S) (H1 : Heap) (locs1 : List Loc) (cells slots : Nat), post r u → Wd D τ s A s.heap (bl (w1 u ++ Rs)) H1 locs1 → s.heap.size + cells + (pc1 u + xc) ≤ KC → totS s.heap + slots + (ps1 u + xs) ≤ KS → W p l e { frames := F, cells := KC - s.heap.size, slots := KS - totS s.heap, locals := L } s m args below meth c H1 locs1 cells slots Q (F0 m (pc + 3) ls (.int r :: rest))) : W p l e { frames := F, cells := KC - s.heap.size, slots := KS - totS s.heap, locals := L } s m args below meth c H locs cells slots Q (F0 m pc ls st0) := by
  obtain ⟨hK, hP, hD, hS, hA⟩ := (Y.pick (is ++ ir) hn hC).eqv (List.flatten_append)
  have hDc : va_D A (bl Cs) := va_D_iff.mpr ⟨(List.pairwise_append.mp (va_D_iff.mp hD).1).1, fun q hq => (va_D_iff.mp hD).2 q (List.mem_append_left _ hq)⟩
  have hFc := blk_free hDc hS hA
  refine W.exact (fun g1 g2 g3 g4 => ?_)
  refine va_calli (hr ⟨by omega, by omega⟩ ⟨by omega, by omega⟩) hS (fun q _ h => hFc q h) hFc (fun r u t H1 locs1 ht hvm hw hB hz1 hk1 hS1 => ?_)
  obtain ⟨⟨y1, y2⟩, hP1, hD1⟩ := hB
  rw [ht] at hP1 y1 y2
  obtain ⟨hPj, hDj⟩ := blk_join hP hD hk1 hFc hP1 hD1
  have e : bl (w1 u) ++ bl Rs = bl (w1 u ++ Rs) := List.flatten_append.symm
  rw [show List.flatten Rs = bl Rs from rfl, e] at hPj hDj
  have g5 := hS1.1
  refine W.knows (fun _ _ _ g6 => ?_)
  refine W.any (c2 := H1.size - s.heap.size) (n2 := totS H1 - totS s.heap) (by omega) (by omega) ?_
  exact kk r u H1 locs1 _ _ hw ⟨hK, hPj, hDj, hS1, hA⟩ (by omega) (by omega)
theorem qV {S : Type} {post : S → Prop} {w1 : S → List va_W} {mc ms : Nat} {a : Array Value} {st0 : List Value} (Y : Wd D τ s A H0 (bl B) H locs) (is ir : List Nat) (hn : va_nd (is ++ ir) = true) (hC : (is ++ ir).map (fun i => B[i]?) = (Cs ++ Rs).map some)
    (hr : va_Run p l e R s m args below meth c H locs cells slots mc ms (F0 m pc ls st0) rest (va_Qv post (Bb D (va_A (bl Cs) H.size) w1) (va_A (bl Cs) H.size) a) (va_A (bl Cs) H.size))
    (kk : ∀ (u : S) (H1 : Heap) (locs1 : List Loc), post u → Wd D τ s A H0 (bl (w1 u ++ Rs)) H1 locs1 → W p l e R s m args below meth c H1 locs1 (cells + mc) (slots + ms) Q (F0 m (pc + 3) ls (rest))) : W p l e R s m args below meth c H locs cells slots Q (F0 m pc ls st0) := by
  obtain ⟨hK, hP, hD, hS, hA⟩ := (Y.pick (is ++ ir) hn hC).eqv (List.flatten_append)
  have hDc : va_D A (bl Cs) := va_D_iff.mpr ⟨(List.pairwise_append.mp (va_D_iff.mp hD).1).1, fun q hq => (va_D_iff.mp hD).2 q (List.mem_append_left _ hq)⟩
  have hFc := blk_free hDc hS hA
  refine va_callv hr hS (fun q _ h => hFc q h) hFc (fun u t H1 locs1 ht hvm hw hB hz1 hk1 hS1 => ?_)
  obtain ⟨hP1, hD1⟩ := hB
  rw [ht] at hP1
  obtain ⟨hPj, hDj⟩ := blk_join hP hD hk1 hFc hP1 hD1
  have e : bl (w1 u) ++ bl Rs = bl (w1 u ++ Rs) := List.flatten_append.symm
  rw [show List.flatten Rs = bl Rs from rfl, e] at hPj hDj
  exact kk u H1 locs1 hw ⟨hK, hPj, hDj, hS1, hA⟩
theorem qVz {S : Type} {post : S → Prop} {w1 : S → List va_W} {pc1 ps1 : S → Nat} {F L KC KS PC PS pcn psn xc xs : Nat} {a : Array Value} {st0 : List Value} (Y : Wd D τ s A s.heap (bl B) H locs) (is ir : List Nat) (hn : va_nd (is ++ ir) = true) (hC : (is ++ ir).map (fun i => B[i]?) = (Cs ++ Rs).map some)
    (hz1 : s.heap.size + cells + PC ≤ KC) (hz2 : totS s.heap + slots + PS ≤ KS) (hx1 : pcn + xc ≤ PC) (hx2 : psn + xs ≤ PS)
    (hr : H.size + pcn ≤ KC - xc ∧ totS H + psn ≤ KS - xs → H.size - s.heap.size + (KC - xc - H.size) ≤ KC - s.heap.size ∧ totS H - totS s.heap + (KS - xs - totS H) ≤ KS - totS s.heap → va_Run p l e { frames := F, cells := KC - s.heap.size, slots := KS - totS s.heap, locals := L } s m args below meth c H locs (H.size - s.heap.size) (totS H - totS s.heap) (KC - xc - H.size) (KS - xs - totS H) (F0 m pc ls st0) rest (va_Qv post (Bz D (va_A (bl Cs) H.size) w1 (KC - xc) (KS - xs) pc1 ps1) (va_A (bl Cs) H.size) a) (va_A (bl Cs) H.size))
    (kk : ∀ (u : S) (H1 : Heap) (locs1 : List Loc) (cells slots : Nat), post u → Wd D τ s A s.heap (bl (w1 u ++ Rs)) H1 locs1 → s.heap.size + cells + (pc1 u + xc) ≤ KC → totS s.heap + slots + (ps1 u + xs) ≤ KS → W p l e { frames := F, cells := KC - s.heap.size, slots := KS - totS s.heap, locals := L } s m args below meth c H1 locs1 cells slots Q (F0 m (pc + 3) ls (rest))) : W p l e { frames := F, cells := KC - s.heap.size, slots := KS - totS s.heap, locals := L } s m args below meth c H locs cells slots Q (F0 m pc ls st0) := by
  obtain ⟨hK, hP, hD, hS, hA⟩ := (Y.pick (is ++ ir) hn hC).eqv (List.flatten_append)
  have hDc : va_D A (bl Cs) := va_D_iff.mpr ⟨(List.pairwise_append.mp (va_D_iff.mp hD).1).1, fun q hq => (va_D_iff.mp hD).2 q (List.mem_append_left _ hq)⟩
  have hFc := blk_free hDc hS hA
  refine W.exact (fun g1 g2 g3 g4 => ?_)
  refine va_callv (hr ⟨by omega, by omega⟩ ⟨by omega, by omega⟩) hS (fun q _ h => hFc q h) hFc (fun u t H1 locs1 ht hvm hw hB hz1 hk1 hS1 => ?_)
  obtain ⟨⟨y1, y2⟩, hP1, hD1⟩ := hB
  rw [ht] at hP1 y1 y2
  obtain ⟨hPj, hDj⟩ := blk_join hP hD hk1 hFc hP1 hD1
  have e : bl (w1 u) ++ bl Rs = bl (w1 u ++ Rs) := List.flatten_append.symm
  rw [show List.flatten Rs = bl Rs from rfl, e] at hPj hDj
  have g5 := hS1.1
  refine W.knows (fun _ _ _ g6 => ?_)
  refine W.any (c2 := H1.size - s.heap.size) (n2 := totS H1 - totS s.heap) (by omega) (by omega) ?_
  exact kk u H1 locs1 _ _ hw ⟨hK, hPj, hDj, hS1, hA⟩ (by omega) (by omega)
theorem qQ {S : Type} {post : Option Nat → S → Prop} {w1 : S → List va_W} {mc ms : Nat} {a : Array Value} {st0 : List Value} (Y : Wd D τ s A H0 (bl B) H locs) (is ir : List Nat) (hn : va_nd (is ++ ir) = true) (hC : (is ++ ir).map (fun i => B[i]?) = (Cs ++ Rs).map some)
    (hr : va_Run p l e R s m args below meth c H locs cells slots mc ms (F0 m pc ls st0) rest (va_Qq post (Bb D (va_A (bl Cs) H.size) w1) (va_A (bl Cs) H.size) a) (va_A (bl Cs) H.size))
    (kk : ∀ (r : Option Nat) (u : S) (H1 : Heap) (locs1 : List Loc), post r u → Wd D τ s A H0 (bl (w1 u ++ Rs)) H1 locs1 → W p l e R s m args below meth c H1 locs1 (cells + mc) (slots + ms) Q (F0 m (pc + 3) ls (va_rf r :: rest))) : W p l e R s m args below meth c H locs cells slots Q (F0 m pc ls st0) := by
  obtain ⟨hK, hP, hD, hS, hA⟩ := (Y.pick (is ++ ir) hn hC).eqv (List.flatten_append)
  have hDc : va_D A (bl Cs) := va_D_iff.mpr ⟨(List.pairwise_append.mp (va_D_iff.mp hD).1).1, fun q hq => (va_D_iff.mp hD).2 q (List.mem_append_left _ hq)⟩
  have hFc := blk_free hDc hS hA
  refine va_callq hr hS (fun q _ h => hFc q h) hFc (fun r u t H1 locs1 ht hvm hw hB hz1 hk1 hS1 => ?_)
  obtain ⟨hP1, hD1⟩ := hB
  rw [ht] at hP1
  obtain ⟨hPj, hDj⟩ := blk_join hP hD hk1 hFc hP1 hD1
  have e : bl (w1 u) ++ bl Rs = bl (w1 u ++ Rs) := List.flatten_append.symm
  rw [show List.flatten Rs = bl Rs from rfl, e] at hPj hDj
  exact kk r u H1 locs1 hw ⟨hK, hPj, hDj, hS1, hA⟩
theorem qQz {S : Type} {post : Option Nat → S → Prop} {w1 : S → List va_W} {pc1 ps1 : S → Nat} {F L KC KS PC PS pcn psn xc xs : Nat} {a : Array Value} {st0 : List Value} (Y : Wd D τ s A s.heap (bl B) H locs) (is ir : List Nat) (hn : va_nd (is ++ ir) = true) (hC : (is ++ ir).map (fun i => B[i]?) = (Cs ++ Rs).map some)
    (hz1 : s.heap.size + cells + PC ≤ KC) (hz2 : totS s.heap + slots + PS ≤ KS) (hx1 : pcn + xc ≤ PC) (hx2 : psn + xs ≤ PS)
    (hr : H.size + pcn ≤ KC - xc ∧ totS H + psn ≤ KS - xs → H.size - s.heap.size + (KC - xc - H.size) ≤ KC - s.heap.size ∧ totS H - totS s.heap + (KS - xs - totS H) ≤ KS - totS s.heap → va_Run p l e { frames := F, cells := KC - s.heap.size, slots := KS - totS s.heap, locals := L } s m args below meth c H locs (H.size - s.heap.size) (totS H - totS s.heap) (KC - xc - H.size) (KS - xs - totS H) (F0 m pc ls st0) rest (va_Qq post (Bz D (va_A (bl Cs) H.size) w1 (KC - xc) (KS - xs) pc1 ps1) (va_A (bl Cs) H.size) a) (va_A (bl Cs) H.size))
    (kk : ∀ (r : Option Nat) (u : S) (H1 : Heap) (locs1 : List Loc) (cells slots : Nat), post r u → Wd D τ s A s.heap (bl (w1 u ++ Rs)) H1 locs1 → s.heap.size + cells + (pc1 u + xc) ≤ KC → totS s.heap + slots + (ps1 u + xs) ≤ KS → W p l e { frames := F, cells := KC - s.heap.size, slots := KS - totS s.heap, locals := L } s m args below meth c H1 locs1 cells slots Q (F0 m (pc + 3) ls (va_rf r :: rest))) : W p l e { frames := F, cells := KC - s.heap.size, slots := KS - totS s.heap, locals := L } s m args below meth c H locs cells slots Q (F0 m pc ls st0) := by
  obtain ⟨hK, hP, hD, hS, hA⟩ := (Y.pick (is ++ ir) hn hC).eqv (List.flatten_append)
  have hDc : va_D A (bl Cs) := va_D_iff.mpr ⟨(List.pairwise_append.mp (va_D_iff.mp hD).1).1, fun q hq => (va_D_iff.mp hD).2 q (List.mem_append_left _ hq)⟩
  have hFc := blk_free hDc hS hA
  refine W.exact (fun g1 g2 g3 g4 => ?_)
  refine va_callq (hr ⟨by omega, by omega⟩ ⟨by omega, by omega⟩) hS (fun q _ h => hFc q h) hFc (fun r u t H1 locs1 ht hvm hw hB hz1 hk1 hS1 => ?_)
  obtain ⟨⟨y1, y2⟩, hP1, hD1⟩ := hB
  rw [ht] at hP1 y1 y2
  obtain ⟨hPj, hDj⟩ := blk_join hP hD hk1 hFc hP1 hD1
  have e : bl (w1 u) ++ bl Rs = bl (w1 u ++ Rs) := List.flatten_append.symm
  rw [show List.flatten Rs = bl Rs from rfl, e] at hPj hDj
  have g5 := hS1.1
  refine W.knows (fun _ _ _ g6 => ?_)
  refine W.any (c2 := H1.size - s.heap.size) (n2 := totS H1 - totS s.heap) (by omega) (by omega) ?_
  exact kk r u H1 locs1 _ _ hw ⟨hK, hPj, hDj, hS1, hA⟩ (by omega) (by omega)
theorem eI {S : Type} {post : Int32 → S → Prop} {w1 : S → List va_W} {mc ms : Nat} (X : CallFix p m c cc nL s args wALL own) (hr : meth.sig.returnType = some .int) (hk : meth.locks = false) (Y : Wd D τ s A s.heap (bl B) H locs) {v : Int32} (u : S) (hp : post v u) (is : List Nat) (hn : va_nd is = true) (hs : is.map (fun i => B[i]?) = (w1 u).map some) (hc : cells ≤ mc) (hs2 : slots ≤ ms) (hdg : decode cc pc = .ok (.ireturn, 1)) : W p l e R s m args below meth c H locs cells slots (MQ below (va_Qi post (Bb D A w1) A) args s mc ms A) (F0 m pc ls [.int v]) := by
  have Z := Y.pick is hn hs
  exact W.widen hc hs2 (W.iret X.1 X.2.1 hr (fun t ht hW => ⟨⟨v, u, rfl, hp, by rw [ht]; exact Z.2.1, Z.2.2.1⟩, Y.2.2.2.1.F ht⟩) Y.2.2.2.1.2.2 hdg hk)
theorem eIz {S : Type} {post : Int32 → S → Prop} {w1 : S → List va_W} {pc1 ps1 : S → Nat} {F L KC KS : Nat} (X : CallFix p m c cc nL s args wALL own) (hr : meth.sig.returnType = some .int) (hk : meth.locks = false) (Y : Wd D τ s A s.heap (bl B) H locs) {v : Int32} (u : S) (hp : post v u) (is : List Nat) (hn : va_nd is = true) (hs : is.map (fun i => B[i]?) = (w1 u).map some) (hz1 : s.heap.size + cells + pc1 u ≤ KC) (hz2 : totS s.heap + slots + ps1 u ≤ KS) (hdg : decode cc pc = .ok (.ireturn, 1)) : W p l e { frames := F, cells := KC - s.heap.size, slots := KS - totS s.heap, locals := L } s m args below meth c H locs cells slots (MQ below (va_Qi post (Bz D A w1 KC KS pc1 ps1) A) args s (KC - s.heap.size) (KS - totS s.heap) A) (F0 m pc ls [.int v]) := by
  have Z := Y.pick is hn hs
  exact W.knows (fun g1 g2 _ _ => W.widen (by omega) (by omega) (W.iret X.1 X.2.1 hr (fun t ht hW => ⟨⟨v, u, rfl, hp, by rw [ht]; exact ⟨by omega, by omega⟩, by rw [ht]; exact Z.2.1, Z.2.2.1⟩, Y.2.2.2.1.F ht⟩) Y.2.2.2.1.2.2 hdg hk))
theorem eZ {S : Type} {post : Int32 → S → Prop} {w1 : S → List va_W} {mc ms : Nat} (X : CallFix p m c cc nL s args wALL own) (hr : meth.sig.returnType = some .boolean) (hk : meth.locks = false) (Y : Wd D τ s A s.heap (bl B) H locs) {v : Int32} (hv : narrow .boolean (.int v) = .int v) (u : S) (hp : post v u) (is : List Nat) (hn : va_nd is = true) (hs : is.map (fun i => B[i]?) = (w1 u).map some) (hc : cells ≤ mc) (hs2 : slots ≤ ms) (hdg : decode cc pc = .ok (.ireturn, 1)) : W p l e R s m args below meth c H locs cells slots (MQ below (va_Qi post (Bb D A w1) A) args s mc ms A) (F0 m pc ls [.int v]) := by
  have Z := Y.pick is hn hs
  exact W.widen hc hs2 (W.zret X.1 X.2.1 hr hv (fun t ht hW => ⟨⟨v, u, rfl, hp, by rw [ht]; exact Z.2.1, Z.2.2.1⟩, Y.2.2.2.1.F ht⟩) Y.2.2.2.1.2.2 hdg hk)
theorem eZz {S : Type} {post : Int32 → S → Prop} {w1 : S → List va_W} {pc1 ps1 : S → Nat} {F L KC KS : Nat} (X : CallFix p m c cc nL s args wALL own) (hr : meth.sig.returnType = some .boolean) (hk : meth.locks = false) (Y : Wd D τ s A s.heap (bl B) H locs) {v : Int32} (hv : narrow .boolean (.int v) = .int v) (u : S) (hp : post v u) (is : List Nat) (hn : va_nd is = true) (hs : is.map (fun i => B[i]?) = (w1 u).map some) (hz1 : s.heap.size + cells + pc1 u ≤ KC) (hz2 : totS s.heap + slots + ps1 u ≤ KS) (hdg : decode cc pc = .ok (.ireturn, 1)) : W p l e { frames := F, cells := KC - s.heap.size, slots := KS - totS s.heap, locals := L } s m args below meth c H locs cells slots (MQ below (va_Qi post (Bz D A w1 KC KS pc1 ps1) A) args s (KC - s.heap.size) (KS - totS s.heap) A) (F0 m pc ls [.int v]) := by
  have Z := Y.pick is hn hs
  exact W.knows (fun g1 g2 _ _ => W.widen (by omega) (by omega) (W.zret X.1 X.2.1 hr hv (fun t ht hW => ⟨⟨v, u, rfl, hp, by rw [ht]; exact ⟨by omega, by omega⟩, by rw [ht]; exact Z.2.1, Z.2.2.1⟩, Y.2.2.2.1.F ht⟩) Y.2.2.2.1.2.2 hdg hk))
theorem eF {S : Type} {post : UInt32 → S → Prop} {w1 : S → List va_W} {mc ms : Nat} (X : CallFix p m c cc nL s args wALL own) (hr : meth.sig.returnType = some .float) (hk : meth.locks = false) (Y : Wd D τ s A s.heap (bl B) H locs) {v : UInt32} (u : S) (hp : post v u) (is : List Nat) (hn : va_nd is = true) (hs : is.map (fun i => B[i]?) = (w1 u).map some) (hc : cells ≤ mc) (hs2 : slots ≤ ms) (hdg : decode cc pc = .ok (.freturn, 1)) : W p l e R s m args below meth c H locs cells slots (MQ below (va_Qf post (Bb D A w1) A) args s mc ms A) (F0 m pc ls [.float v]) := by
  have Z := Y.pick is hn hs
  exact W.widen hc hs2 (W.fret X.1 X.2.1 hr (fun t ht hW => ⟨⟨v, u, rfl, hp, by rw [ht]; exact Z.2.1, Z.2.2.1⟩, Y.2.2.2.1.F ht⟩) Y.2.2.2.1.2.2 hdg hk)
theorem eFz {S : Type} {post : UInt32 → S → Prop} {w1 : S → List va_W} {pc1 ps1 : S → Nat} {F L KC KS : Nat} (X : CallFix p m c cc nL s args wALL own) (hr : meth.sig.returnType = some .float) (hk : meth.locks = false) (Y : Wd D τ s A s.heap (bl B) H locs) {v : UInt32} (u : S) (hp : post v u) (is : List Nat) (hn : va_nd is = true) (hs : is.map (fun i => B[i]?) = (w1 u).map some) (hz1 : s.heap.size + cells + pc1 u ≤ KC) (hz2 : totS s.heap + slots + ps1 u ≤ KS) (hdg : decode cc pc = .ok (.freturn, 1)) : W p l e { frames := F, cells := KC - s.heap.size, slots := KS - totS s.heap, locals := L } s m args below meth c H locs cells slots (MQ below (va_Qf post (Bz D A w1 KC KS pc1 ps1) A) args s (KC - s.heap.size) (KS - totS s.heap) A) (F0 m pc ls [.float v]) := by
  have Z := Y.pick is hn hs
  exact W.knows (fun g1 g2 _ _ => W.widen (by omega) (by omega) (W.fret X.1 X.2.1 hr (fun t ht hW => ⟨⟨v, u, rfl, hp, by rw [ht]; exact ⟨by omega, by omega⟩, by rw [ht]; exact Z.2.1, Z.2.2.1⟩, Y.2.2.2.1.F ht⟩) Y.2.2.2.1.2.2 hdg hk))
theorem eJ {S : Type} {post : Int64 → S → Prop} {w1 : S → List va_W} {mc ms : Nat} (X : CallFix p m c cc nL s args wALL own) (hr : meth.sig.returnType = some .long) (hk : meth.locks = false) (Y : Wd D τ s A s.heap (bl B) H locs) {v : Int64} (u : S) (hp : post v u) (is : List Nat) (hn : va_nd is = true) (hs : is.map (fun i => B[i]?) = (w1 u).map some) (hc : cells ≤ mc) (hs2 : slots ≤ ms) (hdg : decode cc pc = .ok (.lreturn, 1)) : W p l e R s m args below meth c H locs cells slots (MQ below (va_Ql post (Bb D A w1) A) args s mc ms A) (F0 m pc ls [.long v]) := by
  have Z := Y.pick is hn hs
  exact W.widen hc hs2 (W.lret X.1 X.2.1 hr (fun t ht hW => ⟨⟨v, u, rfl, hp, by rw [ht]; exact Z.2.1, Z.2.2.1⟩, Y.2.2.2.1.F ht⟩) Y.2.2.2.1.2.2 hdg hk)
theorem eJz {S : Type} {post : Int64 → S → Prop} {w1 : S → List va_W} {pc1 ps1 : S → Nat} {F L KC KS : Nat} (X : CallFix p m c cc nL s args wALL own) (hr : meth.sig.returnType = some .long) (hk : meth.locks = false) (Y : Wd D τ s A s.heap (bl B) H locs) {v : Int64} (u : S) (hp : post v u) (is : List Nat) (hn : va_nd is = true) (hs : is.map (fun i => B[i]?) = (w1 u).map some) (hz1 : s.heap.size + cells + pc1 u ≤ KC) (hz2 : totS s.heap + slots + ps1 u ≤ KS) (hdg : decode cc pc = .ok (.lreturn, 1)) : W p l e { frames := F, cells := KC - s.heap.size, slots := KS - totS s.heap, locals := L } s m args below meth c H locs cells slots (MQ below (va_Ql post (Bz D A w1 KC KS pc1 ps1) A) args s (KC - s.heap.size) (KS - totS s.heap) A) (F0 m pc ls [.long v]) := by
  have Z := Y.pick is hn hs
  exact W.knows (fun g1 g2 _ _ => W.widen (by omega) (by omega) (W.lret X.1 X.2.1 hr (fun t ht hW => ⟨⟨v, u, rfl, hp, by rw [ht]; exact ⟨by omega, by omega⟩, by rw [ht]; exact Z.2.1, Z.2.2.1⟩, Y.2.2.2.1.F ht⟩) Y.2.2.2.1.2.2 hdg hk))
theorem eV {S : Type} {post : S → Prop} {w1 : S → List va_W} {mc ms : Nat} (X : CallFix p m c cc nL s args wALL own) (hr : meth.sig.returnType = none) (hk : meth.locks = false) (Y : Wd D τ s A s.heap (bl B) H locs)  (u : S) (hp : post u) (is : List Nat) (hn : va_nd is = true) (hs : is.map (fun i => B[i]?) = (w1 u).map some) (hc : cells ≤ mc) (hs2 : slots ≤ ms) (hdg : decode cc pc = .ok (.return_, 1)) : W p l e R s m args below meth c H locs cells slots (MQ below (va_Qv post (Bb D A w1) A) args s mc ms A) (F0 m pc ls []) := by
  have Z := Y.pick is hn hs
  exact W.widen hc hs2 (W.vret X.1 X.2.1 hr (fun t ht hW => ⟨⟨u, rfl, hp, by rw [ht]; exact Z.2.1, Z.2.2.1⟩, Y.2.2.2.1.F ht⟩) Y.2.2.2.1.2.2 hdg hk)
theorem eVz {S : Type} {post : S → Prop} {w1 : S → List va_W} {pc1 ps1 : S → Nat} {F L KC KS : Nat} (X : CallFix p m c cc nL s args wALL own) (hr : meth.sig.returnType = none) (hk : meth.locks = false) (Y : Wd D τ s A s.heap (bl B) H locs)  (u : S) (hp : post u) (is : List Nat) (hn : va_nd is = true) (hs : is.map (fun i => B[i]?) = (w1 u).map some) (hz1 : s.heap.size + cells + pc1 u ≤ KC) (hz2 : totS s.heap + slots + ps1 u ≤ KS) (hdg : decode cc pc = .ok (.return_, 1)) : W p l e { frames := F, cells := KC - s.heap.size, slots := KS - totS s.heap, locals := L } s m args below meth c H locs cells slots (MQ below (va_Qv post (Bz D A w1 KC KS pc1 ps1) A) args s (KC - s.heap.size) (KS - totS s.heap) A) (F0 m pc ls []) := by
  have Z := Y.pick is hn hs
  exact W.knows (fun g1 g2 _ _ => W.widen (by omega) (by omega) (W.vret X.1 X.2.1 hr (fun t ht hW => ⟨⟨u, rfl, hp, by rw [ht]; exact ⟨by omega, by omega⟩, by rw [ht]; exact Z.2.1, Z.2.2.1⟩, Y.2.2.2.1.F ht⟩) Y.2.2.2.1.2.2 hdg hk))
theorem eQ {S : Type} {post : Option Nat → S → Prop} {w1 : S → List va_W} {mc ms : Nat} {C : String} {r : Option Nat} (X : CallFix p m c cc nL s args wALL own) (hr : meth.sig.returnType = some (.object C)) (hk : meth.locks = false) (Y : Wd D τ s A s.heap (bl B) H locs) (u : S) (hp : post r u) (is : List Nat) (hn : va_nd is = true) (hs : is.map (fun i => B[i]?) = (w1 u).map some) (hc : cells ≤ mc) (hs2 : slots ≤ ms) (hdg : decode cc pc = .ok (.areturn, 1)) : W p l e R s m args below meth c H locs cells slots (MQ below (va_Qq post (Bb D A w1) A) args s mc ms A) (F0 m pc ls [va_rf r]) := by
  have Z := Y.pick is hn hs
  exact W.widen hc hs2 (W.aret (v := va_rf r) X.1 X.2.1 hr (Or.inl ⟨C, rfl⟩) (by cases r with
    | none => exact Or.inl rfl
    | some a => exact Or.inr ⟨a, rfl⟩) (fun t ht hW => ⟨⟨r, u, rfl, hp, by rw [ht]; exact Z.2.1, Z.2.2.1⟩, Y.2.2.2.1.F ht⟩) Y.2.2.2.1.2.2 hdg hk)
theorem eQz {S : Type} {post : Option Nat → S → Prop} {w1 : S → List va_W} {pc1 ps1 : S → Nat} {F L KC KS : Nat} {C : String} {r : Option Nat} (X : CallFix p m c cc nL s args wALL own) (hr : meth.sig.returnType = some (.object C)) (hk : meth.locks = false) (Y : Wd D τ s A s.heap (bl B) H locs) (u : S) (hp : post r u) (is : List Nat) (hn : va_nd is = true) (hs : is.map (fun i => B[i]?) = (w1 u).map some) (hz1 : s.heap.size + cells + pc1 u ≤ KC) (hz2 : totS s.heap + slots + ps1 u ≤ KS) (hdg : decode cc pc = .ok (.areturn, 1)) : W p l e { frames := F, cells := KC - s.heap.size, slots := KS - totS s.heap, locals := L } s m args below meth c H locs cells slots (MQ below (va_Qq post (Bz D A w1 KC KS pc1 ps1) A) args s (KC - s.heap.size) (KS - totS s.heap) A) (F0 m pc ls [va_rf r]) := by
  have Z := Y.pick is hn hs
  exact W.knows (fun g1 g2 _ _ => W.widen (by omega) (by omega) (W.aret (v := va_rf r) X.1 X.2.1 hr (Or.inl ⟨C, rfl⟩) (by cases r with
    | none => exact Or.inl rfl
    | some a => exact Or.inr ⟨a, rfl⟩) (fun t ht hW => ⟨⟨r, u, rfl, hp, by rw [ht]; exact ⟨by omega, by omega⟩, by rw [ht]; exact Z.2.1, Z.2.2.1⟩, Y.2.2.2.1.F ht⟩) Y.2.2.2.1.2.2 hdg hk))
end TC
