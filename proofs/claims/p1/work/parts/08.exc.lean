section
variable {p : Program} {l : Launch} {e : Env} {R : Room} {s : State} {m : MethodId} {args : Array Value} {below : List Frame} {meth : Method} {c : Code} {H : Heap} {locs : List Loc} {cells slots : Nat} {Q : State → Prop}
variable {mc ms : Nat} {free : Addr → Prop} {A0 A1 : Nat → Prop} {H0 : Heap} {a : Array Value} {pc : Nat} {ls : Array Slot} {st0 rest : List Value}
theorem vx_callq {S SX : Type} {post : Option Nat → S → Prop} {px : SX → Prop} {B : S → State → Prop} {BX : String → SX → State → Prop} {AX : Nat → Prop} (hr : vx_Run p l e R s m args below meth c H locs cells slots mc ms (F0 m pc ls st0) rest (va_Qq post B A1 a) (vx_X px BX AX) free) (hS : va_S A0 H0 H locs) (hA : ∀ q, q < H.size → A1 q → A0 q) (hf : ∀ q, free q → A0 q) (hAX : ∀ q, q < H.size → AX q → A0 q)
    (kx : ∀ (E : String) (ce : Cell) (q9 : Addr) (u : SX) (t : State) (H1 : Heap) (locs1 : List Loc), t.heap = H1 → s.vm.Alike t.vm → px u → BX E u t → H.size ≤ H1.size → (∀ q : Nat, q < H.size → ¬ AX q → H1[q]? = H[q]?) → va_S A0 H0 H1 locs1 → H1[q9]? = some ce → ce.vm = .none → s.vm.findClass E = some ce.cls → vx_W p l e R s m args below meth c H1 locs1 (cells + mc) (slots + ms) Q (F0 m pc ls rest) q9)
    (kk : ∀ (r : Option Nat) (u : S) (t : State) (H1 : Heap) (locs1 : List Loc), t.heap = H1 → s.vm.Alike t.vm → post r u → B u t → H.size ≤ H1.size → (∀ q : Nat, q < H.size → ¬ A1 q → H1[q]? = H[q]?) → va_S A0 H0 H1 locs1 → W p l e R s m args below meth c H1 locs1 (cells + mc) (slots + ms) Q (F0 m (pc + 3) ls (va_rf r :: rest))) : W p l e R s m args below meth c H locs cells slots Q (F0 m pc ls st0) := by
  intro T hT X
  rcases hr T hT X with ⟨v, st₀, t, T', L, h0, X', hL, e1, e2, ⟨⟨r, u, hv, hp, hb⟩, hF⟩, st⟩ | ⟨q, st₀, t, T', L, E, ce, h0, X', hL, e1, e2, ⟨u, hp, hb, hF⟩, hce, hcv, hcl, st⟩
  · cases hv
    obtain ⟨k1, k2, k3⟩ := vx_keep h0 e1 hS hA hf hL hF
    obtain ⟨t2, a1, b1⟩ := kk r u t T'.heap (locs ++ L) e1.symm (by rw [← e2]; exact X'.warmed.alike) hp hb k1 k2 k3 T' rfl X'
    exact ⟨t2, st t2 a1, b1⟩
  · obtain ⟨k1, k2, k3⟩ := vx_keep h0 e1 hS hAX hf hL hF
    obtain ⟨t2, a1, b1⟩ := kx E ce q u t T'.heap (locs ++ L) e1.symm (by rw [← e2]; exact X'.warmed.alike) hp hb k1 k2 k3 (by rw [e1]; exact hce) hcv hcl T' rfl X'
    exact ⟨t2, st.trans a1, b1⟩
end
/-! methods that throw: a start that knows the statics of Throwable, an end with E, calls that hand it on -/
def Tz (A : Nat → Prop) (U : State) : Prop := vx_Zq Bundle.tN "UNASSIGNED_STACK" Bundle.steD A U U.heap ∧ vx_Zq Bundle.tN "SUPPRESSED_SENTINEL" Bundle.listD A U U.heap
def PwX (D : va_G) (τ : Nat → ClassId) (wc : va_W) (sz : Nat) (av : List Value) : Array Value → State → Prop := va_Pc av (fun U => U.heap.size = sz ∧ va_P D vwCl wc U.heap ∧ Gw D τ U ∧ va_D (fun _ => True) wc ∧ Tz (va_A wc sz) U)
theorem Tz.call {A : Nat → Prop} {a : Array Value} {U : State} {g : JFrame} {mk : MethodId} (h : Tz A U) : Tz A (U.calling g mk a) := ⟨vx_Zq.moved (u := U) (U := U.calling g mk a) (Vm.Alike.refl U.vm) h.1, vx_Zq.moved (u := U) (U := U.calling g mk a) (Vm.Alike.refl U.vm) h.2⟩
theorem PwX.blind {D : va_G} {τ : Nat → ClassId} {wc : va_W} {sz : Nat} {av : List Value} : FrameBlind (PwX D τ wc sz av) := fun a U g mk q => by
  obtain ⟨q0, q1, qP, qK, qD, qT⟩ := q
  exact ⟨q0, q1, qP, qK.call, qD, qT.call⟩
/-- what is known of a throw: which class, and what stays -/
def XQ (P : String → Prop) (A : Nat → Prop) : String → State → State → Prop := vx_X (fun _ : Unit => True) (fun E _ _ => P E) A
section TX
variable {p : Program} {l : Launch} {e : Env} {R : Room} {s : State} {m : MethodId} {args : Array Value} {below : List Frame} {meth : Method} {c : Code} {H : Heap} {locs : List Loc} {cells slots : Nat} {Q : State → Prop}
variable {cc : ByteArray} {pc nL : Nat} {ls : Array Slot} {rest : List Value} {own : String} {D : va_G} {τ : Nat → ClassId} {A : Nat → Prop} {H0 : Heap} {ws : va_W}
theorem bodyX {y : MethodName} {b : ByteArray} {n : Nat} {ret : Option FieldType} {rm : Room} {av : List Value} {wc : va_W} {sz : Nat} {Qc : Array Value → State → Outcome → State → Prop} {XC : String → State → State → Prop} {mc ms : Nat} {free : Addr → Prop} (hy : plainName y.cls = true) (hn : (lg_sl av).length ≤ n)
    (k : ∀ (p : Program) (e : Env) (s : State) (m : MethodId) (below : List Frame) (meth : Method) (c : Code) (ls : Array Slot), CallFix p m c b n s av.toArray wALL y.cls → meth.sig.returnType = ret → meth.locks = false → (∀ x ∈ c.exceptionTable.toList, False) → s.heap.size = sz → Wd D τ s (va_A wc sz) s.heap wc s.heap [] → Tz (va_A wc sz) s → lv_has ls n (lv_args 0 av) → W p l e rm s m av.toArray below meth c s.heap [] 0 0 (vx_MQ below Qc XC av.toArray s mc ms free) (F0 m 0 ls [])) :
    vx_Met l y (Cond.code y b n ret :: wALL) rm (PwX D τ wc sz av) Qc XC mc ms free := by
  refine vx_ofW (cc := b) (maxL := n) (ret := ret) hy rfl ?_
  intro p e s m args below meth c s₁ B hml ht hv
  obtain ⟨rfl, hsz, hP, hK, hD0, hT⟩ := hv
  have hts := atoms_spec (ws := Cond.code y b n ret :: wALL) B.pre
  have hts : ∀ w ∈ wALL, w.before _ s = true := fun w h => hts w (List.mem_cons_of_mem _ h)
  subst hsz
  have hl := lv_entry av (n := n) hn
  rw [lg_entry_eq]
  exact k p e s m below meth c _ ⟨B.exec, B.bytes, hml, findClass_of_methodNamed B.named, hts⟩ B.returns B.notSynchronized ht rfl ⟨hK, hP, hD0.self, va_S.rf, fun q h => Or.inr h⟩ hT hl
/-- the statics seen from a call -/
theorem Tz.sub {wc : va_W} {A0 : Nat → Prop} {U : State} (T : Tz A0 s) (Y : Wd D τ s A0 s.heap ws H locs) (hU : U.heap = H) (hW : s.WarmedH U.vm) (hF : ∀ q, va_A wc H.size q → A0 q) : Tz (va_A wc H.size) U := by
  have hk : ∀ a : Nat, a < s.heap.size → ¬ A0 a → H[a]? = s.heap[a]? := fun a h1 h2 => Y.2.2.2.1.2.1 a h1 h2
  refine ⟨?_, ?_⟩
  · rw [hU]; exact vx_Zq.narrow (vx_Zq.moved hW.alike (vx_Zq.kept T.1 hk)) hF
  · rw [hU]; exact vx_Zq.narrow (vx_Zq.moved hW.alike (vx_Zq.kept T.2 hk)) hF
theorem rVX {y : MethodName} {bytes : ByteArray} {maxL n index mc ms : Nat} {ret : Option FieldType} {rm : Room} {Qc : Array Value → State → Outcome → State → Prop} {XC : String → State → State → Prop} {free : Addr → Prop} {As : List Value} {b ci q0 N : Nat} {T : u_T} {fs : List Value} {wc : va_W} {st0 : List Value}
    (B : CallFix p m c cc nL s args wALL own) (Y : Wd D τ s A s.heap ws H locs) (hT : Tz A s) (is : List Nat) (hn : va_nd is = true) (hC : is.map (fun i => ws[i]?) = wc.map some)
    (hM : vx_Met l y (Cond.code y bytes maxL ret :: wALL) rm (PwX D τ wc H.size (.ref b :: As)) Qc XC mc ms free) (he : ws[q0]? = some (b, .inr (ci, fs))) (hc : vwCl[ci]? = some (y.cls, T, N))
    (k1 : Cond.methodLink own index y ∈ wALL) (k2 : Cond.instanceMethod y ∈ wALL) (k3 : Cond.selects y.cls y y ∈ wALL) (k4 : Cond.initialized y.cls ∈ wALL) (k5 : Cond.code y bytes maxL ret ∈ wALL) (hrc : rm.cells = mc) (hrs : rm.slots = ms)
    (hd : y.cls ≠ "java/lang/invoke/MethodHandle" ∧ y.cls ≠ "java/lang/invoke/VarHandle" ∧ (parseMethodDescriptor y.desc).map (fun d => d.parameters.length) = some n) (hR : rm.frames + 1 ≤ R.frames ∧ 8 + (maxL + 11) + rm.locals ≤ R.locals) (hAs : As.length = n) (hls : ls.size = nL) (hst : st0 = As.reverse ++ .ref b :: rest) (hrest : (rest.map fun v => v.category).sum ≤ 8) (hdg : decode cc pc = .ok (.invokevirtual index, 3)) (hf : cells + mc ≤ R.cells ∧ slots + ms ≤ R.slots) :
    vx_Run p l e R s m args below meth c H locs cells slots mc ms (F0 m pc ls st0) rest (Qc (Value.ref b :: As).toArray) XC free := by
  have Z := Y.sub is hn hC
  have hFc := va_free (wc := wc) Y.2.2.1 Y.2.2.2.1 Y.2.2.2.2 is hC
  have hG : GoodIn wALL (wsV own index y.cls y (Cond.code y bytes maxL ret :: wALL)) := by
    intro w hw
    rcases List.mem_append.mp (by unfold wsV at hw; exact hw) with h | h
    · simp only [List.mem_cons, List.not_mem_nil, or_false] at h
      rcases h with rfl | rfl | rfl | rfl
      · exact ⟨k1, wALL_good k1⟩
      · exact ⟨k2, wALL_good k2⟩
      · exact ⟨k3, wALL_good k3⟩
      · exact ⟨k4, wALL_good k4⟩
    · exact gALL k5 w h
  exact vx_runV (As := As) (rest := rest) B hM (cwV n B.2.2.2.2 hG rfl hrc hrs ⟨rfl, hd⟩ hR) ⟨PwX.blind, va_recv Y.1.1 Y.2.1 hc he, fun U hU hW => ⟨rfl, by rw [hU], by rw [hU]; exact Z.2.1, Z.1.warm hW, Z.2.2.1.weaken (fun _ _ _ _ => trivial), hT.sub Y hU hW hFc⟩⟩ rfl hAs hls hst (lv_room hrest) hdg hf
theorem rSX {y : MethodName} {bytes : ByteArray} {maxL n index mc ms : Nat} {ret : Option FieldType} {rm : Room} {Qc : Array Value → State → Outcome → State → Prop} {XC : String → State → State → Prop} {free : Addr → Prop} {As : List Value} {wc : va_W} {st0 : List Value}
    (B : CallFix p m c cc nL s args wALL own) (Y : Wd D τ s A s.heap ws H locs) (hT : Tz A s) (is : List Nat) (hn : va_nd is = true) (hC : is.map (fun i => ws[i]?) = wc.map some)
    (hM : vx_Met l y (Cond.code y bytes maxL ret :: wALL) rm (PwX D τ wc H.size As) Qc XC mc ms free)
    (k1 : Cond.methodLink own index y ∈ wALL) (k2 : Cond.static y ∈ wALL) (k4 : Cond.initialized y.cls ∈ wALL) (k5 : Cond.code y bytes maxL ret ∈ wALL) (hrc : rm.cells = mc) (hrs : rm.slots = ms)
    (hd : y.cls ≠ "java/lang/invoke/MethodHandle" ∧ y.cls ≠ "java/lang/invoke/VarHandle" ∧ (parseMethodDescriptor y.desc).map (fun d => d.parameters.length) = some n) (hR : rm.frames + 1 ≤ R.frames ∧ 8 + (maxL + 11) + rm.locals ≤ R.locals) (hAs : As.length = n) (hls : ls.size = nL) (hst : st0 = As.reverse ++ rest) (hrest : (rest.map fun v => v.category).sum ≤ 8) (hdg : decode cc pc = .ok (.invokestatic index, 3)) (hf : cells + mc ≤ R.cells ∧ slots + ms ≤ R.slots) :
    vx_Run p l e R s m args below meth c H locs cells slots mc ms (F0 m pc ls st0) rest (Qc As.toArray) XC free := by
  have Z := Y.sub is hn hC
  have hts := B.2.2.2.2
  have hFc := va_free (wc := wc) Y.2.2.1 Y.2.2.2.1 Y.2.2.2.2 is hC
  exact vx_runS (As := As) (rest := rest) B hM ⟨callB_of n hts (gALL k5) rfl hrc hrs (hts _ k4) (hts _ k1) hd hR, hts _ k2⟩ ⟨PwX.blind, fun U hU hW => ⟨rfl, by rw [hU], by rw [hU]; exact Z.2.1, Z.1.warm hW, Z.2.2.1.weaken (fun _ _ _ _ => trivial), hT.sub Y hU hW hFc⟩⟩ rfl hAs hls hst (lv_room hrest) hdg hf
/-- what is thrown by a callee goes on -/
theorem goOn {Qc : Array Value → State → Outcome → State → Prop} {P : String → Prop} {E : String} {ce : Cell} {q : Nat} {MC MS : Nat} (hP : P E) (ht : ∀ x ∈ c.exceptionTable.toList, False) (hlk : meth.locks = false) (hS : va_S A s.heap H locs) (hc : cells ≤ MC) (hs : slots ≤ MS) (h1 : H[q]? = some ce) (h2 : ce.vm = .none) (h3 : s.vm.findClass E = some ce.cls) :
    vx_W p l e R s m args below meth c H locs cells slots (vx_MQ below Qc (XQ P A) args s MC MS A) (F0 m pc ls rest) q :=
  vx_out (fun x hx => absurd (ht x hx) id) hlk h1 h2 h3 (fun t ht _ => ⟨(), trivial, hP, hS.F ht⟩) hS.2.2 hc hs
theorem retVX {S : Type} {post : S → Prop} {w1 : S → va_W} {mc ms MC MS : Nat} {wc wr : va_W} {a : Array Value} {st0 : List Value} {P P' : String → Prop} {Qc : Array Value → State → Outcome → State → Prop} (ht : ∀ x ∈ c.exceptionTable.toList, False) (hlk : meth.locks = false) (Y : Wd D τ s A s.heap ws H locs) (is ir : List Nat) (hC : is.map (fun i => ws[i]?) = wc.map some) (hR : ir.map (fun i => ws[i]?) = wr.map some) (hn : va_nd ir = true) (hdis : ∀ i ∈ ir, i ∉ is) (hPP : ∀ E, P E → P' E) (hc : cells + mc ≤ MC) (hs : slots + ms ≤ MS)
    (hr : vx_Run p l e R s m args below meth c H locs cells slots mc ms (F0 m pc ls st0) rest (va_Qv post (Bw D (va_A wc H.size) w1) (va_A wc H.size) a) (XQ P (va_A wc H.size)) (va_A wc H.size))
    (kk : ∀ (u : S) (H1 : Heap) (locs1 : List Loc), post u → Wd D τ s A s.heap (wr ++ w1 u) H1 locs1 → W p l e R s m args below meth c H1 locs1 (cells + mc) (slots + ms) (vx_MQ below Qc (XQ P' A) args s MC MS A) (F0 m (pc + 3) ls rest)) : W p l e R s m args below meth c H locs cells slots (vx_MQ below Qc (XQ P' A) args s MC MS A) (F0 m pc ls st0) := by
  obtain ⟨hK, hP, hD, hS, hA⟩ := Y
  have hFc := va_free (wc := wc) hD hS hA is hC
  refine vx_callv hr hS (fun q _ h => hFc q h) hFc (fun q _ h => hFc q h) (fun E ce q9 u t H1 locs1 ht1 hvm hpx hBX hz1 hk1 hS1 g1 g2 g3 => ?_) (fun u t H1 locs1 ht1 hvm hw hB hz1 hk1 hS1 => ?_)
  · exact goOn (hPP E hBX) ht hlk hS1 hc hs g1 g2 g3
  · obtain ⟨hP1, hD1⟩ := hB
    rw [ht1] at hP1
    obtain ⟨hPj, hDj⟩ := va_join (wr := wr) (w1 := w1 u) hP hD is ir hC hR hn hdis hk1 hFc hP1 hD1
    exact kk u H1 locs1 hw ⟨hK, hPj, hDj, hS1, hA⟩
theorem retQX {S : Type} {post : Option Nat → S → Prop} {w1 : S → va_W} {mc ms MC MS : Nat} {wc wr : va_W} {a : Array Value} {st0 : List Value} {P P' : String → Prop} {Qc : Array Value → State → Outcome → State → Prop} (ht : ∀ x ∈ c.exceptionTable.toList, False) (hlk : meth.locks = false) (Y : Wd D τ s A s.heap ws H locs) (is ir : List Nat) (hC : is.map (fun i => ws[i]?) = wc.map some) (hR : ir.map (fun i => ws[i]?) = wr.map some) (hn : va_nd ir = true) (hdis : ∀ i ∈ ir, i ∉ is) (hPP : ∀ E, P E → P' E) (hc : cells + mc ≤ MC) (hs : slots + ms ≤ MS)
    (hr : vx_Run p l e R s m args below meth c H locs cells slots mc ms (F0 m pc ls st0) rest (va_Qq post (Bw D (va_A wc H.size) w1) (va_A wc H.size) a) (XQ P (va_A wc H.size)) (va_A wc H.size))
    (kk : ∀ (r : Option Nat) (u : S) (H1 : Heap) (locs1 : List Loc), post r u → Wd D τ s A s.heap (wr ++ w1 u) H1 locs1 → W p l e R s m args below meth c H1 locs1 (cells + mc) (slots + ms) (vx_MQ below Qc (XQ P' A) args s MC MS A) (F0 m (pc + 3) ls (va_rf r :: rest))) : W p l e R s m args below meth c H locs cells slots (vx_MQ below Qc (XQ P' A) args s MC MS A) (F0 m pc ls st0) := by
  obtain ⟨hK, hP, hD, hS, hA⟩ := Y
  have hFc := va_free (wc := wc) hD hS hA is hC
  refine vx_callq hr hS (fun q _ h => hFc q h) hFc (fun q _ h => hFc q h) (fun E ce q9 u t H1 locs1 ht1 hvm hpx hBX hz1 hk1 hS1 g1 g2 g3 => ?_) (fun r u t H1 locs1 ht1 hvm hw hB hz1 hk1 hS1 => ?_)
  · exact goOn (hPP E hBX) ht hlk hS1 hc hs g1 g2 g3
  · obtain ⟨hP1, hD1⟩ := hB
    rw [ht1] at hP1
    obtain ⟨hPj, hDj⟩ := va_join (wr := wr) (w1 := w1 u) hP hD is ir hC hR hn hdis hk1 hFc hP1 hD1
    exact kk r u H1 locs1 hw ⟨hK, hPj, hDj, hS1, hA⟩
/-- throw new E("text"), E by its name -/
theorem t_throwW {cls text : String} {names : List String} {ik is ic MC MS : Nat} {P : String → Prop} {Qc : Array Value → State → Outcome → State → Prop} (B : CallFix p m c cc nL s args wALL own) (hl : l.stackTraces = false) (Y : Wd D τ s A s.heap ws H locs) (hT : Tz A s) (hcls : Bundle.fit cls = true) (hnames : ∀ n ∈ names, Bundle.fit n = true)
    (k1 : Cond.classLink own ik cls ∈ wALL) (k2 : Cond.initialized cls ∈ wALL) (k3 : (own, is, text) ∈ strW) (h1 : ∀ w ∈ (vx_atS own ic cls names).filter goodWord, w ∈ lw_tbl) (h2 : ∀ w ∈ (vx_atS own ic cls names).filter (fun w => !goodWord w), w ∈ castW ++ declW) (hg : ∀ w ∈ Cond.classLink own ik cls :: Cond.initialized cls :: vx_atS own ic cls names, vx_ot w = true)
    (hls : ls.size = nL) (d0 : decode cc pc = .ok (.new ik, 3)) (d3 : decode cc (pc + 3) = .ok (.dup, 1)) (d4 : decode cc (pc + 4) = .ok (.ldc_w is, 3)) (d7 : decode cc (pc + 7) = .ok (.invokespecial ic, 3)) (d10 : decode cc (pc + 10) = .ok (.athrow, 1)) (ht : ∀ x ∈ c.exceptionTable.toList, False) (hlk : meth.locks = false)
    (hRf : names.length + 3 < R.frames) (hRl : (rest.map fun v => v.category).sum + (13 * (names.length + 1) + 43) ≤ R.locals) (hRc : cells + 1 ≤ R.cells) (hRs : slots + 6 ≤ R.slots) (hP : P cls) (hc : cells + 1 ≤ MC) (hs : slots + 6 ≤ MS) :
    W p l e R s m args below meth c H locs cells slots (vx_MQ below Qc (XQ P A) args s MC MS A) (F0 m pc ls rest) := by
  have hts := B.2.2.2.2
  obtain ⟨sa, hstr⟩ := Y.1.2.2.2.2.2.2.2.2 _ k3
  have hat : ∀ w ∈ vx_atS own ic cls names, w.before args s = true := vx_hat (B := castW ++ declW) (fun w hw => hts w (wALL_of (h1 w hw) (List.mem_filter.mp hw).2)) h2 (fun w hw => (List.mem_append.mp hw).elim (fun h => by
    obtain ⟨a, b, rfl⟩ := castW_is w h
    exact va_Nw.use rfl (Y.1.2.2.2.2.2.2.1 _ h)) (fun h => by
    obtain ⟨x, rfl⟩ := declW_is w h
    exact va_Nw.use rfl (Y.1.2.2.2.2.2.2.2.1 _ h)))
  refine vx_throwSW B.1 B.2.1 hl (text := text) B.2.2.2.1 hcls hnames (hts _ k1) (hts _ k2) hstr hat hg hT.1 hT.2 Y.2.2.2.1 (by rw [B.2.2.1]; exact hls) d0 d3 d4 d7 d10 (fun x hx => absurd (ht x hx) id) hRf hRl hRc hRs hlk (fun t _ hz hk => ⟨(), trivial, hP, ?_⟩) Y.2.2.2.1.2.2 hc hs
  exact ⟨Nat.le_trans Y.2.2.2.1.1 hz, fun q h3 h4 => (hk q (Nat.lt_of_lt_of_le h3 Y.2.2.2.1.1)).trans (Y.2.2.2.1.2.1 q h3 h4)⟩
end TX
section TX2
variable {p : Program} {l : Launch} {e : Env} {R : Room} {s : State} {m : MethodId} {args : Array Value} {below : List Frame} {meth : Method} {c : Code} {H : Heap} {locs : List Loc} {cells slots : Nat}
variable {cc : ByteArray} {pc nL : Nat} {ls : Array Slot} {rest : List Value} {D : va_G} {τ : Nat → ClassId} {A : Nat → Prop} {ws : va_W}
theorem retIX {S : Type} {post : Int32 → S → Prop} {w1 : S → va_W} {mc ms MC MS : Nat} {wc wr : va_W} {a : Array Value} {st0 : List Value} {P P' : String → Prop} {Qc : Array Value → State → Outcome → State → Prop} (ht : ∀ x ∈ c.exceptionTable.toList, False) (hlk : meth.locks = false) (Y : Wd D τ s A s.heap ws H locs) (is ir : List Nat) (hC : is.map (fun i => ws[i]?) = wc.map some) (hR : ir.map (fun i => ws[i]?) = wr.map some) (hn : va_nd ir = true) (hdis : ∀ i ∈ ir, i ∉ is) (hPP : ∀ E, P E → P' E) (hc : cells + mc ≤ MC) (hs : slots + ms ≤ MS)
    (hr : vx_Run p l e R s m args below meth c H locs cells slots mc ms (F0 m pc ls st0) rest (va_Qi post (Bw D (va_A wc H.size) w1) (va_A wc H.size) a) (XQ P (va_A wc H.size)) (va_A wc H.size))
    (kk : ∀ (r : Int32) (u : S) (H1 : Heap) (locs1 : List Loc), post r u → Wd D τ s A s.heap (wr ++ w1 u) H1 locs1 → W p l e R s m args below meth c H1 locs1 (cells + mc) (slots + ms) (vx_MQ below Qc (XQ P' A) args s MC MS A) (F0 m (pc + 3) ls (.int r :: rest))) : W p l e R s m args below meth c H locs cells slots (vx_MQ below Qc (XQ P' A) args s MC MS A) (F0 m pc ls st0) := by
  obtain ⟨hK, hP, hD, hS, hA⟩ := Y
  have hFc := va_free (wc := wc) hD hS hA is hC
  refine vx_calli hr hS (fun q _ h => hFc q h) hFc (fun q _ h => hFc q h) (fun E ce q9 u t H1 locs1 ht1 hvm hpx hBX hz1 hk1 hS1 g1 g2 g3 => ?_) (fun r u t H1 locs1 ht1 hvm hw hB hz1 hk1 hS1 => ?_)
  · exact goOn (hPP E hBX) ht hlk hS1 hc hs g1 g2 g3
  · obtain ⟨hP1, hD1⟩ := hB
    rw [ht1] at hP1
    obtain ⟨hPj, hDj⟩ := va_join (wr := wr) (w1 := w1 u) hP hD is ir hC hR hn hdis hk1 hFc hP1 hD1
    exact kk r u H1 locs1 hw ⟨hK, hPj, hDj, hS1, hA⟩
end TX2
