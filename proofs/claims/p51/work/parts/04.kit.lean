/-! the words that a method may hand on; a body's facts; a world's facts; the kit's rows in a short form -/
def wALL : List Cond := lw_tbl.filter goodWord
theorem wALL_of {w : Cond} (h : w ∈ lw_tbl) (g : goodWord w = true) : w ∈ wALL := List.mem_filter.mpr ⟨h, g⟩
theorem wALL_t {w : Cond} (h : w ∈ tables_1) (g : goodWord w = true) : w ∈ wALL := wALL_of (List.mem_append_right _ h) g
theorem wALL_p {w : Cond} (h : w ∈ k2_sels lw_privs) (g : goodWord w = true) : w ∈ wALL := wALL_of (List.mem_append_left _ h) g
theorem wALL_good {w : Cond} (h : w ∈ wALL) : (w.onTables && w.keeps) = true ∨ ∃ ty, w = .arrayClass ty := good_of_word (List.mem_filter.mp h).2
theorem gALL {w : Cond} (h : w ∈ wALL) : GoodIn wALL (w :: wALL) := fun v hv => (List.mem_cons.mp hv).elim (fun e => by rw [e]; exact ⟨h, wALL_good h⟩) (fun h2 => ⟨h2, wALL_good h2⟩)
theorem inX0 : ∀ w ∈ wsX00, w ∈ wALL := fun w h => wALL_of (iX0 w h) (gwX0 w h)
theorem inX1 : ∀ w ∈ wsX10, w ∈ wALL := fun w h => wALL_of (iX1 w h) (gwX1 w h)
theorem inX2 : ∀ w ∈ wsX20, w ∈ wALL := fun w h => wALL_of (iX2 w h) (gwX2 w h)
theorem inX3 : ∀ w ∈ wsX30, w ∈ wALL := fun w h => wALL_of (iX3 w h) (gwX3 w h)
theorem inX4 : ∀ w ∈ wsX40, w ∈ wALL := fun w h => wALL_of (iX4 w h) (gwX4 w h)
theorem inX5 : ∀ w ∈ wsX50, w ∈ wALL := fun w h => wALL_of (iX5 w h) (gwX5 w h)
theorem inX6 : ∀ w ∈ wsX60, w ∈ wALL := fun w h => wALL_of (iX6 w h) (gwX6 w h)
theorem inX7 : ∀ w ∈ wsX70, w ∈ wALL := fun w h => wALL_of (iX7 w h) (gwX7 w h)
theorem inX8 : ∀ w ∈ wsX80, w ∈ wALL := fun w h => wALL_of (iX8 w h) (gwX8 w h)
theorem inX9 : ∀ w ∈ wsX90, w ∈ wALL := fun w h => wALL_of (iX9 w h) (gwX9 w h)
theorem inJ0 : ∀ w ∈ wsJ00, w ∈ wALL := fun w h => wALL_of (iJ0 w h) (gwJ0 w h)
theorem inJ4 : ∀ w ∈ wsJ40, w ∈ wALL := fun w h => wALL_of (iJ4 w h) (gwJ4 w h)
abbrev gTys (τ : Nat → ClassId) : List (ClassId × FieldType) := [(τ 0, .int), (τ 1, .byte), (τ 2, .boolean), (τ 3, .object "FragmentPath$Link"), (τ 4, .object "FragmentPath$Datagram"), (τ 5, .object "FragmentPath$Heap"), (τ 6, .object "FragmentPath$State")]
/-- the links of private constructors among nest mates -/
def nestW : List Cond := [(Jvm.Cond.methodLinkNest "FragmentPath" (9 : Nat) ({ cls := "FragmentPath$Reader", name := "<init>", desc := "()V" } : Jvm.MethodName) "FragmentPath"), (Jvm.Cond.methodLinkNest "FragmentPath" (18 : Nat) ({ cls := "FragmentPath$Text", name := "<init>", desc := "()V" } : Jvm.MethodName) "FragmentPath"), (Jvm.Cond.methodLinkNest "FragmentPath$State" (63 : Nat) ({ cls := "FragmentPath$Notes", name := "<init>", desc := "()V" } : Jvm.MethodName) "FragmentPath"), (Jvm.Cond.methodLinkNest "FragmentPath$State" (70 : Nat) ({ cls := "FragmentPath$Accounts", name := "<init>", desc := "()V" } : Jvm.MethodName) "FragmentPath"), (Jvm.Cond.methodLinkNest "FragmentPath$State" (75 : Nat) ({ cls := "FragmentPath$Link", name := "<init>", desc := "()V" } : Jvm.MethodName) "FragmentPath"), (Jvm.Cond.methodLinkNest "FragmentPath$State" (76 : Nat) ({ cls := "FragmentPath$Datagram", name := "<init>", desc := "()V" } : Jvm.MethodName) "FragmentPath"), (Jvm.Cond.methodLinkNest "FragmentPath$State" (77 : Nat) ({ cls := "FragmentPath$Heap", name := "<init>", desc := "()V" } : Jvm.MethodName) "FragmentPath"), (Jvm.Cond.methodLinkNest "FragmentPath$Notes" (49 : Nat) ({ cls := "FragmentPath", name := "valueIn", desc := "([II)I" } : Jvm.MethodName) "FragmentPath"), (Jvm.Cond.methodLinkNest "FragmentPath$Reader" (49 : Nat) ({ cls := "FragmentPath", name := "valueIn", desc := "([II)I" } : Jvm.MethodName) "FragmentPath"), (Jvm.Cond.methodLinkNest "FragmentPath$Reader" (84 : Nat) ({ cls := "FragmentPath", name := "setIn", desc := "([III)V" } : Jvm.MethodName) "FragmentPath"), (Jvm.Cond.methodLinkNest "FragmentPath$State" (142 : Nat) ({ cls := "FragmentPath", name := "fullOf", desc := "(I)I" } : Jvm.MethodName) "FragmentPath"), (Jvm.Cond.methodLinkNest "FragmentPath$State" (138 : Nat) ({ cls := "FragmentPath", name := "cutsOf", desc := "(II)I" } : Jvm.MethodName) "FragmentPath"), (Jvm.Cond.methodLinkNest "FragmentPath$Notes" (33 : Nat) ({ cls := "FragmentPath", name := "setIn", desc := "([III)V" } : Jvm.MethodName) "FragmentPath"), (Jvm.Cond.methodLinkNest "FragmentPath$Packets" (58 : Nat) ({ cls := "FragmentPath", name := "valueIn", desc := "([II)I" } : Jvm.MethodName) "FragmentPath"), (Jvm.Cond.methodLinkNest "FragmentPath$State" (184 : Nat) ({ cls := "FragmentPath", name := "valueIn", desc := "([II)I" } : Jvm.MethodName) "FragmentPath"), (Jvm.Cond.methodLinkNest "FragmentPath$Packets" (72 : Nat) ({ cls := "FragmentPath", name := "setIn", desc := "([III)V" } : Jvm.MethodName) "FragmentPath")]
theorem nestW_is : ∀ w ∈ nestW, ∃ (a : String) (i : Nat) (x : MethodName) (h : String), w = .methodLinkNest a i x h := by
  intro w hw
  simp only [nestW, List.mem_cons, List.not_mem_nil, or_false] at hw
  rcases hw with rfl | rfl | rfl | rfl | rfl | rfl | rfl | rfl | rfl | rfl | rfl | rfl | rfl | rfl | rfl | rfl <;> exact ⟨_, _, _, _, rfl⟩
def castW : List Cond := [(Jvm.Cond.castable "java/lang/IllegalArgumentException" "java/lang/IllegalArgumentException"), (Jvm.Cond.castable "[I" "java/lang/Cloneable"), (Jvm.Cond.castable "java/lang/IllegalStateException" "java/lang/IllegalStateException"), (Jvm.Cond.castable "java/lang/IndexOutOfBoundsException" "java/lang/IndexOutOfBoundsException"), (Jvm.Cond.castable "[B" "java/lang/Cloneable")]
def declW : List Cond := [(Jvm.Cond.declares ({ cls := "java/lang/RuntimeException", name := "<init>", desc := "()V" } : Jvm.MethodName)), (Jvm.Cond.declares ({ cls := "java/lang/RuntimeException", name := "<init>", desc := "(Ljava/lang/String;)V" } : Jvm.MethodName)), (Jvm.Cond.declares ({ cls := "java/lang/Exception", name := "<init>", desc := "()V" } : Jvm.MethodName)), (Jvm.Cond.declares ({ cls := "java/lang/Exception", name := "<init>", desc := "(Ljava/lang/String;)V" } : Jvm.MethodName)), (Jvm.Cond.declares ({ cls := "java/lang/Throwable", name := "<init>", desc := "()V" } : Jvm.MethodName)), (Jvm.Cond.declares ({ cls := "java/lang/Throwable", name := "<init>", desc := "(Ljava/lang/String;)V" } : Jvm.MethodName))]
def strW : List (String × Nat × String) := [("FragmentPath", 450, "a number is out of its range"), ("FragmentPath", 441, "nothing was saved"), ("FragmentPath", 64, "the input buffer would exceed its length"), ("FragmentPath$Reader", 119, "link"), ("FragmentPath$Reader", 121, "life"), ("FragmentPath$Reader", 123, "policy"), ("FragmentPath$Reader", 125, "send"), ("FragmentPath$Reader", 127, "again"), ("FragmentPath$Reader", 129, "probe"), ("FragmentPath$Reader", 131, "forge"), ("FragmentPath$Reader", 133, "size"), ("FragmentPath$Reader", 135, "every"), ("FragmentPath$Reader", 137, "pass"), ("FragmentPath$Reader", 148, "firm"), ("FragmentPath$Reader", 150, "more"), ("FragmentPath", 85, "the text has an error"), ("FragmentPath", 446, "there is no such link"), ("FragmentPath", 448, "there is no such datagram"), ("FragmentPath", 279, "there is no such packet"), ("FragmentPathLaw", 127, ""), ("FragmentPathLaw", 129, ";"), ("FragmentPathLaw", 134, "link "), ("FragmentPathLaw", 142, ";send "), ("FragmentPathLaw", 144, " firm"), ("FragmentPathLaw", 146, ";life "), ("FragmentPathLaw", 148, ";policy "), ("java/util/Arrays", 337, " > "), ("FragmentPath", 417, "the offset is not divisible by 8"), ("FragmentPathLaw", 217, "probe 50;pass 3;size 0 40;")]
theorem castW_is : ∀ w ∈ castW, ∃ (a b : String), w = .castable a b := by
  intro w hw
  simp only [castW, List.mem_cons, List.not_mem_nil, or_false] at hw
  rcases hw with rfl | rfl | rfl | rfl | rfl <;> exact ⟨_, _, rfl⟩
theorem declW_is : ∀ w ∈ declW, ∃ (x : MethodName), w = .declares x := by
  intro w hw
  simp only [declW, List.mem_cons, List.not_mem_nil, or_false] at hw
  rcases hw with rfl | rfl | rfl | rfl | rfl | rfl <;> exact ⟨_, rfl⟩
/-- the classes, the array classes, the words that are no good ones, the texts that constants stand for -/
def Gw (D : va_G) (τ : Nat → ClassId) (s : State) : Prop := va_K D vwCl (gTys τ) s ∧ (∀ w ∈ nestW, va_Nw w s) ∧ va_AO "FragmentPath$Link" s ∧ va_AO "FragmentPath$Datagram" s ∧ va_AO "FragmentPath$Heap" s ∧ va_AO "FragmentPath$State" s ∧ (∀ w ∈ castW, va_Nw w s) ∧ (∀ w ∈ declW, va_Nw w s) ∧ ∀ q ∈ strW, ∃ a : Nat, vk_R q.1 q.2.1 q.2.2 a s
theorem Gw.warm {D : va_G} {τ : Nat → ClassId} {s U : State} (hW : s.WarmedH U.vm) (g : Gw D τ s) : Gw D τ U := by
  obtain ⟨h1, h2, h3, h4, h5, h6, h7, h8, h9⟩ := g
  refine ⟨va_K.moved hW.alike h1, fun w hw => ?_, h3.moved hW.alike, h4.moved hW.alike, h5.moved hW.alike, h6.moved hW.alike, fun w hw => ?_, fun w hw => ?_, fun q hq => ?_⟩
  · obtain ⟨a, i, x, h, rfl⟩ := nestW_is w hw
    exact va_Nw.warmM hW (h2 _ hw)
  · obtain ⟨a, b, rfl⟩ := castW_is w hw
    exact va_Nw.warmC hW (h7 _ hw)
  · obtain ⟨x, rfl⟩ := declW_is w hw
    exact va_Nw.warmD hW (h8 _ hw)
  · obtain ⟨a, h⟩ := h9 q hq
    exact ⟨a, vk_R.warm hW h⟩
theorem Gw.call {D : va_G} {τ : Nat → ClassId} {a : Array Value} {U : State} {g : JFrame} {mk : MethodId} (h : Gw D τ U) : Gw D τ (U.calling g mk a) := by
  obtain ⟨h1, h2, h3, h4, h5, h6, h7, h8, h9⟩ := h
  have hA : U.vm.Alike (U.calling g mk a).vm := Vm.Alike.refl U.vm
  refine ⟨va_K.moved hA h1, fun w hw => ?_, h3.moved hA, h4.moved hA, h5.moved hA, h6.moved hA, fun w hw => ?_, fun w hw => ?_, fun q hq => ?_⟩
  · obtain ⟨b, i, x, h, rfl⟩ := nestW_is w hw
    exact va_Nw.same rfl rfl (h2 _ hw)
  · obtain ⟨b, c, rfl⟩ := castW_is w hw
    exact va_Nw.same rfl rfl (h7 _ hw)
  · obtain ⟨x, rfl⟩ := declW_is w hw
    exact va_Nw.same rfl rfl (h8 _ hw)
  · obtain ⟨b, h⟩ := h9 q hq
    exact ⟨b, vk_R.same (u := U) rfl h⟩
/-- a world, at a point of a walk -/
def Wd (D : va_G) (τ : Nat → ClassId) (s : State) (A : Nat → Prop) (H0 : Heap) (ws : va_W) (H : Heap) (locs : List Loc) : Prop := Gw D τ s ∧ va_P D vwCl ws H ∧ va_D A ws ∧ va_S A H0 H locs ∧ ∀ q, H0.size ≤ q → A q
/-- a start: a world of its own, and what X says of the state -/
def Pw (D : va_G) (τ : Nat → ClassId) (wc : va_W) (sz : Nat) (av : List Value) : Array Value → State → Prop := va_Pc av (fun U => U.heap.size = sz ∧ va_P D vwCl wc U.heap ∧ Gw D τ U ∧ va_D (fun _ => True) wc)
def Bw {S : Type} (D : va_G) (A : Nat → Prop) (w1 : S → va_W) : S → State → Prop := fun u t => va_P D vwCl (w1 u) t.heap ∧ va_D A (w1 u)
theorem Pw.blind {D : va_G} {τ : Nat → ClassId} {wc : va_W} {sz : Nat} {av : List Value} : FrameBlind (Pw D τ wc sz av) := fun a U g mk q => by
  obtain ⟨q0, q1, qP, qK, qD⟩ := q
  exact ⟨q0, q1, qP, qK.call, qD⟩
theorem map_filterMap {ws l : va_W} {is : List Nat} (h : is.map (fun i => ws[i]?) = l.map some) : is.filterMap (fun i => ws[i]?) = l := by
  induction is generalizing l with
  | nil => cases l with
    | nil => rfl
    | cons a l => cases h
  | cons i is ih =>
    cases l with
    | nil => cases h
    | cons a l =>
      simp only [List.map_cons, List.cons.injEq] at h
      rw [List.filterMap_cons, h.1]
      simp only [ih h.2]
section TK
variable {p : Program} {l : Launch} {e : Env} {R : Room} {s : State} {m : MethodId} {args : Array Value} {below : List Frame} {meth : Method} {c : Code} {H : Heap} {locs : List Loc} {cells slots : Nat} {Q : State → Prop}
variable {cc : ByteArray} {pc nL : Nat} {ls : Array Slot} {rest : List Value} {own : String} {D : va_G} {τ : Nat → ClassId} {A : Nat → Prop} {H0 : Heap} {ws : va_W}
theorem Wd.sub (Y : Wd D τ s A H0 ws H locs) (is : List Nat) {w : va_W} (hn : va_nd is = true) (hs : is.map (fun i => ws[i]?) = w.map some) : Wd D τ s A H0 w H locs :=
  ⟨Y.1, Y.2.1.sub is (map_filterMap hs), Y.2.2.1.sub is hn hs, Y.2.2.2.1, Y.2.2.2.2⟩
/-- a body, from its entry -/
theorem bodyW {y : MethodName} {b : ByteArray} {n : Nat} {ret : Option FieldType} {rm : Room} {av : List Value} {wc : va_W} {sz : Nat} {Qc : Array Value → State → Outcome → State → Prop} {mc ms : Nat} {free : Addr → Prop} (hy : plainName y.cls = true) (hn : (lg_sl av).length ≤ n)
    (k : ∀ (p : Program) (e : Env) (s : State) (m : MethodId) (below : List Frame) (meth : Method) (c : Code) (ls : Array Slot), CallFix p m c b n s av.toArray wALL y.cls → meth.sig.returnType = ret → meth.locks = false → meth.name = y.name → s.heap.size = sz → Wd D τ s (va_A wc sz) s.heap wc s.heap [] → lv_has ls n (lv_args 0 av) → W p l e rm s m av.toArray below meth c s.heap [] 0 0 (MQ below Qc av.toArray s mc ms free) (F0 m 0 ls [])) :
    Met l y (Cond.code y b n ret :: wALL) rm (Pw D τ wc sz av) Qc mc ms free := by
  refine Met.ofW (cc := b) (maxL := n) (ret := ret) hy rfl ?_
  intro p e s m args below meth c s₁ B hml hv
  obtain ⟨rfl, hsz, hP, hK, hD0⟩ := hv
  have hts := atoms_spec (ws := Cond.code y b n ret :: wALL) B.pre
  have hts : ∀ w ∈ wALL, w.before _ s = true := fun w h => hts w (List.mem_cons_of_mem _ h)
  subst hsz
  have hl := lv_entry av (n := n) hn
  rw [lg_entry_eq]
  exact k p e s m below meth c _ ⟨B.exec, B.bytes, hml, findClass_of_methodNamed B.named, hts⟩ B.returns B.notSynchronized (name_of_methodNamed B.named B.method).1 rfl ⟨hK, hP, hD0.self, va_S.rf, fun q h => Or.inr h⟩ hl
theorem t_get {ref C : String} {T : u_T} {N ci index k : Nat} {a : Nat} {fs : List Value} {v : Value} (B : CallFix p m c cc nL s args wALL own) (Y : Wd D τ s A H0 ws H locs) (hin : ∀ w ∈ u_ws C T N, w ∈ wALL) (hc : vwCl[ci]? = some (C, T, N)) (hk : k < N) (hq : Cond.fieldLink own index ref (T k).2.1 (T k).2.2.1 ∈ wALL) (hsame : ∀ x, s.fieldFound? (T k).1 (T k).2.1 (T k).2.2.1 = some x → s.fieldFound? ref (T k).2.1 (T k).2.2.1 = some x) (q0 : Nat) (he : ws[q0]? = some (a, .inr (ci, fs))) (hv : fs[k]? = some v) (hdg : decode cc pc = .ok (.getfield index, 3)) (kk : W p l e R s m args below meth c H locs cells slots Q (F0 m (pc + 3) ls (v :: rest))) : W p l e R s m args below meth c H locs cells slots Q (F0 m pc ls (.ref a :: rest)) :=
  va_get B.1 B.2.1 B.2.2.2.2 hin B.2.2.2.1 Y.1.1 Y.2.1 q0 he hc k hk (B.2.2.2.2 _ hq) hsame hv hdg kk
theorem t_put {ref C : String} {T : u_T} {N ci index k : Nat} {a : Nat} {fs : List Value} {v : Value} {ty : FieldType} {ty0 : Nat → FieldType} {ws' : va_W} (B : CallFix p m c cc nL s args wALL own) (Y : Wd D τ s A H0 ws H locs) (hin : ∀ w ∈ u_ws C T N, w ∈ wALL) (hty : ∀ k, k < N → parseFieldDescriptor (T k).2.2.1 = some (ty0 k)) (hnm : ∀ a, a < N → ∀ b, b < N → a ≠ b → (T a).2.1 ≠ (T b).2.1) (hc : vwCl[ci]? = some (C, T, N)) (hk : k < N) (hq : Cond.fieldLink own index ref (T k).2.1 (T k).2.2.1 ∈ wALL) (hsame : ∀ x, s.fieldFound? (T k).1 (T k).2.1 (T k).2.2.1 = some x → s.fieldFound? ref (T k).2.1 (T k).2.2.1 = some x) (hfin : (T k).2.2.2 = false) (hd : parseFieldDescriptor (T k).2.2.1 = some ty) (hn : narrow ty v = v) (hfit : fits ty v = true) (q0 : Nat) (he : ws[q0]? = some (a, .inr (ci, fs))) (hl : k < fs.length) (hw : ws.set q0 (a, .inr (ci, fs.set k v)) = ws') (hdg : decode cc pc = .ok (.putfield index, 3)) (kk : ∀ (H1 : Heap) (locs1 : List Loc), Wd D τ s A H0 ws' H1 locs1 → W p l e R s m args below meth c H1 locs1 cells slots Q (F0 m (pc + 3) ls rest)) : W p l e R s m args below meth c H locs cells slots Q (F0 m pc ls (v :: .ref a :: rest)) :=
  va_put B.1 B.2.1 B.2.2.2.2 hin ty0 hty hnm B.2.2.2.1 Y.1.1 Y.2.1 Y.2.2.1 Y.2.2.2.1 q0 he hc k hk (B.2.2.2.2 _ hq) hsame hfin hd hn hfit hl hdg (fun H1 locs1 hP hD hS => kk H1 locs1 ⟨Y.1, by rw [← hw]; exact hP, by rw [← hw]; exact hD, hS, Y.2.2.2.2⟩)
theorem t_putF {ref C : String} {T : u_T} {N ci index k : Nat} {a : Nat} {fs : List Value} {v : Value} {ty : FieldType} {ty0 : Nat → FieldType} {ws' : va_W} (B : CallFix p m c cc nL s args wALL own) (Y : Wd D τ s A H0 ws H locs) (hin : ∀ w ∈ u_ws C T N, w ∈ wALL) (hty : ∀ k, k < N → parseFieldDescriptor (T k).2.2.1 = some (ty0 k)) (hnm : ∀ a, a < N → ∀ b, b < N → a ≠ b → (T a).2.1 ≠ (T b).2.1) (hc : vwCl[ci]? = some (C, T, N)) (hk : k < N) (hq : Cond.fieldLink own index ref (T k).2.1 (T k).2.2.1 ∈ wALL) (hsame : ∀ x, s.fieldFound? (T k).1 (T k).2.1 (T k).2.2.1 = some x → s.fieldFound? ref (T k).2.1 (T k).2.2.1 = some x) (hfin : (T k).2.2.2 = true) (hdecl : (T k).1 = own) (hin2 : meth.name = "<init>") (hd : parseFieldDescriptor (T k).2.2.1 = some ty) (hn : narrow ty v = v) (hfit : fits ty v = true) (q0 : Nat) (he : ws[q0]? = some (a, .inr (ci, fs))) (hl : k < fs.length) (hw : ws.set q0 (a, .inr (ci, fs.set k v)) = ws') (hdg : decode cc pc = .ok (.putfield index, 3)) (kk : ∀ (H1 : Heap) (locs1 : List Loc), Wd D τ s A H0 ws' H1 locs1 → W p l e R s m args below meth c H1 locs1 cells slots Q (F0 m (pc + 3) ls rest)) : W p l e R s m args below meth c H locs cells slots Q (F0 m pc ls (v :: .ref a :: rest)) :=
  va_putF B.1 B.2.1 B.2.2.2.2 hin ty0 hty hnm B.2.2.2.1 Y.1.1 Y.2.1 Y.2.2.1 Y.2.2.2.1 q0 he hc k hk (B.2.2.2.2 _ hq) hsame hfin hin2 hdecl hd hn hfit hl hdg (fun H1 locs1 hP hD hS => kk H1 locs1 ⟨Y.1, by rw [← hw]; exact hP, by rw [← hw]; exact hD, hS, Y.2.2.2.2⟩)
/-- the ends -/
theorem endI {S : Type} {post : Int32 → S → Prop} {w1 : S → va_W} {mc ms : Nat} (B : CallFix p m c cc nL s args wALL own) (hr : meth.sig.returnType = some .int) (hk : meth.locks = false) (Y : Wd D τ s A s.heap ws H locs) {v : Int32} (u : S) (hp : post v u) (is : List Nat) (hn : va_nd is = true) (hs : is.map (fun i => ws[i]?) = (w1 u).map some) (hc : cells ≤ mc) (hs2 : slots ≤ ms) (hdg : decode cc pc = .ok (.ireturn, 1)) : W p l e R s m args below meth c H locs cells slots (MQ below (va_Qi post (Bw D A w1) A) args s mc ms A) (F0 m pc ls [.int v]) := by
  have Z := Y.sub is hn hs
  exact W.widen hc hs2 (W.iret B.1 B.2.1 hr (fun t ht hW => ⟨⟨v, u, rfl, hp, by rw [ht]; exact Z.2.1, Z.2.2.1⟩, Y.2.2.2.1.F ht⟩) Y.2.2.2.1.2.2 hdg hk)
theorem endZ {S : Type} {post : Int32 → S → Prop} {w1 : S → va_W} {mc ms : Nat} (B : CallFix p m c cc nL s args wALL own) (hr : meth.sig.returnType = some .boolean) (hk : meth.locks = false) (Y : Wd D τ s A s.heap ws H locs) {v : Int32} (hv : narrow .boolean (.int v) = .int v) (u : S) (hp : post v u) (is : List Nat) (hn : va_nd is = true) (hs : is.map (fun i => ws[i]?) = (w1 u).map some) (hc : cells ≤ mc) (hs2 : slots ≤ ms) (hdg : decode cc pc = .ok (.ireturn, 1)) : W p l e R s m args below meth c H locs cells slots (MQ below (va_Qi post (Bw D A w1) A) args s mc ms A) (F0 m pc ls [.int v]) := by
  have Z := Y.sub is hn hs
  exact W.widen hc hs2 (W.zret B.1 B.2.1 hr hv (fun t ht hW => ⟨⟨v, u, rfl, hp, by rw [ht]; exact Z.2.1, Z.2.2.1⟩, Y.2.2.2.1.F ht⟩) Y.2.2.2.1.2.2 hdg hk)
theorem endV {S : Type} {post : S → Prop} {w1 : S → va_W} {mc ms : Nat} (B : CallFix p m c cc nL s args wALL own) (hr : meth.sig.returnType = none) (hk : meth.locks = false) (Y : Wd D τ s A s.heap ws H locs) (u : S) (hp : post u) (is : List Nat) (hn : va_nd is = true) (hs : is.map (fun i => ws[i]?) = (w1 u).map some) (hc : cells ≤ mc) (hs2 : slots ≤ ms) (hdg : decode cc pc = .ok (.return_, 1)) : W p l e R s m args below meth c H locs cells slots (MQ below (va_Qv post (Bw D A w1) A) args s mc ms A) (F0 m pc ls []) := by
  have Z := Y.sub is hn hs
  exact W.widen hc hs2 (W.vret B.1 B.2.1 hr (fun t ht hW => ⟨⟨u, rfl, hp, by rw [ht]; exact Z.2.1, Z.2.2.1⟩, Y.2.2.2.1.F ht⟩) Y.2.2.2.1.2.2 hdg hk)
/-- a call of a method of an object, of a static one, of a constructor -/
theorem rV {y : MethodName} {bytes : ByteArray} {maxL n index mc ms : Nat} {ret : Option FieldType} {rm : Room} {Qc : Array Value → State → Outcome → State → Prop} {free : Addr → Prop} {As : List Value} {b ci q0 N : Nat} {T : u_T} {fs : List Value} {wc : va_W} {st0 : List Value}
    (B : CallFix p m c cc nL s args wALL own) (Y : Wd D τ s A H0 ws H locs) (is : List Nat) (hn : va_nd is = true) (hC : is.map (fun i => ws[i]?) = wc.map some)
    (hM : Met l y (Cond.code y bytes maxL ret :: wALL) rm (Pw D τ wc H.size (.ref b :: As)) Qc mc ms free) (he : ws[q0]? = some (b, .inr (ci, fs))) (hc : vwCl[ci]? = some (y.cls, T, N))
    (k1 : Cond.methodLink own index y ∈ wALL) (k2 : Cond.instanceMethod y ∈ wALL) (k3 : Cond.selects y.cls y y ∈ wALL) (k4 : Cond.initialized y.cls ∈ wALL) (k5 : Cond.code y bytes maxL ret ∈ wALL) (hrc : rm.cells = mc) (hrs : rm.slots = ms)
    (hd : y.cls ≠ "java/lang/invoke/MethodHandle" ∧ y.cls ≠ "java/lang/invoke/VarHandle" ∧ (parseMethodDescriptor y.desc).map (fun d => d.parameters.length) = some n) (hR : rm.frames + 1 ≤ R.frames ∧ 8 + (maxL + 11) + rm.locals ≤ R.locals) (hAs : As.length = n) (hls : ls.size = nL) (hst : st0 = As.reverse ++ .ref b :: rest) (hrest : (rest.map fun v => v.category).sum ≤ 8) (hdg : decode cc pc = .ok (.invokevirtual index, 3)) (hf : cells + mc ≤ R.cells ∧ slots + ms ≤ R.slots) :
    va_Run p l e R s m args below meth c H locs cells slots mc ms (F0 m pc ls st0) rest (Qc (Value.ref b :: As).toArray) free := by
  have Z := Y.sub is hn hC
  have hT : GoodIn wALL (wsV own index y.cls y (Cond.code y bytes maxL ret :: wALL)) := by
    intro w hw
    rcases List.mem_append.mp (by unfold wsV at hw; exact hw) with h | h
    · simp only [List.mem_cons, List.not_mem_nil, or_false] at h
      rcases h with rfl | rfl | rfl | rfl
      · exact ⟨k1, wALL_good k1⟩
      · exact ⟨k2, wALL_good k2⟩
      · exact ⟨k3, wALL_good k3⟩
      · exact ⟨k4, wALL_good k4⟩
    · exact gALL k5 w h
  exact va_runV (As := As) (rest := rest) B hM (cwV n B.2.2.2.2 hT rfl hrc hrs ⟨rfl, hd⟩ hR) ⟨Pw.blind, va_recv Y.1.1 Y.2.1 hc he, fun U hU hW => ⟨rfl, by rw [hU], by rw [hU]; exact Z.2.1, Z.1.warm hW, Z.2.2.1.weaken (fun _ _ _ _ => trivial)⟩⟩ rfl hAs hls hst (lv_room hrest) hdg hf
theorem rS {y : MethodName} {bytes : ByteArray} {maxL n index mc ms : Nat} {ret : Option FieldType} {rm : Room} {Qc : Array Value → State → Outcome → State → Prop} {free : Addr → Prop} {As : List Value} {wc : va_W} {st0 : List Value}
    (B : CallFix p m c cc nL s args wALL own) (Y : Wd D τ s A H0 ws H locs) (is : List Nat) (hn : va_nd is = true) (hC : is.map (fun i => ws[i]?) = wc.map some)
    (hM : Met l y (Cond.code y bytes maxL ret :: wALL) rm (Pw D τ wc H.size As) Qc mc ms free)
    (k1 : Cond.methodLink own index y ∈ wALL) (k2 : Cond.static y ∈ wALL) (k4 : Cond.initialized y.cls ∈ wALL) (k5 : Cond.code y bytes maxL ret ∈ wALL) (hrc : rm.cells = mc) (hrs : rm.slots = ms)
    (hd : y.cls ≠ "java/lang/invoke/MethodHandle" ∧ y.cls ≠ "java/lang/invoke/VarHandle" ∧ (parseMethodDescriptor y.desc).map (fun d => d.parameters.length) = some n) (hR : rm.frames + 1 ≤ R.frames ∧ 8 + (maxL + 11) + rm.locals ≤ R.locals) (hAs : As.length = n) (hls : ls.size = nL) (hst : st0 = As.reverse ++ rest) (hrest : (rest.map fun v => v.category).sum ≤ 8) (hdg : decode cc pc = .ok (.invokestatic index, 3)) (hf : cells + mc ≤ R.cells ∧ slots + ms ≤ R.slots) :
    va_Run p l e R s m args below meth c H locs cells slots mc ms (F0 m pc ls st0) rest (Qc As.toArray) free := by
  have Z := Y.sub is hn hC
  have hts := B.2.2.2.2
  exact va_runS (As := As) (rest := rest) B hM ⟨callB_of n hts (gALL k5) rfl hrc hrs (hts _ k4) (hts _ k1) hd hR, hts _ k2⟩ ⟨Pw.blind, fun U hU hW => ⟨rfl, by rw [hU], by rw [hU]; exact Z.2.1, Z.1.warm hW, Z.2.2.1.weaken (fun _ _ _ _ => trivial)⟩⟩ rfl hAs hls hst (lv_room hrest) hdg hf
theorem rI {y : MethodName} {bytes : ByteArray} {maxL n index mc ms : Nat} {rm : Room} {Qc : Array Value → State → Outcome → State → Prop} {free : Addr → Prop} {As : List Value} {b : Nat} {wc : va_W} {st0 : List Value}
    (B : CallFix p m c cc nL s args wALL own) (Y : Wd D τ s A H0 ws H locs) (is : List Nat) (hn : va_nd is = true) (hC : is.map (fun i => ws[i]?) = wc.map some)
    (hM : Met l y (Cond.code y bytes maxL none :: wALL) rm (Pw D τ wc H.size (.ref b :: As)) Qc mc ms free)
    (k1 : Cond.methodLink own index y ∈ wALL) (k2 : Cond.instanceMethod y ∈ wALL) (k4 : Cond.initialized y.cls ∈ wALL) (k5 : Cond.code y bytes maxL none ∈ wALL) (hname : y.name = "<init>") (hrc : rm.cells = mc) (hrs : rm.slots = ms)
    (hd : y.cls ≠ "java/lang/invoke/MethodHandle" ∧ y.cls ≠ "java/lang/invoke/VarHandle" ∧ (parseMethodDescriptor y.desc).map (fun d => d.parameters.length) = some n) (hR : rm.frames + 1 ≤ R.frames ∧ 8 + (maxL + 11) + rm.locals ≤ R.locals) (hAs : As.length = n) (hls : ls.size = nL) (hst : st0 = As.reverse ++ .ref b :: rest) (hrest : (rest.map fun v => v.category).sum ≤ 8) (hdg : decode cc pc = .ok (.invokespecial index, 3)) (hf : cells + mc ≤ R.cells ∧ slots + ms ≤ R.slots) :
    va_Run p l e R s m args below meth c H locs cells slots mc ms (F0 m pc ls st0) rest (Qc (Value.ref b :: As).toArray) free := by
  have Z := Y.sub is hn hC
  have hts := B.2.2.2.2
  exact va_runI (As := As) (rest := rest) B hM (cwI n hts (gALL k5) rfl hrc hrs (hts _ k4) (hts _ k1) (hts _ k2) hname hd hR) ⟨Pw.blind, fun U hU hW => ⟨rfl, by rw [hU], by rw [hU]; exact Z.2.1, Z.1.warm hW, Z.2.2.1.weaken (fun _ _ _ _ => trivial)⟩⟩ rfl hAs hls hst (lv_room hrest) hdg hf
theorem rIN {y : MethodName} {bytes : ByteArray} {maxL n index mc ms : Nat} {host : String} {rm : Room} {Qc : Array Value → State → Outcome → State → Prop} {free : Addr → Prop} {As : List Value} {b : Nat} {wc : va_W} {st0 : List Value}
    (B : CallFix p m c cc nL s args wALL own) (Y : Wd D τ s A H0 ws H locs) (is : List Nat) (hn : va_nd is = true) (hC : is.map (fun i => ws[i]?) = wc.map some)
    (hM : Met l y (Cond.code y bytes maxL none :: wALL) rm (Pw D τ wc H.size (.ref b :: As)) Qc mc ms free)
    (k1 : va_Nw (.methodLinkNest own index y host) s) (k2 : Cond.instanceMethod y ∈ wALL) (k4 : Cond.initialized y.cls ∈ wALL) (k5 : Cond.code y bytes maxL none ∈ wALL) (hname : y.name = "<init>") (hrc : rm.cells = mc) (hrs : rm.slots = ms)
    (hd : y.cls ≠ "java/lang/invoke/MethodHandle" ∧ y.cls ≠ "java/lang/invoke/VarHandle" ∧ (parseMethodDescriptor y.desc).map (fun d => d.parameters.length) = some n) (hR : rm.frames + 1 ≤ R.frames ∧ 8 + (maxL + 11) + rm.locals ≤ R.locals) (hAs : As.length = n) (hls : ls.size = nL) (hst : st0 = As.reverse ++ .ref b :: rest) (hrest : (rest.map fun v => v.category).sum ≤ 8) (hdg : decode cc pc = .ok (.invokespecial index, 3)) (hf : cells + mc ≤ R.cells ∧ slots + ms ≤ R.slots) :
    va_Run p l e R s m args below meth c H locs cells slots mc ms (F0 m pc ls st0) rest (Qc (Value.ref b :: As).toArray) free := by
  have Z := Y.sub is hn hC
  have hts := B.2.2.2.2
  exact va_runIN (As := As) (rest := rest) B hM ⟨va_cnB n hts (gALL k5) rfl hrc hrs k1 (hts _ k4) hd hR, hname, hts _ k2⟩ ⟨Pw.blind, fun U hU hW => ⟨rfl, by rw [hU], by rw [hU]; exact Z.2.1, Z.1.warm hW, Z.2.2.1.weaken (fun _ _ _ _ => trivial)⟩⟩ rfl hAs hls hst (lv_room hrest) hdg hf
/-- behind a call -/
theorem retI {S : Type} {post : Int32 → S → Prop} {w1 : S → va_W} {mc ms : Nat} {wc wr : va_W} {a : Array Value} {st0 : List Value} {A0 : Nat → Prop} (Y : Wd D τ s A0 H0 ws H locs) (is ir : List Nat) (hC : is.map (fun i => ws[i]?) = wc.map some) (hR : ir.map (fun i => ws[i]?) = wr.map some) (hn : va_nd ir = true) (hdis : ∀ i ∈ ir, i ∉ is)
    (hr : va_Run p l e R s m args below meth c H locs cells slots mc ms (F0 m pc ls st0) rest (va_Qi post (Bw D (va_A wc H.size) w1) (va_A wc H.size) a) (va_A wc H.size))
    (kk : ∀ (r : Int32) (u : S) (H1 : Heap) (locs1 : List Loc), post r u → Wd D τ s A0 H0 (wr ++ w1 u) H1 locs1 → W p l e R s m args below meth c H1 locs1 (cells + mc) (slots + ms) Q (F0 m (pc + 3) ls (.int r :: rest))) : W p l e R s m args below meth c H locs cells slots Q (F0 m pc ls st0) := by
  obtain ⟨hK, hP, hD, hS, hA⟩ := Y
  have hFc := va_free (wc := wc) hD hS hA is hC
  refine va_calli hr hS (fun q _ h => hFc q h) hFc (fun r u t H1 locs1 ht hvm hw hB hz1 hk1 hS1 => ?_)
  obtain ⟨hP1, hD1⟩ := hB
  rw [ht] at hP1
  obtain ⟨hPj, hDj⟩ := va_join (wr := wr) (w1 := w1 u) hP hD is ir hC hR hn hdis hk1 hFc hP1 hD1
  exact kk r u H1 locs1 hw ⟨hK, hPj, hDj, hS1, hA⟩
theorem retV {S : Type} {post : S → Prop} {w1 : S → va_W} {mc ms : Nat} {wc wr : va_W} {a : Array Value} {st0 : List Value} {A0 : Nat → Prop} (Y : Wd D τ s A0 H0 ws H locs) (is ir : List Nat) (hC : is.map (fun i => ws[i]?) = wc.map some) (hR : ir.map (fun i => ws[i]?) = wr.map some) (hn : va_nd ir = true) (hdis : ∀ i ∈ ir, i ∉ is)
    (hr : va_Run p l e R s m args below meth c H locs cells slots mc ms (F0 m pc ls st0) rest (va_Qv post (Bw D (va_A wc H.size) w1) (va_A wc H.size) a) (va_A wc H.size))
    (kk : ∀ (u : S) (H1 : Heap) (locs1 : List Loc), post u → Wd D τ s A0 H0 (wr ++ w1 u) H1 locs1 → W p l e R s m args below meth c H1 locs1 (cells + mc) (slots + ms) Q (F0 m (pc + 3) ls rest)) : W p l e R s m args below meth c H locs cells slots Q (F0 m pc ls st0) := by
  obtain ⟨hK, hP, hD, hS, hA⟩ := Y
  have hFc := va_free (wc := wc) hD hS hA is hC
  refine va_callv hr hS (fun q _ h => hFc q h) hFc (fun u t H1 locs1 ht hvm hw hB hz1 hk1 hS1 => ?_)
  obtain ⟨hP1, hD1⟩ := hB
  rw [ht] at hP1
  obtain ⟨hPj, hDj⟩ := va_join (wr := wr) (w1 := w1 u) hP hD is ir hC hR hn hdis hk1 hFc hP1 hD1
  exact kk u H1 locs1 hw ⟨hK, hPj, hDj, hS1, hA⟩
end TK
