/-! least, greatest, copies of rows -/
theorem cpy_same {α : Type} (f : Nat → α) (n : Nat) : va_cpy f f 0 0 n = f := by
  funext k
  unfold va_cpy
  by_cases h : 0 ≤ k ∧ k < 0 + n
  · rw [if_pos h]; congr 1; omega
  · rw [if_neg h]
theorem cpy_0 {α : Type} (f g : Nat → α) : va_cpy f g 0 0 0 = g := by
  funext k
  unfold va_cpy
  rw [if_neg (by omega)]
section TM
variable {p : Program} {l : Launch} {e : Env} {R : Room} {s : State} {m : MethodId} {args : Array Value} {below : List Frame} {meth : Method} {c : Code} {H : Heap} {locs : List Loc} {cells slots : Nat} {Q : State → Prop}
variable {cc : ByteArray} {pc nL : Nat} {ls : Array Slot} {rest : List Value} {own : String} {D : va_G} {τ : Nat → ClassId} {A : Nat → Prop} {H0 : Heap} {ws ws' : va_W} {x y v : Int32} {index : Nat}
theorem t_mmax (B : CallFix p m c cc nL s args wALL own) (k1 : Cond.methodLink own index Lib.Math.max.name ∈ wALL) (k2 : Cond.static Lib.Math.max.name ∈ wALL) (k3 : Cond.initialized "java/lang/Math" ∈ wALL) (k4 : Cond.code Lib.Math.max.name Lib.Math.max.code 2 (some .int) ∈ wALL) (hls : ls.size = nL) (hf : 1 ≤ R.frames) (hlo : (rest.map fun v => v.category).sum + 13 ≤ R.locals) (hc : cells ≤ R.cells) (hs : slots ≤ R.slots) (hv : (if x < y then y else x) = v) (hdg : decode cc pc = .ok (.invokestatic index, 3)) (kk : W p l e R s m args below meth c H locs cells slots Q (F0 m (pc + 3) ls (.int v :: rest))) : W p l e R s m args below meth c H locs cells slots Q (F0 m pc ls (.int y :: .int x :: rest)) :=
  va_mmax B.1 B.2.1 (B.2.2.1.trans hls.symm) B.2.2.2.1 (B.2.2.2.2 _ k1) (B.2.2.2.2 _ k2) (B.2.2.2.2 _ k3) (B.2.2.2.2 _ k4) hf hlo hc hs hdg (by rw [hv]; exact kk)
theorem t_mmin (B : CallFix p m c cc nL s args wALL own) (k1 : Cond.methodLink own index Lib.Math.min.name ∈ wALL) (k2 : Cond.static Lib.Math.min.name ∈ wALL) (k3 : Cond.initialized "java/lang/Math" ∈ wALL) (k4 : Cond.code Lib.Math.min.name Lib.Math.min.code 2 (some .int) ∈ wALL) (hls : ls.size = nL) (hf : 1 ≤ R.frames) (hlo : (rest.map fun v => v.category).sum + 13 ≤ R.locals) (hc : cells ≤ R.cells) (hs : slots ≤ R.slots) (hv : (if y < x then y else x) = v) (hdg : decode cc pc = .ok (.invokestatic index, 3)) (kk : W p l e R s m args below meth c H locs cells slots Q (F0 m (pc + 3) ls (.int v :: rest))) : W p l e R s m args below meth c H locs cells slots Q (F0 m pc ls (.int y :: .int x :: rest)) :=
  va_mmin B.1 B.2.1 (B.2.2.1.trans hls.symm) B.2.2.2.1 (B.2.2.2.2 _ k1) (B.2.2.2.2 _ k2) (B.2.2.2.2 _ k3) (B.2.2.2.2 _ k4) hf hlo hc hs hdg (by rw [hv]; exact kk)
theorem t_copyi {a a0 n0 n1 n' : Nat} {f g h : Nat → Int32} {n : Int32} (B : CallFix p m c cc nL s args wALL own) (Y : Wd D τ s A H0 ws H locs) (k1 : Cond.methodLink own index arraycopyName ∈ wALL) (k2 : Cond.native arraycopyName ∈ wALL) (k3 : Cond.static arraycopyName ∈ wALL) (k4 : Cond.initialized "java/lang/System" ∈ wALL) (hls : ls.size = nL) (q0 q1 : Nat) (ha0 : ws[q0]? = some (a0, .inl (τ 0, n0, .inl f))) (ha1 : ws[q1]? = some (a, .inl (τ 0, n1, .inl g))) (h3 : ¬ n < 0) (hn' : n.toNatClampNeg = n') (h4 : n' ≤ n0) (h5 : n' ≤ n1) (hg : va_cpy f g 0 0 n' = h) (hw : ws.set q1 (a, .inl (τ 0, n1, .inl h)) = ws') (hfr : 1 ≤ R.frames) (hlo : (rest.map fun v => v.category).sum + (nativeFrameWords "java/lang/System" "arraycopy" 5 + 11) ≤ R.locals) (hdg : decode cc pc = .ok (.invokestatic index, 3)) (kk : ∀ (H1 : Heap) (locs1 : List Loc), Wd D τ s A H0 ws' H1 locs1 → W p l e R s m args below meth c H1 locs1 cells slots Q (F0 m (pc + 3) ls rest)) : W p l e R s m args below meth c H locs cells slots Q (F0 m pc ls (.int n :: .int 0 :: .ref a :: .int 0 :: .ref a0 :: rest)) :=
  va_copyi B.1 B.2.1 (B.2.2.1.trans hls.symm) B.2.2.2.1 (B.2.2.2.2 _ k1) (B.2.2.2.2 _ k2) (B.2.2.2.2 _ k3) (B.2.2.2.2 _ k4) Y.1.1 Y.2.1 Y.2.2.1 Y.2.2.2.1 q0 q1 0 0 ha0 ha1 rfl rfl rfl (sp := 0) (dp := 0) (by decide) (by decide) h3 (by rw [hn']; show 0 + n' ≤ n0; omega) (by rw [hn']; show 0 + n' ≤ n1; omega) (fun _ _ => rfl) hfr hlo hdg (fun H1 locs1 hP hD hS => kk H1 locs1 (by
    have e : va_cpy f g (0 : Int32).toNatClampNeg (0 : Int32).toNatClampNeg n.toNatClampNeg = h := by rw [hn']; exact hg
    rw [e, hw] at hP hD
    exact ⟨Y.1, hP, hD, hS, Y.2.2.2.2⟩))
theorem endF {S : Type} {post : UInt32 → S → Prop} {w1 : S → va_W} {mc ms : Nat} (B : CallFix p m c cc nL s args wALL own) (hr : meth.sig.returnType = some .float) (hk : meth.locks = false) (Y : Wd D τ s A s.heap ws H locs) {v : UInt32} (u : S) (hp : post v u) (is : List Nat) (hn : va_nd is = true) (hs : is.map (fun i => ws[i]?) = (w1 u).map some) (hc : cells ≤ mc) (hs2 : slots ≤ ms) (hdg : decode cc pc = .ok (.freturn, 1)) : W p l e R s m args below meth c H locs cells slots (MQ below (va_Qf post (Bw D A w1) A) args s mc ms A) (F0 m pc ls [.float v]) := by
  have Z := Y.sub is hn hs
  exact W.widen hc hs2 (W.fret B.1 B.2.1 hr (fun t ht hW => ⟨⟨v, u, rfl, hp, by rw [ht]; exact Z.2.1, Z.2.2.1⟩, Y.2.2.2.1.F ht⟩) Y.2.2.2.1.2.2 hdg hk)
theorem endD {S : Type} {post : UInt64 → S → Prop} {w1 : S → va_W} {mc ms : Nat} (B : CallFix p m c cc nL s args wALL own) (hr : meth.sig.returnType = some .double) (hk : meth.locks = false) (Y : Wd D τ s A s.heap ws H locs) {v : UInt64} (u : S) (hp : post v u) (is : List Nat) (hn : va_nd is = true) (hs : is.map (fun i => ws[i]?) = (w1 u).map some) (hc : cells ≤ mc) (hs2 : slots ≤ ms) (hdg : decode cc pc = .ok (.dreturn, 1)) : W p l e R s m args below meth c H locs cells slots (MQ below (va_Qd post (Bw D A w1) A) args s mc ms A) (F0 m pc ls [.double v]) := by
  have Z := Y.sub is hn hs
  exact W.widen hc hs2 (W.dret B.1 B.2.1 hr (fun t ht hW => ⟨⟨v, u, rfl, hp, by rw [ht]; exact Z.2.1, Z.2.2.1⟩, Y.2.2.2.1.F ht⟩) Y.2.2.2.1.2.2 hdg hk)

end TM
/-! a body of a class some of whose methods are run by entries, this one not -/
theorem ofWF {l : Launch} {y : MethodName} {ws ws' : List Cond} {rm : Room} {Pc : Array Value → State → Prop} {Qc : Array Value → State → Outcome → State → Prop} {mc ms : Nat} {free : Addr → Prop} {cc : ByteArray} {maxL : Nat} {ret : Option FieldType}
    (hy : plainFor y = true) (hw : ws = Cond.code y cc maxL ret :: ws')
    (body : ∀ p e s m args below meth c s₁, BodyLoose p l y (headSpec ws rm) cc maxL ret e s m args below meth c s₁ → c.maxLocals = maxL → Pc args s →
      W p l e (headSpec ws rm).room s m args below meth c s.heap [] 0 0 (MQ below Qc args s mc ms free) (entryFrame m args maxL)) : Met l y ws rm Pc Qc mc ms free := by
  refine MetFree.of_bodySF (code := cc) (maxLocals := maxL) (ret := ret) hy ?_ ?_
  · intro args s m h hn
    obtain ⟨meth, c, h1, h2, h3, h4, h5, h6, -, -⟩ := Cond.code_spec hn (atoms_spec (ws := ws) h _ (by rw [hw]; exact List.mem_cons_self))
    exact ⟨meth, c, h1, h2, h3, h4, h5, h6⟩
  · intro p e s m args below meth c s₁ B hml hP _
    have hh0 : s₁.heap = s.heap := by rw [B.state]; rfl
    obtain ⟨t, a1, o, b1, b2, b3⟩ := body p e s m args below meth c s₁ B hml hP s₁ hh0 (Stand.of_body B)
    exact ⟨t, o, a1, b1, b2, ⟨b3.1, b3.2⟩⟩
theorem bodyWF {l : Launch} {D : va_G} {τ : Nat → ClassId} {y : MethodName} {b : ByteArray} {n : Nat} {ret : Option FieldType} {rm : Room} {av : List Value} {wc : va_W} {sz : Nat} {Qc : Array Value → State → Outcome → State → Prop} {mc ms : Nat} {free : Addr → Prop} (hy : plainFor y = true) (hn : (lg_sl av).length ≤ n)
    (k : ∀ (p : Program) (e : Env) (s : State) (m : MethodId) (below : List Frame) (meth : Method) (c : Code) (ls : Array Slot), CallFix p m c b n s av.toArray wALL y.cls → meth.sig.returnType = ret → meth.locks = false → meth.name = y.name → s.heap.size = sz → Wd D τ s (va_A wc sz) s.heap wc s.heap [] → lv_has ls n (lv_args 0 av) → W p l e rm s m av.toArray below meth c s.heap [] 0 0 (MQ below Qc av.toArray s mc ms free) (F0 m 0 ls [])) :
    Met l y (Cond.code y b n ret :: wALL) rm (Pw D τ wc sz av) Qc mc ms free := by
  refine ofWF (cc := b) (maxL := n) (ret := ret) hy rfl ?_
  intro p e s m args below meth c s₁ B hml hv
  obtain ⟨rfl, hsz, hP, hK, hD0⟩ := hv
  have hts := atoms_spec (ws := Cond.code y b n ret :: wALL) B.pre
  have hts : ∀ w ∈ wALL, w.before _ s = true := fun w h => hts w (List.mem_cons_of_mem _ h)
  subst hsz
  have hl := lv_entry av (n := n) hn
  rw [lg_entry_eq]
  exact k p e s m below meth c _ ⟨B.exec, B.bytes, hml, findClass_of_methodNamed B.named, hts⟩ B.returns B.notSynchronized (name_of_methodNamed B.named B.method).1 rfl ⟨hK, hP, hD0.self, va_S.rf, fun q h => Or.inr h⟩ hl
theorem i_sub_le {a b : Nat} (h : a ≤ b) (hb : b < 2 ^ 30) : nI a - nI b ≤ 0 := by
  rw [Int32.le_iff_toInt_le, pk_sub_toInt (by omega) hb]
  show (a : Int) - b ≤ 0
  omega
theorem i_pos_n {a : Nat} (h : 0 < a) (hb : a < 2 ^ 31) : (0 : Int32) < nI a := nI_lt (a := 0) h hb
theorem i_one {b : Nat} (h1 : 557 ≤ b) (h2 : b ≤ 1000) : (nI (b - 556) + 552 - 1) / 552 = 1 := by
  have e : nI (b - 556) + 552 - 1 = nI (b - 556 + 551) := by
    rw [show (552 : Int32) = nI 552 from rfl, nI_add, show (1 : Int32) = nI 1 from rfl, pk_sub (by omega)]
    congr 1
  rw [e, show (552 : Int32) = nI 552 from rfl, pk_div (by omega) (by decide) (by decide)]
  have : (b - 556 + 551) / 552 = 1 := by omega
  rw [this]; rfl
theorem i_neg {n : Nat} (h1 : 1 ≤ n) (h2 : n < 2 ^ 31) : ¬ (0 : Int32) ≤ -nI n := by
  rw [Int32.le_iff_toInt_le, sb_negT h2]
  show ¬ (0 : Int) ≤ -(n : Int)
  omega
/-! pieces and burdens on one link of 576 bytes -/
def cutN (p : Nat) : Nat := if p ≤ 556 then 0 else 1
def bdN (c w p : Nat) : Nat := cutN p * c + c + w * (p + (cutN p + 1) * 20)
def wbN (n e : Nat) : Nat := n / e * bdN 0 1 e + (if n % e = 0 then 0 else bdN 0 1 (n % e))
def bestN (n : Nat) : Nat → Nat
  | 0 => 1
  | i + 1 => if wbN n (i + 1) ≤ wbN n (bestN n i) then i + 1 else bestN n i
theorem bestN_in (n : Nat) : ∀ i : Nat, 1 ≤ bestN n i ∧ bestN n i ≤ i + 1
  | 0 => ⟨Nat.le_refl _, Nat.le_refl _⟩
  | i + 1 => by
    have h := bestN_in n i
    unfold bestN
    split <;> omega
theorem bestN_le (n : Nat) {i : Nat} (h : 1 ≤ i) : bestN n i ≤ i := by
  induction i with
  | zero => omega
  | succ i ih =>
    unfold bestN
    split
    · omega
    · cases i with
      | zero => exact Nat.le_refl 1
      | succ i => have := ih (by omega); omega
theorem cutN_le (p : Nat) : cutN p ≤ 1 := by unfold cutN; split <;> omega
theorem bdN_le {p : Nat} (h : p ≤ 1000) : bdN 0 1 p ≤ 1040 := by
  have := cutN_le p
  unfold bdN
  omega
theorem wbN_lt {n e : Nat} (hn : n ≤ 3000) (h1 : 1 ≤ e) (h2 : e ≤ 1000) : wbN n e < 2 ^ 30 := by
  have a := bdN_le h2
  have b : bdN 0 1 (n % e) ≤ 1040 := bdN_le (by have := Nat.mod_lt n h1; omega)
  have c : n / e ≤ 3000 := Nat.le_trans (Nat.div_le_self n e) hn
  have d : n / e * bdN 0 1 e ≤ 3000 * 1040 := Nat.mul_le_mul c a
  unfold wbN
  split <;> omega
theorem i_min1000 (n : Nat) (hn : n < 2 ^ 31) : (if (1000 : Int32) < nI n then (1000 : Int32) else nI n) = nI (min n 1000) := by
  by_cases h : 1000 < n
  · have e : (1000 : Int32) < nI n := nI_lt (a := 1000) h hn
    rw [if_pos e, Nat.min_eq_right (by omega)]; rfl
  · have e : ¬ ((1000 : Int32) < nI n) := nI_nlt (b := n) (a := 1000) (by omega) (by decide)
    rw [if_neg e, Nat.min_eq_left (by omega)]
theorem fil_all (c : Int32) {n j : Nat} (f : Nat → Int32) (h : j < n) : fil (fun _ => c) f n j = c := by unfold fil; rw [if_pos h]
