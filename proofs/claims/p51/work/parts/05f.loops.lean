/-! loops: a state at each round, what is done behind the last one, what a round does -/
section TL
variable {p : Program} {l : Launch} {e : Env} {R : Room} {s : State} {m : MethodId} {args : Array Value} {below : List Frame} {meth : Method} {c : Code} {H : Heap} {locs : List Loc} {cells slots : Nat} {Q : State → Prop} {ls : Array Slot}
theorem loopW {P : Nat → Heap → List Loc → Array Slot → Prop} {n head : Nat} (i : Nat) (hi : i ≤ n) (h0 : P i H locs ls)
    (hz : ∀ (H : Heap) (locs : List Loc) (ls : Array Slot), P n H locs ls → W p l e R s m args below meth c H locs cells slots Q (F0 m head ls []))
    (hs : ∀ i : Nat, i < n → ∀ (H : Heap) (locs : List Loc) (ls : Array Slot), P i H locs ls → (∀ (H : Heap) (locs : List Loc) (ls : Array Slot), P (i + 1) H locs ls → W p l e R s m args below meth c H locs cells slots Q (F0 m head ls [])) → W p l e R s m args below meth c H locs cells slots Q (F0 m head ls [])) :
    W p l e R s m args below meth c H locs cells slots Q (F0 m head ls []) := by
  obtain ⟨k, hk⟩ : ∃ k, i + k = n := ⟨n - i, by omega⟩
  clear hi
  induction k generalizing i H locs ls with
  | zero =>
    have e : i = n := by omega
    subst e
    exact hz H locs ls h0
  | succ k ih => exact hs i (by omega) H locs ls h0 (fun H locs ls h => ih (i + 1) h (by omega))
theorem loopZ {P : Nat → Heap → List Loc → Array Slot → Nat → Nat → Prop} {n head : Nat} (i : Nat) (hi : i ≤ n) (h0 : P i H locs ls cells slots)
    (hz : ∀ (H : Heap) (locs : List Loc) (ls : Array Slot) (cells slots : Nat), P n H locs ls cells slots → W p l e R s m args below meth c H locs cells slots Q (F0 m head ls []))
    (hs : ∀ i : Nat, i < n → ∀ (H : Heap) (locs : List Loc) (ls : Array Slot) (cells slots : Nat), P i H locs ls cells slots → (∀ (H : Heap) (locs : List Loc) (ls : Array Slot) (cells slots : Nat), P (i + 1) H locs ls cells slots → W p l e R s m args below meth c H locs cells slots Q (F0 m head ls [])) → W p l e R s m args below meth c H locs cells slots Q (F0 m head ls [])) :
    W p l e R s m args below meth c H locs cells slots Q (F0 m head ls []) := by
  obtain ⟨k, hk⟩ : ∃ k, i + k = n := ⟨n - i, by omega⟩
  clear hi
  induction k generalizing i H locs ls cells slots with
  | zero =>
    have e : i = n := by omega
    subst e
    exact hz H locs ls cells slots h0
  | succ k ih => exact hs i (by omega) H locs ls cells slots h0 (fun H locs ls cells slots h => ih (i + 1) h (by omega))
end TL
