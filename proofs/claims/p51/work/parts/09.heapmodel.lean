/-! a heap, as whole numbers: V z is the byte at z, -1 where none is known -/
def knI (V : Int → Int) (z : Int) : Int := if V z = -1 then 0 else 1
def oddsI (en tp la il : Int) : Int := if il = 0 then (if en = -1 then 0 else if en < la then 1 else 0) else (if en ≠ -1 ∧ en ≠ la then 1 else if la < tp then 1 else 0)
def limI (en tp : Int) : Int := if en = -1 then tp else en
def hsI (V : Int → Int) (z : Int) : Int := if V z = -1 ∧ (z = 0 ∨ V (z - 1) ≠ -1) then 1 else 0
def cntH (V : Int → Int) : Nat → Int
  | 0 => 0
  | n + 1 => cntH V n + hsI V n
def missI (V : Int → Int) (off la : Int) : Nat → Int
  | 0 => 0
  | n + 1 => missI V off la n + (if V n = -1 ∧ ((n : Int) < off ∨ la ≤ n) then 1 else 0)
def ownB (d : Nat → Int) (z : Int) : Int := (d 1 + 31 * z) % 256
/-- the bytes of a piece from off on, t of them: how many of them were unknown; whether a known one is another; the bytes then -/
def tkU (V : Int → Int) (off : Int) : Nat → Int
  | 0 => 0
  | t + 1 => tkU V off t + (if V (off + t) = -1 then 1 else 0)
def tkO (V val : Int → Int) (off : Int) : Nat → Int
  | 0 => 0
  | t + 1 => if V (off + t) ≠ -1 ∧ V (off + t) ≠ val (off + t) then 1 else tkO V val off t
def tkV (V val : Int → Int) (rep off la : Int) : Int → Int := fun z => if off ≤ z ∧ z < la then (if V z = -1 then val z else if rep = 0 then V z else val z) else V z
def HpRep (tp : Int) (n : Nat) (f : Nat → Int32) (V : Int → Int) : Prop := 0 ≤ tp ∧ tp ≤ n ∧ n ≤ 1192 ∧ (∀ z : Int, z < 0 ∨ tp ≤ z → V z = -1) ∧ (∀ j : Nat, (j : Int) < tp → f j = iI (V j)) ∧ ∀ z : Int, -1 ≤ V z ∧ V z ≤ 255
theorem HpRep.at {tp : Int} {n : Nat} {f : Nat → Int32} {V : Int → Int} (h : HpRep tp n f V) {z : Int} (h0 : 0 ≤ z) (h1 : z < tp) : f z.toNat = iI (V z) := by
  rw [h.2.2.2.2.1 z.toNat (by omega), Int.toNat_of_nonneg h0]
theorem iI_01 {p : Prop} [Decidable p] : narrow .boolean (.int (iI (if p then 1 else 0))) = .int (iI (if p then 1 else 0)) := by
  split <;> decide
theorem iI_and {a : Int} (h0 : 0 ≤ a) (h1 : a < 4294967296) : iI a &&& iI 255 = iI (a % 256) := by
  obtain ⟨n, rfl⟩ := Int.eq_ofNat_of_zero_le h0
  have e : iI 255 = nI 255 := iI_nI 255
  have h := pk_andN (n := n) (by omega) (m := nI 255) 8 (by decide)
  have e2 : ((n : Int) % 256) = ((n % 256 : Nat) : Int) := by omega
  rw [e, iI_nI, h, e2, iI_nI]
theorem tkU_le (V : Int → Int) (off : Int) (t : Nat) : 0 ≤ tkU V off t ∧ tkU V off t ≤ t := by
  induction t with
  | zero => exact ⟨Int.le_refl 0, Int.le_refl 0⟩
  | succ t ih =>
    show 0 ≤ tkU V off t + (if V (off + t) = -1 then 1 else 0) ∧ tkU V off t + (if V (off + t) = -1 then 1 else 0) ≤ ((t + 1 : Nat) : Int)
    split <;> omega
theorem cntH_le (V : Int → Int) (t : Nat) : 0 ≤ cntH V t ∧ cntH V t ≤ t := by
  induction t with
  | zero => exact ⟨Int.le_refl 0, Int.le_refl 0⟩
  | succ t ih =>
    show 0 ≤ cntH V t + hsI V t ∧ cntH V t + hsI V t ≤ ((t + 1 : Nat) : Int)
    unfold hsI
    split <;> omega
theorem missI_le (V : Int → Int) (a b : Int) (t : Nat) : 0 ≤ missI V a b t ∧ missI V a b t ≤ t := by
  induction t with
  | zero => exact ⟨Int.le_refl 0, Int.le_refl 0⟩
  | succ t ih =>
    show 0 ≤ missI V a b t + _ ∧ missI V a b t + _ ≤ ((t + 1 : Nat) : Int)
    split <;> omega
