abbrev SX := Nat × List Int × List Int × List Int × Int × Int × Int × Int
abbrev SX.k (x : SX) : Nat := x.1
abbrev SX.d0 (x : SX) : List Int := x.2.1
abbrev SX.d1 (x : SX) : List Int := x.2.2.1
abbrev SX.d2 (x : SX) : List Int := x.2.2.2.1
abbrev SX.v0 (x : SX) : Int := x.2.2.2.2.1
abbrev SX.v1 (x : SX) : Int := x.2.2.2.2.2.1
abbrev SX.v2 (x : SX) : Int := x.2.2.2.2.2.2.1
abbrev SX.oo (x : SX) : Int := x.2.2.2.2.2.2.2
def SOk (x : SX) : Prop := (x.k = 0 ∧ NOk x.d0 x.v0 28 1500 ∧ NOk x.d1 x.v1 1 50 ∧ NOk x.d2 x.v2 0 99 ∧ x.oo = 0) ∨ (x.k = 1 ∧ NOk x.d0 x.v0 1 200 ∧ x.oo = 0) ∨ (x.k = 2 ∧ NOk x.d0 x.v0 0 2 ∧ x.oo = 0) ∨ (x.k = 3 ∧ NOk x.d0 x.v0 1 1000 ∧ NOk x.d1 x.v1 0 255 ∧ x.oo = 0) ∨ (x.k = 3 ∧ NOk x.d0 x.v0 1 1000 ∧ NOk x.d1 x.v1 0 255 ∧ x.oo = 1)
def stX (x : SX) : List Int :=
  if x.k = 0 then ksZ 0 ++ (32 :: (x.d0 ++ (32 :: (x.d1 ++ (32 :: (x.d2 ++ []))))))
  else if x.k = 1 then ksZ 1 ++ (32 :: (x.d0 ++ []))
  else if x.k = 2 then ksZ 2 ++ (32 :: (x.d0 ++ []))
  else if x.oo = 0 then ksZ 3 ++ (32 :: (x.d0 ++ (32 :: (x.d1 ++ []))))
  else ksZ 3 ++ (32 :: (x.d0 ++ (32 :: (x.d1 ++ (32 :: ksZ 10)))))
def jnX : List SX → List Int
  | [] => []
  | [x] => stX x
  | x :: y :: l => stX x ++ (59 :: jnX (y :: l))
theorem stX_hd (x : SX) : ∃ (c : Int) (t : List Int), stX x = c :: t ∧ 97 ≤ c := by
  unfold stX
  split
  · exact ⟨108, _, rfl, by decide⟩
  · split
    · exact ⟨108, _, rfl, by decide⟩
    · split
      · exact ⟨112, _, rfl, by decide⟩
      · split
        · exact ⟨115, _, rfl, by decide⟩
        · exact ⟨115, _, rfl, by decide⟩
theorem jnX_hd (x : SX) (l : List SX) : ∃ (c : Int) (t : List Int), jnX (x :: l) = c :: t ∧ 97 ≤ c := by
  obtain ⟨c, t, h1, h2⟩ := stX_hd x
  cases l with
  | nil => exact ⟨c, t, h1, h2⟩
  | cons y l => exact ⟨c, t ++ (59 :: jnX (y :: l)), by show stX x ++ _ = _; rw [h1]; rfl, h2⟩
abbrev Tb := (Nat → Int) × (Nat → Int) × (Nat → Int) × (Nat → Int)
def nuT (c : Nat) (x : SX) (nu : Nat → Int) : Nat → Int :=
  if x.k = 0 then upz (upz (upz nu (4 * c + 0) x.v0) (4 * c + 1) x.v1) (4 * c + 2) x.v2
  else if x.k = 3 then upz (upz nu (4 * c + 0) x.v0) (4 * c + 1) x.v1
  else upz nu (4 * c + 0) x.v0
def stepT (c : Nat) (x : SX) (T : Tb) : Tb := (upz T.1 c (x.k : Int), nuT c x T.2.1, upz T.2.2.1 c x.oo, upz T.2.2.2 x.k (T.2.2.2 x.k + 1))
def tbF : List SX → Nat → Tb → Tb
  | [], _, T => T
  | x :: l, c, T => tbF l (c + 1) (stepT c x T)
def cntX (k : Nat) : List SX → Int
  | [] => 0
  | x :: l => (if x.k = k then 1 else 0) + cntX k l
theorem cntX_pos (k : Nat) (l : List SX) : 0 ≤ cntX k l := by
  induction l with
  | nil => exact Int.le_refl 0
  | cons x l ih => show 0 ≤ (if x.k = k then 1 else 0) + cntX k l; split <;> omega
theorem filz_z (g : Nat → Int) : ∀ k : Nat, k < 10 → filz g 10 0 k = 0 := fun k hk => if_pos hk
set_option maxHeartbeats 4000000 in
set_option maxRecDepth 100000 in
theorem k_isWellRead_d (l : Launch) (D : va_G) (τ : Nat → ClassId) (sz : Nat) (K : Nat → Nat) (rd ri rk rn ro rt L : Nat) (pl io er ea cn : Int) (b kd nu op ty : Nat → Int) (hL : L ≤ 500) (hb : BOk b) (xs : List SX) (hxs : ∀ x ∈ xs, SOk x) (x0 : SX) (xl : List SX) (hx0 : xs = x0 :: xl) (hk0 : x0.k = 0) (hct0 : cntX 0 xs ≤ 5) (hct3 : cntX 3 xs ≤ 39) (hct1 : cntX 1 xs ≤ 1) (hct2 : cntX 2 xs ≤ 1) (hX : ats b 0 (jnX xs)) (hLx : (jnX xs).length = L) (hlen : xs.length ≤ 47) : Met l yX6_isWellRead (Cond.code yX6_isWellRead cX6_isWellRead 4 (some .boolean) :: wALL) { frames := 7, cells := 0, slots := 0, locals := 155 } (PwE (Ke K) D τ (bl [[(rd, .inr (8, [.ref ri, .int (iI (((L : Nat) : Int))), .int (iI (pl)), .int (iI (io)), .int (iI (er)), .int (iI (ea)), .int (iI (cn)), .ref rk, .ref rn, .ref ro, .ref rt]))], [(ri, .inl (τ 1, 500, .inl (fun j => iI ((b) j))))], [(rk, .inl (τ 0, 48, .inl (fun j => iI ((kd) j))))], [(rn, .inl (τ 0, 192, .inl (fun j => iI ((nu) j))))], [(ro, .inl (τ 2, 48, .inl (fun j => iI ((op) j))))], [(rt, .inl (τ 0, 10, .inl (fun j => iI ((ty) j))))]]) sz [.ref rd, .int (iI (0))]) (va_Qi (fun (r : Int32) (_ : Unit) => r = 1) (Bb D (va_A (bl [[(rd, .inr (8, [.ref ri, .int (iI (((L : Nat) : Int))), .int (iI (pl)), .int (iI (io)), .int (iI (er)), .int (iI (ea)), .int (iI (cn)), .ref rk, .ref rn, .ref ro, .ref rt]))], [(ri, .inl (τ 1, 500, .inl (fun j => iI ((b) j))))], [(rk, .inl (τ 0, 48, .inl (fun j => iI ((kd) j))))], [(rn, .inl (τ 0, 192, .inl (fun j => iI ((nu) j))))], [(ro, .inl (τ 2, 48, .inl (fun j => iI ((op) j))))], [(rt, .inl (τ 0, 10, .inl (fun j => iI ((ty) j))))]]) sz) (fun (_ : Unit) => [[(rd, .inr (8, [.ref ri, .int (iI (0)), .int (iI (((L : Nat) : Int))), .int (iI (0)), .int (iI (0)), .int (iI ((-1))), .int (iI (((xs.length : Nat) : Int))), .ref rk, .ref rn, .ref ro, .ref rt]))], [(ri, .inl (τ 1, 500, .inl (fun j => iI ((b) j))))], [(rk, .inl (τ 0, 48, .inl (fun j => iI (((tbF xs 0 (kd, nu, op, filz ty 10 0)).1) j))))], [(rn, .inl (τ 0, 192, .inl (fun j => iI (((tbF xs 0 (kd, nu, op, filz ty 10 0)).2.1) j))))], [(ro, .inl (τ 2, 48, .inl (fun j => iI (((tbF xs 0 (kd, nu, op, filz ty 10 0)).2.2.1) j))))], [(rt, .inl (τ 0, 10, .inl (fun j => iI (((tbF xs 0 (kd, nu, op, filz ty 10 0)).2.2.2) j))))]])) (va_A (bl [[(rd, .inr (8, [.ref ri, .int (iI (((L : Nat) : Int))), .int (iI (pl)), .int (iI (io)), .int (iI (er)), .int (iI (ea)), .int (iI (cn)), .ref rk, .ref rn, .ref ro, .ref rt]))], [(ri, .inl (τ 1, 500, .inl (fun j => iI ((b) j))))], [(rk, .inl (τ 0, 48, .inl (fun j => iI ((kd) j))))], [(rn, .inl (τ 0, 192, .inl (fun j => iI ((nu) j))))], [(ro, .inl (τ 2, 48, .inl (fun j => iI ((op) j))))], [(rt, .inl (τ 0, 10, .inl (fun j => iI ((ty) j))))]]) sz)) 0 0 (va_A (bl [[(rd, .inr (8, [.ref ri, .int (iI (((L : Nat) : Int))), .int (iI (pl)), .int (iI (io)), .int (iI (er)), .int (iI (ea)), .int (iI (cn)), .ref rk, .ref rn, .ref ro, .ref rt]))], [(ri, .inl (τ 1, 500, .inl (fun j => iI ((b) j))))], [(rk, .inl (τ 0, 48, .inl (fun j => iI ((kd) j))))], [(rn, .inl (τ 0, 192, .inl (fun j => iI ((nu) j))))], [(ro, .inl (τ 2, 48, .inl (fun j => iI ((op) j))))], [(rt, .inl (τ 0, 10, .inl (fun j => iI ((ty) j))))]]) sz) := by
  refine bodyE (by decide +kernel) (Nat.le_of_ble_eq_true rfl) (fun p e s m below meth c ls B hr hlk hin hsz Y hE hl => ?_)
  have hl : lv_has ls 4 [(0, .ref rd), (1, .int (iI (0)))] := hl
  have B : CallFix p m c cX6_isWellRead 4 s _ wALL RX6 := B
  generalize va_A (bl [[(rd, .inr (8, [.ref ri, .int (iI (((L : Nat) : Int))), .int (iI (pl)), .int (iI (io)), .int (iI (er)), .int (iI (ea)), .int (iI (cn)), .ref rk, .ref rn, .ref ro, .ref rt]))], [(ri, .inl (τ 1, 500, .inl (fun j => iI ((b) j))))], [(rk, .inl (τ 0, 48, .inl (fun j => iI ((kd) j))))], [(rn, .inl (τ 0, 192, .inl (fun j => iI ((nu) j))))], [(ro, .inl (τ 2, 48, .inl (fun j => iI ((op) j))))], [(rt, .inl (τ 0, 10, .inl (fun j => iI ((ty) j))))]]) sz = A at Y hE ⊢
  obtain ⟨ch, tl0, hjh, hch⟩ := jnX_hd x0 xl
  have hb0 : b 0 = ch := by have q := hX; rw [hx0, hjh] at q; exact (ats_cons.mp q).1
  have hL1 : 1 ≤ L := by rw [← hLx, hx0, hjh]; simp
  refine lv_aload_n B.1 B.2.1 dX6_isWellRead_0 rfl (lv_at hl 0 rfl) ?_
  refine lv_iload_n B.1 B.2.1 dX6_isWellRead_1 rfl (lv_at hl 1 rfl) ?_
  refine pf_X6_22 (B' := [[(rd, .inr (8, [.ref ri, .int (iI (((L : Nat) : Int))), .int (iI (pl)), .int (iI (0)), .int (iI (er)), .int (iI (ea)), .int (iI (cn)), .ref rk, .ref rn, .ref ro, .ref rt]))], [(ri, .inl (τ 1, 500, .inl (fun j => iI ((b) j))))], [(rk, .inl (τ 0, 48, .inl (fun j => iI ((kd) j))))], [(rn, .inl (τ 0, 192, .inl (fun j => iI ((nu) j))))], [(ro, .inl (τ 2, 48, .inl (fun j => iI ((op) j))))], [(rt, .inl (τ 0, 10, .inl (fun j => iI ((ty) j))))]]) B Y (by decide) (by decide) 0 rfl (Nat.le_of_ble_eq_true rfl) rfl dX6_isWellRead_2 (fun H locs Y => ?_)
  refine lv_aload_n B.1 B.2.1 dX6_isWellRead_5 rfl (lv_at hl 0 rfl) ?_
  refine lv_iconst (v := (iI (0))) B.1 B.2.1 dX6_isWellRead_6 (by decide) ?_
  refine pf_X6_19 (B' := [[(rd, .inr (8, [.ref ri, .int (iI (((L : Nat) : Int))), .int (iI (0)), .int (iI (0)), .int (iI (er)), .int (iI (ea)), .int (iI (cn)), .ref rk, .ref rn, .ref ro, .ref rt]))], [(ri, .inl (τ 1, 500, .inl (fun j => iI ((b) j))))], [(rk, .inl (τ 0, 48, .inl (fun j => iI ((kd) j))))], [(rn, .inl (τ 0, 192, .inl (fun j => iI ((nu) j))))], [(ro, .inl (τ 2, 48, .inl (fun j => iI ((op) j))))], [(rt, .inl (τ 0, 10, .inl (fun j => iI ((ty) j))))]]) B Y 0 rfl (Nat.le_of_ble_eq_true rfl) rfl dX6_isWellRead_7 (fun H locs Y => ?_)
  refine lv_aload_n B.1 B.2.1 dX6_isWellRead_10 rfl (lv_at hl 0 rfl) ?_
  refine lv_iconst (v := (iI (0))) B.1 B.2.1 dX6_isWellRead_11 (by decide) ?_
  refine pf_X6_26 (B' := [[(rd, .inr (8, [.ref ri, .int (iI (((L : Nat) : Int))), .int (iI (0)), .int (iI (0)), .int (iI (0)), .int (iI (ea)), .int (iI (cn)), .ref rk, .ref rn, .ref ro, .ref rt]))], [(ri, .inl (τ 1, 500, .inl (fun j => iI ((b) j))))], [(rk, .inl (τ 0, 48, .inl (fun j => iI ((kd) j))))], [(rn, .inl (τ 0, 192, .inl (fun j => iI ((nu) j))))], [(ro, .inl (τ 2, 48, .inl (fun j => iI ((op) j))))], [(rt, .inl (τ 0, 10, .inl (fun j => iI ((ty) j))))]]) B Y 0 rfl (Nat.le_of_ble_eq_true rfl) rfl dX6_isWellRead_12 (fun H locs Y => ?_)
  refine lv_aload_n B.1 B.2.1 dX6_isWellRead_15 rfl (lv_at hl 0 rfl) ?_
  refine lv_iconst (v := (iI (-1))) B.1 B.2.1 dX6_isWellRead_16 (by decide) ?_
  refine pf_X6_29 (B' := [[(rd, .inr (8, [.ref ri, .int (iI (((L : Nat) : Int))), .int (iI (0)), .int (iI (0)), .int (iI (0)), .int (iI (-1)), .int (iI (cn)), .ref rk, .ref rn, .ref ro, .ref rt]))], [(ri, .inl (τ 1, 500, .inl (fun j => iI ((b) j))))], [(rk, .inl (τ 0, 48, .inl (fun j => iI ((kd) j))))], [(rn, .inl (τ 0, 192, .inl (fun j => iI ((nu) j))))], [(ro, .inl (τ 2, 48, .inl (fun j => iI ((op) j))))], [(rt, .inl (τ 0, 10, .inl (fun j => iI ((ty) j))))]]) B Y 0 rfl (Nat.le_of_ble_eq_true rfl) rfl dX6_isWellRead_17 (fun H locs Y => ?_)
  refine lv_aload_n B.1 B.2.1 dX6_isWellRead_20 rfl (lv_at hl 0 rfl) ?_
  refine lv_iconst (v := (iI (0))) B.1 B.2.1 dX6_isWellRead_21 (by decide) ?_
  refine pf_X6_32 (B' := [[(rd, .inr (8, [.ref ri, .int (iI (((L : Nat) : Int))), .int (iI (0)), .int (iI (0)), .int (iI (0)), .int (iI (-1)), .int (iI (0)), .ref rk, .ref rn, .ref ro, .ref rt]))], [(ri, .inl (τ 1, 500, .inl (fun j => iI ((b) j))))], [(rk, .inl (τ 0, 48, .inl (fun j => iI ((kd) j))))], [(rn, .inl (τ 0, 192, .inl (fun j => iI ((nu) j))))], [(ro, .inl (τ 2, 48, .inl (fun j => iI ((op) j))))], [(rt, .inl (τ 0, 10, .inl (fun j => iI ((ty) j))))]]) B Y 0 rfl (Nat.le_of_ble_eq_true rfl) rfl dX6_isWellRead_22 (fun H locs Y => ?_)
  refine lv_aload_n B.1 B.2.1 dX6_isWellRead_25 rfl (lv_at hl 0 rfl) ?_
  refine gf_X6_46 B Y 0 rfl rfl dX6_isWellRead_26 ?_
  refine lv_iconst (v := (iI (0))) B.1 B.2.1 dX6_isWellRead_29 (by decide) ?_
  refine qV (Cs := [[(rt, .inl (τ 0, 10, .inl (fun j => iI ((ty) j))))]]) (Rs := [[(rd, .inr (8, [.ref ri, .int (iI (((L : Nat) : Int))), .int (iI (0)), .int (iI (0)), .int (iI (0)), .int (iI (-1)), .int (iI (0)), .ref rk, .ref rn, .ref ro, .ref rt]))], [(ri, .inl (τ 1, 500, .inl (fun j => iI ((b) j))))], [(rk, .inl (τ 0, 48, .inl (fun j => iI ((kd) j))))], [(rn, .inl (τ 0, 192, .inl (fun j => iI ((nu) j))))], [(ro, .inl (τ 2, 48, .inl (fun j => iI ((op) j))))]]) Y [5] [0, 1, 2, 3, 4] (by decide) rfl (cS (As := [.ref rt, .int (iI (0))]) (rest := []) B Y [5] (by decide) rfl (k_fill l D τ _ rt 10 (ty) (0) (by decide)) q_777 q_114 q_7 q_115 rfl rfl hd_J7_fill_53178 ⟨(Nat.le_of_ble_eq_true rfl), (Nat.le_of_ble_eq_true rfl)⟩ rfl hl.1 rfl (Nat.le_of_ble_eq_true rfl) dX6_isWellRead_30 ⟨(Nat.le_of_ble_eq_true rfl), (Nat.le_of_ble_eq_true rfl)⟩) (fun u H locs hw Y => ?_)
  have Y : Wd D τ s A s.heap (bl [[(rt, .inl (τ 0, 10, .inl (fun j => iI ((filz (ty) 10 (0)) j))))], [(rd, .inr (8, [.ref ri, .int (iI (((L : Nat) : Int))), .int (iI (0)), .int (iI (0)), .int (iI (0)), .int (iI (-1)), .int (iI (0)), .ref rk, .ref rn, .ref ro, .ref rt]))], [(ri, .inl (τ 1, 500, .inl (fun j => iI ((b) j))))], [(rk, .inl (τ 0, 48, .inl (fun j => iI ((kd) j))))], [(rn, .inl (τ 0, 192, .inl (fun j => iI ((nu) j))))], [(ro, .inl (τ 2, 48, .inl (fun j => iI ((op) j))))]]) _ _ := Y
  refine lv_aload_n B.1 B.2.1 dX6_isWellRead_33 rfl (lv_at hl 0 rfl) ?_
  refine qV (Cs := [[(rd, .inr (8, [.ref ri, .int (iI (((L : Nat) : Int))), .int (iI (0)), .int (iI (0)), .int (iI (0)), .int (iI (-1)), .int (iI (0)), .ref rk, .ref rn, .ref ro, .ref rt]))], [(ri, .inl (τ 1, 500, .inl (fun j => iI ((b) j))))]]) (Rs := [[(rt, .inl (τ 0, 10, .inl (fun j => iI ((filz (ty) 10 (0)) j))))], [(rk, .inl (τ 0, 48, .inl (fun j => iI ((kd) j))))], [(rn, .inl (τ 0, 192, .inl (fun j => iI ((nu) j))))], [(ro, .inl (τ 2, 48, .inl (fun j => iI ((op) j))))]]) Y [1, 2] [0, 3, 4, 5] (by decide) rfl (cV (As := []) (rest := []) (q0 := 1) B Y [1, 2] (by decide) rfl (k_skipSpaces l D τ _ rd ri rk rn ro rt L (0) (0) ((-1)) (0) b (by omega) hb 0 0 (Nat.le_refl _) (Nat.zero_le _) (fun j h1 h2 => absurd h2 (Nat.not_lt_zero j)) (fun _ => by omega)) rfl rfl q_778 q_780 qp_5 q_3 q_781 rfl rfl hd_X6_skipSpaces ⟨(Nat.le_of_ble_eq_true rfl), (Nat.le_of_ble_eq_true rfl)⟩ rfl hl.1 rfl (Nat.le_of_ble_eq_true rfl) dX6_isWellRead_34 ⟨(Nat.le_of_ble_eq_true rfl), (Nat.le_of_ble_eq_true rfl)⟩) (fun u H locs hw Y => ?_)
  have Y : Wd D τ s A s.heap (bl [[(rd, .inr (8, [.ref ri, .int (iI (((L : Nat) : Int))), .int (iI ((0 : Nat) : Int)), .int (iI (0)), .int (iI (0)), .int (iI (-1)), .int (iI (0)), .ref rk, .ref rn, .ref ro, .ref rt]))], [(ri, .inl (τ 1, 500, .inl (fun j => iI ((b) j))))], [(rt, .inl (τ 0, 10, .inl (fun j => iI ((filz (ty) 10 (0)) j))))], [(rk, .inl (τ 0, 48, .inl (fun j => iI ((kd) j))))], [(rn, .inl (τ 0, 192, .inl (fun j => iI ((nu) j))))], [(ro, .inl (τ 2, 48, .inl (fun j => iI ((op) j))))]]) _ _ := Y
  refine lv_aload_n B.1 B.2.1 dX6_isWellRead_37 rfl (lv_at hl 0 rfl) ?_
  refine gf_X6_22 B Y 0 rfl rfl dX6_isWellRead_38 ?_
  refine lv_if_eq (tgt := 55) B.1 B.2.1 dX6_isWellRead_41 (by decide) (fun _ => ?_) (fun h => absurd (by decide) h) 
  refine lv_iconst (v := (iI (1))) B.1 B.2.1 dX6_isWellRead_55 (by decide) ?_
  refine lv_goto (tgt := 60) B.1 B.2.1 dX6_isWellRead_56 (by decide) ?_
  refine lv_istore_n (lv' := [(2, .int (iI (1))), (0, .ref rd), (1, .int (iI (0)))]) B.1 B.2.1 dX6_isWellRead_60 rfl hl (by decide) rfl (fun ls hl => ?_)
  refine lv_iconst (v := (iI (0))) B.1 B.2.1 dX6_isWellRead_61 (by decide) ?_
  refine lv_istore_n (lv' := [(3, .int (iI (0))), (2, .int (iI (1))), (0, .ref rd), (1, .int (iI (0)))]) B.1 B.2.1 dX6_isWellRead_62 rfl hl (by decide) rfl (fun ls hl => ?_)
  have hl : lv_has ls 4 [(0, .ref rd), (2, .int (iI (1))), (3, .int (iI ((0 : Nat) : Int)))] := lv_sub hl [2, 1, 0] rfl
  rw [show iI 1 = iI (if 0 < xs.length then 1 else 0) from by rw [if_pos (by rw [hx0]; exact Nat.succ_pos _)]] at hl
  refine loopW (n := xs.length) (P := fun (i : Nat) (H : Heap) (locs : List Loc) (ls : Array Slot) => ∃ pt : Nat, ∃ T : Tb, (tbF xs 0 (kd, nu, op, filz ty 10 0) = tbF (xs.drop i) i T) ∧ (pt ≤ L ∧ (i < xs.length ∧ ats b pt (jnX (xs.drop i)) ∧ pt + (jnX (xs.drop i)).length = L ∨ i = xs.length ∧ pt = L)) ∧ (∀ k9 : Nat, k9 < 10 → cntX k9 (xs.drop i) + T.2.2.2 k9 = cntX k9 xs) ∧ (∀ k9 : Nat, k9 < 10 → 0 ≤ T.2.2.2 k9) ∧ lv_has ls 4 [(0, .ref rd), (2, .int (iI ((if i < xs.length then 1 else 0)))), (3, .int (iI ((i : Nat) : Int)))] ∧ Wd D τ s A s.heap (bl [[(rd, .inr (8, [.ref ri, .int (iI (((L : Nat) : Int))), .int (iI (((pt : Nat) : Int))), .int (iI (0)), .int (iI (0)), .int (iI ((-1))), .int (iI (((i : Nat) : Int))), .ref rk, .ref rn, .ref ro, .ref rt]))], [(ri, .inl (τ 1, 500, .inl (fun j => iI ((b) j))))], [(rk, .inl (τ 0, 48, .inl (fun j => iI ((T.1) j))))], [(rn, .inl (τ 0, 192, .inl (fun j => iI ((T.2.1) j))))], [(ro, .inl (τ 2, 48, .inl (fun j => iI ((T.2.2.1) j))))], [(rt, .inl (τ 0, 10, .inl (fun j => iI ((T.2.2.2) j))))]]) H locs) 0 (Nat.zero_le _) ⟨0, (kd, nu, op, filz ty 10 0), rfl, ⟨Nat.zero_le _, Or.inl ⟨by rw [hx0]; exact Nat.succ_pos _, hX, by rw [Nat.zero_add]; exact hLx⟩⟩, (fun k9 h9 => by show cntX k9 xs + filz ty 10 0 k9 = cntX k9 xs; rw [filz_z ty k9 h9, Int.add_zero]), (fun k9 h9 => by show 0 ≤ filz ty 10 0 k9; rw [filz_z ty k9 h9]; exact Int.le_refl 0), lv_sub hl [0, 1, 2] rfl, Y.pick [0, 1, 3, 4, 5, 2] (by decide) rfl⟩ (fun H locs ls hP => ?_) (fun i hlt H locs ls hP ih => ?_)
  · obtain ⟨pt, T, hmv, hpx, hcc, hty0, hl, Y⟩ := hP
    obtain ⟨hpt, hrd⟩ := hpx
    have hdn : xs.drop xs.length = [] := List.drop_length
    rw [hdn] at hmv hrd
    have hpL : pt = L := by rcases hrd with q | q; (· exact absurd q.1 (Nat.lt_irrefl _)); (· exact q.2)
    rw [hpL] at Y
    have hTT : (tbF xs 0 (kd, nu, op, filz ty 10 0)) = T := hmv
    rw [hTT]
    refine lv_iload_n B.1 B.2.1 dX6_isWellRead_63 rfl (lv_at hl 2 rfl) ?_
    refine lv_sipush (v := (iI (500))) B.1 B.2.1 dX6_isWellRead_64 (by decide) ?_
    refine lv_icmp_ge (tgt := 100) B.1 B.2.1 dX6_isWellRead_67 (by decide) (fun h => absurd h (mt (iI_le (a := 500) (b := ((xs.length : Nat) : Int)) (by omega) (by omega) (by omega) (by omega)).mp (by omega))) (fun _ => ?_)
    refine lv_iload_n B.1 B.2.1 dX6_isWellRead_70 rfl (lv_at hl 1 rfl) ?_
    refine lv_if_eq (tgt := 100) B.1 B.2.1 dX6_isWellRead_71 (by decide) (fun _ => ?_) (fun h => absurd (by rw [if_neg (Nat.lt_irrefl _)]; rfl) h) 
    refine lv_aload_n B.1 B.2.1 dX6_isWellRead_100 rfl (lv_at hl 0 rfl) ?_
    refine lv_iconst (v := (iI (0))) B.1 B.2.1 dX6_isWellRead_101 (by decide) ?_
    refine pf_X6_15 (B' := [[(rd, .inr (8, [.ref ri, .int (iI (0)), .int (iI (((L : Nat) : Int))), .int (iI (0)), .int (iI (0)), .int (iI ((-1))), .int (iI (((xs.length : Nat) : Int))), .ref rk, .ref rn, .ref ro, .ref rt]))], [(ri, .inl (τ 1, 500, .inl (fun j => iI ((b) j))))], [(rk, .inl (τ 0, 48, .inl (fun j => iI ((T.1) j))))], [(rn, .inl (τ 0, 192, .inl (fun j => iI ((T.2.1) j))))], [(ro, .inl (τ 2, 48, .inl (fun j => iI ((T.2.2.1) j))))], [(rt, .inl (τ 0, 10, .inl (fun j => iI ((T.2.2.2) j))))]]) B Y 0 rfl (Nat.le_of_ble_eq_true rfl) rfl dX6_isWellRead_102 (fun H locs Y => ?_)
    refine lv_aload_n B.1 B.2.1 dX6_isWellRead_105 rfl (lv_at hl 0 rfl) ?_
    refine gf_X6_26 B Y 0 rfl rfl dX6_isWellRead_106 ?_
    refine lv_if_ne (tgt := 116) B.1 B.2.1 dX6_isWellRead_109 (by decide) (fun h => absurd (by decide) h) (fun _ => ?_)
    refine lv_iconst (v := (iI (1))) B.1 B.2.1 dX6_isWellRead_112 (by decide) ?_
    refine lv_goto (tgt := 117) B.1 B.2.1 dX6_isWellRead_113 (by decide) ?_
    exact eZ B hr hlk Y (by decide) () rfl [0, 1, 2, 3, 4, 5] (by decide) rfl (Nat.le_of_ble_eq_true rfl) (Nat.le_of_ble_eq_true rfl) dX6_isWellRead_117
  · obtain ⟨pt, T, hmv, hpx, hcc, hty0, hl, Y⟩ := hP
    obtain ⟨hpt, hrd⟩ := hpx
    obtain ⟨sx, hsx⟩ : ∃ y, xs[i]? = some y := ⟨_, List.getElem?_eq_getElem hlt⟩
    have hdr : xs.drop i = sx :: xs.drop (i + 1) := by rw [List.drop_eq_getElem_cons hlt]; congr 1; exact Option.some.inj ((List.getElem?_eq_getElem hlt).symm.trans hsx)
    have hso := hxs sx (List.mem_of_getElem? hsx)
    rw [hdr] at hmv hrd hcc
    have hra := hrd.elim id (fun q => absurd q.1 (by omega))
    have hrl : (xs.drop (i + 1)).length = xs.length - (i + 1) := List.length_drop
    have hc0 := hcc 0 (by decide)
    have hc1 := hcc 1 (by decide)
    have hc2 := hcc 2 (by decide)
    have hc3 := hcc 3 (by decide)
    have p0 := cntX_pos 0 (xs.drop (i + 1))
    have p1 := cntX_pos 1 (xs.drop (i + 1))
    have p2 := cntX_pos 2 (xs.drop (i + 1))
    have p3 := cntX_pos 3 (xs.drop (i + 1))
    have hge : ∀ k9 : Nat, k9 < 10 → 0 ≤ T.2.2.2 k9 := hty0
    have hd0 : (if sx.k = 0 then (1 : Int) else 0) + cntX 0 (xs.drop (i + 1)) + T.2.2.2 0 = cntX 0 xs := hc0
    have hd1 : (if sx.k = 1 then (1 : Int) else 0) + cntX 1 (xs.drop (i + 1)) + T.2.2.2 1 = cntX 1 xs := hc1
    have hd2 : (if sx.k = 2 then (1 : Int) else 0) + cntX 2 (xs.drop (i + 1)) + T.2.2.2 2 = cntX 2 xs := hc2
    have hd3 : (if sx.k = 3 then (1 : Int) else 0) + cntX 3 (xs.drop (i + 1)) + T.2.2.2 3 = cntX 3 xs := hc3
    have hi0 : i = 0 → sx.k = 0 := fun q => by subst q; rw [hx0] at hsx; rw [← Option.some.inj hsx]; exact hk0
    rcases hso with ⟨hk, n0, n1, n2, ho⟩ | ⟨hk, n0, ho⟩ | ⟨hk, n0, ho⟩ | ⟨hk, n0, n1, ho⟩ | ⟨hk, n0, n1, ho⟩
    · rw [hk] at hd0 hd1 hd2 hd3 hi0
      rw [if_pos (by decide)] at hd0
      rw [if_neg (by decide)] at hd1
      rw [if_neg (by decide)] at hd2
      rw [if_neg (by decide)] at hd3
      have hst : stX sx = (ksZ 0 ++ (32 :: (sx.d0 ++ (32 :: (sx.d1 ++ (32 :: (sx.d2 ++ []))))))) := if_pos hk
      have hkl : (ksZ 0).length = 4 := by decide
      have hkf : (ksZ 10).length = 4 := by decide
      have hsl : (stX sx).length = (pt + 5 + sx.d0.length + 1 + sx.d1.length + 1 + sx.d2.length) - pt := by rw [hst]; simp only [List.length_append, List.length_cons, List.length_nil, hkl, hkf]; omega
      rcases hrest : xs.drop (i + 1) with _ | ⟨sy, sl⟩
      · rw [hrest] at hra hrl
        have hxx : ats b pt (stX sx) := hra.2.1
        have hee : pt + (stX sx).length = L := hra.2.2
        have hin : i + 1 = xs.length := by simp at hrl; omega
        have hle : (pt + 5 + sx.d0.length + 1 + sx.d1.length + 1 + sx.d2.length) = L := by omega
        have hnx : (pt + 5 + sx.d0.length + 1 + sx.d1.length + 1 + sx.d2.length) < L → b (pt + 5 + sx.d0.length + 1 + sx.d1.length + 1 + sx.d2.length) = 59 := fun q => absurd q (by omega)
        rw [hst] at hxx
        refine lv_iload_n B.1 B.2.1 dX6_isWellRead_63 rfl (lv_at hl 2 rfl) ?_
        refine lv_sipush (v := (iI (500))) B.1 B.2.1 dX6_isWellRead_64 (by decide) ?_
        refine lv_icmp_ge (tgt := 100) B.1 B.2.1 dX6_isWellRead_67 (by decide) (fun h => absurd h (mt (iI_le (a := 500) (b := ((i : Nat) : Int)) (by omega) (by omega) (by omega) (by omega)).mp (by omega))) (fun _ => ?_)
        refine lv_iload_n B.1 B.2.1 dX6_isWellRead_70 rfl (lv_at hl 1 rfl) ?_
        refine lv_if_eq (tgt := 100) B.1 B.2.1 dX6_isWellRead_71 (by decide) (fun h => absurd h (by rw [if_pos hlt]; decide)) (fun _ => ?_)
        refine lv_aload_n B.1 B.2.1 dX6_isWellRead_74 rfl (lv_at hl 0 rfl) ?_
        refine qI (Cs := [[(rd, .inr (8, [.ref ri, .int (iI (((L : Nat) : Int))), .int (iI (((pt : Nat) : Int))), .int (iI (0)), .int (iI (0)), .int (iI ((-1))), .int (iI (((i : Nat) : Int))), .ref rk, .ref rn, .ref ro, .ref rt]))], [(ri, .inl (τ 1, 500, .inl (fun j => iI ((b) j))))], [(rk, .inl (τ 0, 48, .inl (fun j => iI ((T.1) j))))], [(rn, .inl (τ 0, 192, .inl (fun j => iI ((T.2.1) j))))], [(ro, .inl (τ 2, 48, .inl (fun j => iI ((T.2.2.1) j))))], [(rt, .inl (τ 0, 10, .inl (fun j => iI ((T.2.2.2) j))))]]) (Rs := []) Y [0, 1, 2, 3, 4, 5] [] (by decide) rfl (cVE (As := []) (rest := []) (q0 := 0) (Ke.ok K) hE B Y [0, 1, 2, 3, 4, 5] (by decide) rfl (k_isStatementRead0 l D τ _ K rd ri rk rn ro rt L i 0 (-1) b T.1 T.2.1 T.2.2.1 T.2.2.2 (by omega) hb pt sx.d0 sx.v0 n0 sx.d1 sx.v1 n1 sx.d2 sx.v2 n2 hxx (by omega) hnx (by omega) ⟨hge 0 (by decide), by omega⟩ ⟨by omega, by omega, hge 0 (by decide), hge 3 (by decide)⟩) rfl rfl q_786 q_788 qp_7 q_3 q_789 rfl rfl hd_X6_isStatementRead ⟨(Nat.le_of_ble_eq_true rfl), (Nat.le_of_ble_eq_true rfl)⟩ rfl hl.1 rfl (Nat.le_of_ble_eq_true rfl) dX6_isWellRead_75 ⟨(Nat.le_of_ble_eq_true rfl), (Nat.le_of_ble_eq_true rfl)⟩) (fun r u H locs hw Y => ?_)
        subst hw
        have Y : Wd D τ s A s.heap (bl [[(rd, .inr (8, [.ref ri, .int (iI (((L : Nat) : Int))), .int (iI ((((pt + 5 + sx.d0.length + 1 + sx.d1.length + 1 + sx.d2.length) : Nat) : Int))), .int (iI (0)), .int (iI (0)), .int (iI ((-1))), .int (iI (((i + 1 : Nat) : Int))), .ref rk, .ref rn, .ref ro, .ref rt]))], [(ri, .inl (τ 1, 500, .inl (fun j => iI ((b) j))))], [(rk, .inl (τ 0, 48, .inl (fun j => iI ((upz T.1 i 0) j))))], [(rn, .inl (τ 0, 192, .inl (fun j => iI ((upz (upz (upz (T.2.1) (4 * i + 0) sx.v0) (4 * i + 1) sx.v1) (4 * i + 2) sx.v2) j))))], [(ro, .inl (τ 2, 48, .inl (fun j => iI ((upz T.2.2.1 i 0) j))))], [(rt, .inl (τ 0, 10, .inl (fun j => iI ((upz T.2.2.2 0 (T.2.2.2 0 + 1)) j))))]]) _ _ := Y
        refine lv_if_eq (tgt := 92) B.1 B.2.1 dX6_isWellRead_78 (by decide) (fun h => absurd h (by decide)) (fun _ => ?_)
        refine lv_aload_n B.1 B.2.1 dX6_isWellRead_81 rfl (lv_at hl 0 rfl) ?_
        rw [hle] at Y
        refine qI (Cs := [[(rd, .inr (8, [.ref ri, .int (iI (((L : Nat) : Int))), .int (iI ((L : Nat) : Int)), .int (iI (0)), .int (iI (0)), .int (iI ((-1))), .int (iI (((i + 1 : Nat) : Int))), .ref rk, .ref rn, .ref ro, .ref rt]))], [(ri, .inl (τ 1, 500, .inl (fun j => iI ((b) j))))]]) (Rs := [[(rk, .inl (τ 0, 48, .inl (fun j => iI ((upz T.1 i 0) j))))], [(rn, .inl (τ 0, 192, .inl (fun j => iI ((upz (upz (upz (T.2.1) (4 * i + 0) sx.v0) (4 * i + 1) sx.v1) (4 * i + 2) sx.v2) j))))], [(ro, .inl (τ 2, 48, .inl (fun j => iI ((upz T.2.2.1 i 0) j))))], [(rt, .inl (τ 0, 10, .inl (fun j => iI ((upz T.2.2.2 0 (T.2.2.2 0 + 1)) j))))]]) Y [0, 1] [2, 3, 4, 5] (by decide) rfl (cV (As := []) (rest := []) (q0 := 0) B Y [0, 1] (by decide) rfl (k_isAnotherDue_end l D τ _ rd ri rk rn ro rt L (0) ((-1)) (((i + 1 : Nat) : Int)) b (by omega) hb) rfl rfl q_853 q_855 qp_17 q_3 q_856 rfl rfl hd_X6_isAnotherDue ⟨(Nat.le_of_ble_eq_true rfl), (Nat.le_of_ble_eq_true rfl)⟩ rfl hl.1 rfl (Nat.le_of_ble_eq_true rfl) dX6_isWellRead_82 ⟨(Nat.le_of_ble_eq_true rfl), (Nat.le_of_ble_eq_true rfl)⟩) (fun r u H locs hw Y => ?_)
        subst hw
        have Y : Wd D τ s A s.heap (bl [[(rd, .inr (8, [.ref ri, .int (iI (((L : Nat) : Int))), .int (iI ((L : Nat) : Int)), .int (iI (0)), .int (iI (0)), .int (iI ((-1))), .int (iI (((i + 1 : Nat) : Int))), .ref rk, .ref rn, .ref ro, .ref rt]))], [(ri, .inl (τ 1, 500, .inl (fun j => iI ((b) j))))], [(rk, .inl (τ 0, 48, .inl (fun j => iI ((upz T.1 i 0) j))))], [(rn, .inl (τ 0, 192, .inl (fun j => iI ((upz (upz (upz (T.2.1) (4 * i + 0) sx.v0) (4 * i + 1) sx.v1) (4 * i + 2) sx.v2) j))))], [(ro, .inl (τ 2, 48, .inl (fun j => iI ((upz T.2.2.1 i 0) j))))], [(rt, .inl (τ 0, 10, .inl (fun j => iI ((upz T.2.2.2 0 (T.2.2.2 0 + 1)) j))))]]) _ _ := Y
        refine lv_if_eq (tgt := 92) B.1 B.2.1 dX6_isWellRead_85 (by decide) (fun _ => ?_) (fun h => absurd (by decide) h) 
        refine lv_iconst (v := (iI (0))) B.1 B.2.1 dX6_isWellRead_92 (by decide) ?_
        refine lv_istore_n (lv' := [(2, .int (iI (0))), (0, .ref rd), (3, .int (iI ((i : Nat) : Int)))]) B.1 B.2.1 dX6_isWellRead_93 rfl hl (by decide) rfl (fun ls hl => ?_)
        refine lv_iinc (v := (iI (((i + 1) : Nat) : Int))) (lv' := [(3, .int (iI (((i + 1) : Nat) : Int))), (2, .int (iI (0))), (0, .ref rd)]) B.1 B.2.1 dX6_isWellRead_94 hl (k := 2) rfl (iI_inc _) (by decide) rfl (fun ls hl => ?_)
        refine lv_goto (tgt := 63) B.1 B.2.1 dX6_isWellRead_97 (by decide) ?_
        have hstp : stepT i sx T = (upz T.1 i 0, upz (upz (upz (T.2.1) (4 * i + 0) sx.v0) (4 * i + 1) sx.v1) (4 * i + 2) sx.v2, upz T.2.2.1 i 0, (upz T.2.2.2 0 (T.2.2.2 0 + 1))) := by unfold stepT nuT; rw [hk, ho]; rfl
        rw [show iI 0 = iI (if (i + 1) < xs.length then 1 else 0) from by rw [if_neg (by omega)]] at hl
        exact ih H locs ls ⟨L, (upz T.1 i 0, upz (upz (upz (T.2.1) (4 * i + 0) sx.v0) (4 * i + 1) sx.v1) (4 * i + 2) sx.v2, upz T.2.2.1 i 0, (upz T.2.2.2 0 (T.2.2.2 0 + 1))), (hmv.trans (show tbF (xs.drop (i + 1)) (i + 1) (stepT i sx T) = _ by rw [hstp])), ⟨by omega, Or.inr ⟨by omega, rfl⟩⟩, (fun k9 h9 => by have q := hcc k9 h9; have q2 : (if sx.k = k9 then (1 : Int) else 0) + cntX k9 (xs.drop (i + 1)) + T.2.2.2 k9 = cntX k9 xs := q; rw [hk] at q2; show cntX k9 (xs.drop (i + 1)) + upz T.2.2.2 0 (T.2.2.2 0 + 1) k9 = cntX k9 xs; by_cases q3 : k9 = 0; (· subst q3; rw [upz_k]; rw [if_pos rfl] at q2; omega); (· rw [upz_ne _ _ q3]; rw [if_neg (fun q4 => q3 q4.symm)] at q2; omega)), (fun k9 h9 => by show 0 ≤ upz T.2.2.2 0 (T.2.2.2 0 + 1) k9; by_cases q3 : k9 = 0; (· subst q3; rw [upz_k]; have := hge 0 (by decide); omega); (· rw [upz_ne _ _ q3]; exact hge k9 h9)), lv_sub hl [2, 1, 0] rfl, Y.pick [0, 1, 2, 3, 4, 5] (by decide) rfl⟩
      · rw [hrest] at hra hrl
        have hxx0 := ats_app.mp (show ats b pt (stX sx ++ (59 :: jnX (sy :: sl))) from hra.2.1)
        have hxx := hxx0.1
        have hsc := ats_cons.mp hxx0.2
        have hee : pt + (stX sx).length + 1 + (jnX (sy :: sl)).length = L := by have q : pt + (stX sx ++ (59 :: jnX (sy :: sl))).length = L := hra.2.2; rw [List.length_append, List.length_cons] at q; omega
        obtain ⟨c9, t9, hj9, hc9⟩ := jnX_hd sy sl
        have hl9 : 1 ≤ (jnX (sy :: sl)).length := by rw [hj9]; simp
        have hin : i + 1 < xs.length := by simp at hrl; omega
        have hpe : pt + (stX sx).length = (pt + 5 + sx.d0.length + 1 + sx.d1.length + 1 + sx.d2.length) := by omega
        rw [hpe] at hsc
        have hle : (pt + 5 + sx.d0.length + 1 + sx.d1.length + 1 + sx.d2.length) + 1 < L := by omega
        have hnx : (pt + 5 + sx.d0.length + 1 + sx.d1.length + 1 + sx.d2.length) < L → b (pt + 5 + sx.d0.length + 1 + sx.d1.length + 1 + sx.d2.length) = 59 := fun _ => hsc.1
        have hn9 : b ((pt + 5 + sx.d0.length + 1 + sx.d1.length + 1 + sx.d2.length) + 1) = c9 := by have q := hsc.2; rw [hj9] at q; exact (ats_cons.mp q).1
        rw [hst] at hxx
        refine lv_iload_n B.1 B.2.1 dX6_isWellRead_63 rfl (lv_at hl 2 rfl) ?_
        refine lv_sipush (v := (iI (500))) B.1 B.2.1 dX6_isWellRead_64 (by decide) ?_
        refine lv_icmp_ge (tgt := 100) B.1 B.2.1 dX6_isWellRead_67 (by decide) (fun h => absurd h (mt (iI_le (a := 500) (b := ((i : Nat) : Int)) (by omega) (by omega) (by omega) (by omega)).mp (by omega))) (fun _ => ?_)
        refine lv_iload_n B.1 B.2.1 dX6_isWellRead_70 rfl (lv_at hl 1 rfl) ?_
        refine lv_if_eq (tgt := 100) B.1 B.2.1 dX6_isWellRead_71 (by decide) (fun h => absurd h (by rw [if_pos hlt]; decide)) (fun _ => ?_)
        refine lv_aload_n B.1 B.2.1 dX6_isWellRead_74 rfl (lv_at hl 0 rfl) ?_
        refine qI (Cs := [[(rd, .inr (8, [.ref ri, .int (iI (((L : Nat) : Int))), .int (iI (((pt : Nat) : Int))), .int (iI (0)), .int (iI (0)), .int (iI ((-1))), .int (iI (((i : Nat) : Int))), .ref rk, .ref rn, .ref ro, .ref rt]))], [(ri, .inl (τ 1, 500, .inl (fun j => iI ((b) j))))], [(rk, .inl (τ 0, 48, .inl (fun j => iI ((T.1) j))))], [(rn, .inl (τ 0, 192, .inl (fun j => iI ((T.2.1) j))))], [(ro, .inl (τ 2, 48, .inl (fun j => iI ((T.2.2.1) j))))], [(rt, .inl (τ 0, 10, .inl (fun j => iI ((T.2.2.2) j))))]]) (Rs := []) Y [0, 1, 2, 3, 4, 5] [] (by decide) rfl (cVE (As := []) (rest := []) (q0 := 0) (Ke.ok K) hE B Y [0, 1, 2, 3, 4, 5] (by decide) rfl (k_isStatementRead0 l D τ _ K rd ri rk rn ro rt L i 0 (-1) b T.1 T.2.1 T.2.2.1 T.2.2.2 (by omega) hb pt sx.d0 sx.v0 n0 sx.d1 sx.v1 n1 sx.d2 sx.v2 n2 hxx (by omega) hnx (by omega) ⟨hge 0 (by decide), by omega⟩ ⟨by omega, by omega, hge 0 (by decide), hge 3 (by decide)⟩) rfl rfl q_786 q_788 qp_7 q_3 q_789 rfl rfl hd_X6_isStatementRead ⟨(Nat.le_of_ble_eq_true rfl), (Nat.le_of_ble_eq_true rfl)⟩ rfl hl.1 rfl (Nat.le_of_ble_eq_true rfl) dX6_isWellRead_75 ⟨(Nat.le_of_ble_eq_true rfl), (Nat.le_of_ble_eq_true rfl)⟩) (fun r u H locs hw Y => ?_)
        subst hw
        have Y : Wd D τ s A s.heap (bl [[(rd, .inr (8, [.ref ri, .int (iI (((L : Nat) : Int))), .int (iI ((((pt + 5 + sx.d0.length + 1 + sx.d1.length + 1 + sx.d2.length) : Nat) : Int))), .int (iI (0)), .int (iI (0)), .int (iI ((-1))), .int (iI (((i + 1 : Nat) : Int))), .ref rk, .ref rn, .ref ro, .ref rt]))], [(ri, .inl (τ 1, 500, .inl (fun j => iI ((b) j))))], [(rk, .inl (τ 0, 48, .inl (fun j => iI ((upz T.1 i 0) j))))], [(rn, .inl (τ 0, 192, .inl (fun j => iI ((upz (upz (upz (T.2.1) (4 * i + 0) sx.v0) (4 * i + 1) sx.v1) (4 * i + 2) sx.v2) j))))], [(ro, .inl (τ 2, 48, .inl (fun j => iI ((upz T.2.2.1 i 0) j))))], [(rt, .inl (τ 0, 10, .inl (fun j => iI ((upz T.2.2.2 0 (T.2.2.2 0 + 1)) j))))]]) _ _ := Y
        refine lv_if_eq (tgt := 92) B.1 B.2.1 dX6_isWellRead_78 (by decide) (fun h => absurd h (by decide)) (fun _ => ?_)
        refine lv_aload_n B.1 B.2.1 dX6_isWellRead_81 rfl (lv_at hl 0 rfl) ?_
        refine qI (Cs := [[(rd, .inr (8, [.ref ri, .int (iI (((L : Nat) : Int))), .int (iI ((((pt + 5 + sx.d0.length + 1 + sx.d1.length + 1 + sx.d2.length) : Nat) : Int))), .int (iI (0)), .int (iI (0)), .int (iI ((-1))), .int (iI (((i + 1 : Nat) : Int))), .ref rk, .ref rn, .ref ro, .ref rt]))], [(ri, .inl (τ 1, 500, .inl (fun j => iI ((b) j))))]]) (Rs := [[(rk, .inl (τ 0, 48, .inl (fun j => iI ((upz T.1 i 0) j))))], [(rn, .inl (τ 0, 192, .inl (fun j => iI ((upz (upz (upz (T.2.1) (4 * i + 0) sx.v0) (4 * i + 1) sx.v1) (4 * i + 2) sx.v2) j))))], [(ro, .inl (τ 2, 48, .inl (fun j => iI ((upz T.2.2.1 i 0) j))))], [(rt, .inl (τ 0, 10, .inl (fun j => iI ((upz T.2.2.2 0 (T.2.2.2 0 + 1)) j))))]]) Y [0, 1] [2, 3, 4, 5] (by decide) rfl (cV (As := []) (rest := []) (q0 := 0) B Y [0, 1] (by decide) rfl (k_isAnotherDue_0 l D τ _ rd ri rk rn ro rt L (0) ((-1)) (((i + 1 : Nat) : Int)) b (by omega) hb (pt + 5 + sx.d0.length + 1 + sx.d1.length + 1 + sx.d2.length) (by omega) (hnx (by omega)) (by omega) (by omega)) rfl rfl q_853 q_855 qp_17 q_3 q_856 rfl rfl hd_X6_isAnotherDue ⟨(Nat.le_of_ble_eq_true rfl), (Nat.le_of_ble_eq_true rfl)⟩ rfl hl.1 rfl (Nat.le_of_ble_eq_true rfl) dX6_isWellRead_82 ⟨(Nat.le_of_ble_eq_true rfl), (Nat.le_of_ble_eq_true rfl)⟩) (fun r u H locs hw Y => ?_)
        subst hw
        have Y : Wd D τ s A s.heap (bl [[(rd, .inr (8, [.ref ri, .int (iI (((L : Nat) : Int))), .int (iI ((((pt + 5 + sx.d0.length + 1 + sx.d1.length + 1 + sx.d2.length) + 1) : Nat) : Int)), .int (iI (0)), .int (iI (0)), .int (iI ((-1))), .int (iI (((i + 1 : Nat) : Int))), .ref rk, .ref rn, .ref ro, .ref rt]))], [(ri, .inl (τ 1, 500, .inl (fun j => iI ((b) j))))], [(rk, .inl (τ 0, 48, .inl (fun j => iI ((upz T.1 i 0) j))))], [(rn, .inl (τ 0, 192, .inl (fun j => iI ((upz (upz (upz (T.2.1) (4 * i + 0) sx.v0) (4 * i + 1) sx.v1) (4 * i + 2) sx.v2) j))))], [(ro, .inl (τ 2, 48, .inl (fun j => iI ((upz T.2.2.1 i 0) j))))], [(rt, .inl (τ 0, 10, .inl (fun j => iI ((upz T.2.2.2 0 (T.2.2.2 0 + 1)) j))))]]) _ _ := Y
        refine lv_if_eq (tgt := 92) B.1 B.2.1 dX6_isWellRead_85 (by decide) (fun h => absurd h (by decide)) (fun _ => ?_)
        refine lv_iconst (v := (iI (1))) B.1 B.2.1 dX6_isWellRead_88 (by decide) ?_
        refine lv_goto (tgt := 93) B.1 B.2.1 dX6_isWellRead_89 (by decide) ?_
        refine lv_istore_n (lv' := [(2, .int (iI (1))), (0, .ref rd), (3, .int (iI ((i : Nat) : Int)))]) B.1 B.2.1 dX6_isWellRead_93 rfl hl (by decide) rfl (fun ls hl => ?_)
        refine lv_iinc (v := (iI (((i + 1) : Nat) : Int))) (lv' := [(3, .int (iI (((i + 1) : Nat) : Int))), (2, .int (iI (1))), (0, .ref rd)]) B.1 B.2.1 dX6_isWellRead_94 hl (k := 2) rfl (iI_inc _) (by decide) rfl (fun ls hl => ?_)
        refine lv_goto (tgt := 63) B.1 B.2.1 dX6_isWellRead_97 (by decide) ?_
        have hstp : stepT i sx T = (upz T.1 i 0, upz (upz (upz (T.2.1) (4 * i + 0) sx.v0) (4 * i + 1) sx.v1) (4 * i + 2) sx.v2, upz T.2.2.1 i 0, (upz T.2.2.2 0 (T.2.2.2 0 + 1))) := by unfold stepT nuT; rw [hk, ho]; rfl
        rw [show iI 1 = iI (if (i + 1) < xs.length then 1 else 0) from by rw [if_pos (by omega)]] at hl
        exact ih H locs ls ⟨((pt + 5 + sx.d0.length + 1 + sx.d1.length + 1 + sx.d2.length) + 1), (upz T.1 i 0, upz (upz (upz (T.2.1) (4 * i + 0) sx.v0) (4 * i + 1) sx.v1) (4 * i + 2) sx.v2, upz T.2.2.1 i 0, (upz T.2.2.2 0 (T.2.2.2 0 + 1))), (hmv.trans (show tbF (xs.drop (i + 1)) (i + 1) (stepT i sx T) = _ by rw [hstp])), ⟨by omega, Or.inl ⟨hin, by rw [hrest]; exact hsc.2, by rw [hrest]; omega⟩⟩, (fun k9 h9 => by have q := hcc k9 h9; have q2 : (if sx.k = k9 then (1 : Int) else 0) + cntX k9 (xs.drop (i + 1)) + T.2.2.2 k9 = cntX k9 xs := q; rw [hk] at q2; show cntX k9 (xs.drop (i + 1)) + upz T.2.2.2 0 (T.2.2.2 0 + 1) k9 = cntX k9 xs; by_cases q3 : k9 = 0; (· subst q3; rw [upz_k]; rw [if_pos rfl] at q2; omega); (· rw [upz_ne _ _ q3]; rw [if_neg (fun q4 => q3 q4.symm)] at q2; omega)), (fun k9 h9 => by show 0 ≤ upz T.2.2.2 0 (T.2.2.2 0 + 1) k9; by_cases q3 : k9 = 0; (· subst q3; rw [upz_k]; have := hge 0 (by decide); omega); (· rw [upz_ne _ _ q3]; exact hge k9 h9)), lv_sub hl [2, 1, 0] rfl, Y.pick [0, 1, 2, 3, 4, 5] (by decide) rfl⟩
    · rw [hk] at hd0 hd1 hd2 hd3 hi0
      rw [if_neg (by decide)] at hd0
      rw [if_pos (by decide)] at hd1
      rw [if_neg (by decide)] at hd2
      rw [if_neg (by decide)] at hd3
      have hst : stX sx = (ksZ 1 ++ (32 :: (sx.d0 ++ []))) := (if_neg (by omega)).trans (if_pos hk)
      have hkl : (ksZ 1).length = 4 := by decide
      have hkf : (ksZ 10).length = 4 := by decide
      have hsl : (stX sx).length = (pt + 5 + sx.d0.length) - pt := by rw [hst]; simp only [List.length_append, List.length_cons, List.length_nil, hkl, hkf]; omega
      rcases hrest : xs.drop (i + 1) with _ | ⟨sy, sl⟩
      · rw [hrest] at hra hrl
        have hxx : ats b pt (stX sx) := hra.2.1
        have hee : pt + (stX sx).length = L := hra.2.2
        have hin : i + 1 = xs.length := by simp at hrl; omega
        have hle : (pt + 5 + sx.d0.length) = L := by omega
        have hnx : (pt + 5 + sx.d0.length) < L → b (pt + 5 + sx.d0.length) = 59 := fun q => absurd q (by omega)
        rw [hst] at hxx
        refine lv_iload_n B.1 B.2.1 dX6_isWellRead_63 rfl (lv_at hl 2 rfl) ?_
        refine lv_sipush (v := (iI (500))) B.1 B.2.1 dX6_isWellRead_64 (by decide) ?_
        refine lv_icmp_ge (tgt := 100) B.1 B.2.1 dX6_isWellRead_67 (by decide) (fun h => absurd h (mt (iI_le (a := 500) (b := ((i : Nat) : Int)) (by omega) (by omega) (by omega) (by omega)).mp (by omega))) (fun _ => ?_)
        refine lv_iload_n B.1 B.2.1 dX6_isWellRead_70 rfl (lv_at hl 1 rfl) ?_
        refine lv_if_eq (tgt := 100) B.1 B.2.1 dX6_isWellRead_71 (by decide) (fun h => absurd h (by rw [if_pos hlt]; decide)) (fun _ => ?_)
        refine lv_aload_n B.1 B.2.1 dX6_isWellRead_74 rfl (lv_at hl 0 rfl) ?_
        refine qI (Cs := [[(rd, .inr (8, [.ref ri, .int (iI (((L : Nat) : Int))), .int (iI (((pt : Nat) : Int))), .int (iI (0)), .int (iI (0)), .int (iI ((-1))), .int (iI (((i : Nat) : Int))), .ref rk, .ref rn, .ref ro, .ref rt]))], [(ri, .inl (τ 1, 500, .inl (fun j => iI ((b) j))))], [(rk, .inl (τ 0, 48, .inl (fun j => iI ((T.1) j))))], [(rn, .inl (τ 0, 192, .inl (fun j => iI ((T.2.1) j))))], [(ro, .inl (τ 2, 48, .inl (fun j => iI ((T.2.2.1) j))))], [(rt, .inl (τ 0, 10, .inl (fun j => iI ((T.2.2.2) j))))]]) (Rs := []) Y [0, 1, 2, 3, 4, 5] [] (by decide) rfl (cVE (As := []) (rest := []) (q0 := 0) (Ke.ok K) hE B Y [0, 1, 2, 3, 4, 5] (by decide) rfl (k_isStatementRead1 l D τ _ K rd ri rk rn ro rt L i 0 (-1) b T.1 T.2.1 T.2.2.1 T.2.2.2 (by omega) hb pt sx.d0 sx.v0 n0 hxx (by omega) hnx (by omega) ⟨hge 1 (by decide), by omega⟩ ⟨by omega, by omega, hge 0 (by decide), hge 3 (by decide)⟩ (by have := hi0; omega) (by have := hge 1 (by decide); omega)) rfl rfl q_786 q_788 qp_7 q_3 q_789 rfl rfl hd_X6_isStatementRead ⟨(Nat.le_of_ble_eq_true rfl), (Nat.le_of_ble_eq_true rfl)⟩ rfl hl.1 rfl (Nat.le_of_ble_eq_true rfl) dX6_isWellRead_75 ⟨(Nat.le_of_ble_eq_true rfl), (Nat.le_of_ble_eq_true rfl)⟩) (fun r u H locs hw Y => ?_)
        subst hw
        have Y : Wd D τ s A s.heap (bl [[(rd, .inr (8, [.ref ri, .int (iI (((L : Nat) : Int))), .int (iI ((((pt + 5 + sx.d0.length) : Nat) : Int))), .int (iI (0)), .int (iI (0)), .int (iI ((-1))), .int (iI (((i + 1 : Nat) : Int))), .ref rk, .ref rn, .ref ro, .ref rt]))], [(ri, .inl (τ 1, 500, .inl (fun j => iI ((b) j))))], [(rk, .inl (τ 0, 48, .inl (fun j => iI ((upz T.1 i 1) j))))], [(rn, .inl (τ 0, 192, .inl (fun j => iI ((upz (T.2.1) (4 * i + 0) sx.v0) j))))], [(ro, .inl (τ 2, 48, .inl (fun j => iI ((upz T.2.2.1 i 0) j))))], [(rt, .inl (τ 0, 10, .inl (fun j => iI ((upz T.2.2.2 1 (T.2.2.2 1 + 1)) j))))]]) _ _ := Y
        refine lv_if_eq (tgt := 92) B.1 B.2.1 dX6_isWellRead_78 (by decide) (fun h => absurd h (by decide)) (fun _ => ?_)
        refine lv_aload_n B.1 B.2.1 dX6_isWellRead_81 rfl (lv_at hl 0 rfl) ?_
        rw [hle] at Y
        refine qI (Cs := [[(rd, .inr (8, [.ref ri, .int (iI (((L : Nat) : Int))), .int (iI ((L : Nat) : Int)), .int (iI (0)), .int (iI (0)), .int (iI ((-1))), .int (iI (((i + 1 : Nat) : Int))), .ref rk, .ref rn, .ref ro, .ref rt]))], [(ri, .inl (τ 1, 500, .inl (fun j => iI ((b) j))))]]) (Rs := [[(rk, .inl (τ 0, 48, .inl (fun j => iI ((upz T.1 i 1) j))))], [(rn, .inl (τ 0, 192, .inl (fun j => iI ((upz (T.2.1) (4 * i + 0) sx.v0) j))))], [(ro, .inl (τ 2, 48, .inl (fun j => iI ((upz T.2.2.1 i 0) j))))], [(rt, .inl (τ 0, 10, .inl (fun j => iI ((upz T.2.2.2 1 (T.2.2.2 1 + 1)) j))))]]) Y [0, 1] [2, 3, 4, 5] (by decide) rfl (cV (As := []) (rest := []) (q0 := 0) B Y [0, 1] (by decide) rfl (k_isAnotherDue_end l D τ _ rd ri rk rn ro rt L (0) ((-1)) (((i + 1 : Nat) : Int)) b (by omega) hb) rfl rfl q_853 q_855 qp_17 q_3 q_856 rfl rfl hd_X6_isAnotherDue ⟨(Nat.le_of_ble_eq_true rfl), (Nat.le_of_ble_eq_true rfl)⟩ rfl hl.1 rfl (Nat.le_of_ble_eq_true rfl) dX6_isWellRead_82 ⟨(Nat.le_of_ble_eq_true rfl), (Nat.le_of_ble_eq_true rfl)⟩) (fun r u H locs hw Y => ?_)
        subst hw
        have Y : Wd D τ s A s.heap (bl [[(rd, .inr (8, [.ref ri, .int (iI (((L : Nat) : Int))), .int (iI ((L : Nat) : Int)), .int (iI (0)), .int (iI (0)), .int (iI ((-1))), .int (iI (((i + 1 : Nat) : Int))), .ref rk, .ref rn, .ref ro, .ref rt]))], [(ri, .inl (τ 1, 500, .inl (fun j => iI ((b) j))))], [(rk, .inl (τ 0, 48, .inl (fun j => iI ((upz T.1 i 1) j))))], [(rn, .inl (τ 0, 192, .inl (fun j => iI ((upz (T.2.1) (4 * i + 0) sx.v0) j))))], [(ro, .inl (τ 2, 48, .inl (fun j => iI ((upz T.2.2.1 i 0) j))))], [(rt, .inl (τ 0, 10, .inl (fun j => iI ((upz T.2.2.2 1 (T.2.2.2 1 + 1)) j))))]]) _ _ := Y
        refine lv_if_eq (tgt := 92) B.1 B.2.1 dX6_isWellRead_85 (by decide) (fun _ => ?_) (fun h => absurd (by decide) h) 
        refine lv_iconst (v := (iI (0))) B.1 B.2.1 dX6_isWellRead_92 (by decide) ?_
        refine lv_istore_n (lv' := [(2, .int (iI (0))), (0, .ref rd), (3, .int (iI ((i : Nat) : Int)))]) B.1 B.2.1 dX6_isWellRead_93 rfl hl (by decide) rfl (fun ls hl => ?_)
        refine lv_iinc (v := (iI (((i + 1) : Nat) : Int))) (lv' := [(3, .int (iI (((i + 1) : Nat) : Int))), (2, .int (iI (0))), (0, .ref rd)]) B.1 B.2.1 dX6_isWellRead_94 hl (k := 2) rfl (iI_inc _) (by decide) rfl (fun ls hl => ?_)
        refine lv_goto (tgt := 63) B.1 B.2.1 dX6_isWellRead_97 (by decide) ?_
        have hstp : stepT i sx T = (upz T.1 i 1, upz (T.2.1) (4 * i + 0) sx.v0, upz T.2.2.1 i 0, (upz T.2.2.2 1 (T.2.2.2 1 + 1))) := by unfold stepT nuT; rw [hk, ho]; rfl
        rw [show iI 0 = iI (if (i + 1) < xs.length then 1 else 0) from by rw [if_neg (by omega)]] at hl
        exact ih H locs ls ⟨L, (upz T.1 i 1, upz (T.2.1) (4 * i + 0) sx.v0, upz T.2.2.1 i 0, (upz T.2.2.2 1 (T.2.2.2 1 + 1))), (hmv.trans (show tbF (xs.drop (i + 1)) (i + 1) (stepT i sx T) = _ by rw [hstp])), ⟨by omega, Or.inr ⟨by omega, rfl⟩⟩, (fun k9 h9 => by have q := hcc k9 h9; have q2 : (if sx.k = k9 then (1 : Int) else 0) + cntX k9 (xs.drop (i + 1)) + T.2.2.2 k9 = cntX k9 xs := q; rw [hk] at q2; show cntX k9 (xs.drop (i + 1)) + upz T.2.2.2 1 (T.2.2.2 1 + 1) k9 = cntX k9 xs; by_cases q3 : k9 = 1; (· subst q3; rw [upz_k]; rw [if_pos rfl] at q2; omega); (· rw [upz_ne _ _ q3]; rw [if_neg (fun q4 => q3 q4.symm)] at q2; omega)), (fun k9 h9 => by show 0 ≤ upz T.2.2.2 1 (T.2.2.2 1 + 1) k9; by_cases q3 : k9 = 1; (· subst q3; rw [upz_k]; have := hge 1 (by decide); omega); (· rw [upz_ne _ _ q3]; exact hge k9 h9)), lv_sub hl [2, 1, 0] rfl, Y.pick [0, 1, 2, 3, 4, 5] (by decide) rfl⟩
      · rw [hrest] at hra hrl
        have hxx0 := ats_app.mp (show ats b pt (stX sx ++ (59 :: jnX (sy :: sl))) from hra.2.1)
        have hxx := hxx0.1
        have hsc := ats_cons.mp hxx0.2
        have hee : pt + (stX sx).length + 1 + (jnX (sy :: sl)).length = L := by have q : pt + (stX sx ++ (59 :: jnX (sy :: sl))).length = L := hra.2.2; rw [List.length_append, List.length_cons] at q; omega
        obtain ⟨c9, t9, hj9, hc9⟩ := jnX_hd sy sl
        have hl9 : 1 ≤ (jnX (sy :: sl)).length := by rw [hj9]; simp
        have hin : i + 1 < xs.length := by simp at hrl; omega
        have hpe : pt + (stX sx).length = (pt + 5 + sx.d0.length) := by omega
        rw [hpe] at hsc
        have hle : (pt + 5 + sx.d0.length) + 1 < L := by omega
        have hnx : (pt + 5 + sx.d0.length) < L → b (pt + 5 + sx.d0.length) = 59 := fun _ => hsc.1
        have hn9 : b ((pt + 5 + sx.d0.length) + 1) = c9 := by have q := hsc.2; rw [hj9] at q; exact (ats_cons.mp q).1
        rw [hst] at hxx
        refine lv_iload_n B.1 B.2.1 dX6_isWellRead_63 rfl (lv_at hl 2 rfl) ?_
        refine lv_sipush (v := (iI (500))) B.1 B.2.1 dX6_isWellRead_64 (by decide) ?_
        refine lv_icmp_ge (tgt := 100) B.1 B.2.1 dX6_isWellRead_67 (by decide) (fun h => absurd h (mt (iI_le (a := 500) (b := ((i : Nat) : Int)) (by omega) (by omega) (by omega) (by omega)).mp (by omega))) (fun _ => ?_)
        refine lv_iload_n B.1 B.2.1 dX6_isWellRead_70 rfl (lv_at hl 1 rfl) ?_
        refine lv_if_eq (tgt := 100) B.1 B.2.1 dX6_isWellRead_71 (by decide) (fun h => absurd h (by rw [if_pos hlt]; decide)) (fun _ => ?_)
        refine lv_aload_n B.1 B.2.1 dX6_isWellRead_74 rfl (lv_at hl 0 rfl) ?_
        refine qI (Cs := [[(rd, .inr (8, [.ref ri, .int (iI (((L : Nat) : Int))), .int (iI (((pt : Nat) : Int))), .int (iI (0)), .int (iI (0)), .int (iI ((-1))), .int (iI (((i : Nat) : Int))), .ref rk, .ref rn, .ref ro, .ref rt]))], [(ri, .inl (τ 1, 500, .inl (fun j => iI ((b) j))))], [(rk, .inl (τ 0, 48, .inl (fun j => iI ((T.1) j))))], [(rn, .inl (τ 0, 192, .inl (fun j => iI ((T.2.1) j))))], [(ro, .inl (τ 2, 48, .inl (fun j => iI ((T.2.2.1) j))))], [(rt, .inl (τ 0, 10, .inl (fun j => iI ((T.2.2.2) j))))]]) (Rs := []) Y [0, 1, 2, 3, 4, 5] [] (by decide) rfl (cVE (As := []) (rest := []) (q0 := 0) (Ke.ok K) hE B Y [0, 1, 2, 3, 4, 5] (by decide) rfl (k_isStatementRead1 l D τ _ K rd ri rk rn ro rt L i 0 (-1) b T.1 T.2.1 T.2.2.1 T.2.2.2 (by omega) hb pt sx.d0 sx.v0 n0 hxx (by omega) hnx (by omega) ⟨hge 1 (by decide), by omega⟩ ⟨by omega, by omega, hge 0 (by decide), hge 3 (by decide)⟩ (by have := hi0; omega) (by have := hge 1 (by decide); omega)) rfl rfl q_786 q_788 qp_7 q_3 q_789 rfl rfl hd_X6_isStatementRead ⟨(Nat.le_of_ble_eq_true rfl), (Nat.le_of_ble_eq_true rfl)⟩ rfl hl.1 rfl (Nat.le_of_ble_eq_true rfl) dX6_isWellRead_75 ⟨(Nat.le_of_ble_eq_true rfl), (Nat.le_of_ble_eq_true rfl)⟩) (fun r u H locs hw Y => ?_)
        subst hw
        have Y : Wd D τ s A s.heap (bl [[(rd, .inr (8, [.ref ri, .int (iI (((L : Nat) : Int))), .int (iI ((((pt + 5 + sx.d0.length) : Nat) : Int))), .int (iI (0)), .int (iI (0)), .int (iI ((-1))), .int (iI (((i + 1 : Nat) : Int))), .ref rk, .ref rn, .ref ro, .ref rt]))], [(ri, .inl (τ 1, 500, .inl (fun j => iI ((b) j))))], [(rk, .inl (τ 0, 48, .inl (fun j => iI ((upz T.1 i 1) j))))], [(rn, .inl (τ 0, 192, .inl (fun j => iI ((upz (T.2.1) (4 * i + 0) sx.v0) j))))], [(ro, .inl (τ 2, 48, .inl (fun j => iI ((upz T.2.2.1 i 0) j))))], [(rt, .inl (τ 0, 10, .inl (fun j => iI ((upz T.2.2.2 1 (T.2.2.2 1 + 1)) j))))]]) _ _ := Y
        refine lv_if_eq (tgt := 92) B.1 B.2.1 dX6_isWellRead_78 (by decide) (fun h => absurd h (by decide)) (fun _ => ?_)
        refine lv_aload_n B.1 B.2.1 dX6_isWellRead_81 rfl (lv_at hl 0 rfl) ?_
        refine qI (Cs := [[(rd, .inr (8, [.ref ri, .int (iI (((L : Nat) : Int))), .int (iI ((((pt + 5 + sx.d0.length) : Nat) : Int))), .int (iI (0)), .int (iI (0)), .int (iI ((-1))), .int (iI (((i + 1 : Nat) : Int))), .ref rk, .ref rn, .ref ro, .ref rt]))], [(ri, .inl (τ 1, 500, .inl (fun j => iI ((b) j))))]]) (Rs := [[(rk, .inl (τ 0, 48, .inl (fun j => iI ((upz T.1 i 1) j))))], [(rn, .inl (τ 0, 192, .inl (fun j => iI ((upz (T.2.1) (4 * i + 0) sx.v0) j))))], [(ro, .inl (τ 2, 48, .inl (fun j => iI ((upz T.2.2.1 i 0) j))))], [(rt, .inl (τ 0, 10, .inl (fun j => iI ((upz T.2.2.2 1 (T.2.2.2 1 + 1)) j))))]]) Y [0, 1] [2, 3, 4, 5] (by decide) rfl (cV (As := []) (rest := []) (q0 := 0) B Y [0, 1] (by decide) rfl (k_isAnotherDue_0 l D τ _ rd ri rk rn ro rt L (0) ((-1)) (((i + 1 : Nat) : Int)) b (by omega) hb (pt + 5 + sx.d0.length) (by omega) (hnx (by omega)) (by omega) (by omega)) rfl rfl q_853 q_855 qp_17 q_3 q_856 rfl rfl hd_X6_isAnotherDue ⟨(Nat.le_of_ble_eq_true rfl), (Nat.le_of_ble_eq_true rfl)⟩ rfl hl.1 rfl (Nat.le_of_ble_eq_true rfl) dX6_isWellRead_82 ⟨(Nat.le_of_ble_eq_true rfl), (Nat.le_of_ble_eq_true rfl)⟩) (fun r u H locs hw Y => ?_)
        subst hw
        have Y : Wd D τ s A s.heap (bl [[(rd, .inr (8, [.ref ri, .int (iI (((L : Nat) : Int))), .int (iI ((((pt + 5 + sx.d0.length) + 1) : Nat) : Int)), .int (iI (0)), .int (iI (0)), .int (iI ((-1))), .int (iI (((i + 1 : Nat) : Int))), .ref rk, .ref rn, .ref ro, .ref rt]))], [(ri, .inl (τ 1, 500, .inl (fun j => iI ((b) j))))], [(rk, .inl (τ 0, 48, .inl (fun j => iI ((upz T.1 i 1) j))))], [(rn, .inl (τ 0, 192, .inl (fun j => iI ((upz (T.2.1) (4 * i + 0) sx.v0) j))))], [(ro, .inl (τ 2, 48, .inl (fun j => iI ((upz T.2.2.1 i 0) j))))], [(rt, .inl (τ 0, 10, .inl (fun j => iI ((upz T.2.2.2 1 (T.2.2.2 1 + 1)) j))))]]) _ _ := Y
        refine lv_if_eq (tgt := 92) B.1 B.2.1 dX6_isWellRead_85 (by decide) (fun h => absurd h (by decide)) (fun _ => ?_)
        refine lv_iconst (v := (iI (1))) B.1 B.2.1 dX6_isWellRead_88 (by decide) ?_
        refine lv_goto (tgt := 93) B.1 B.2.1 dX6_isWellRead_89 (by decide) ?_
        refine lv_istore_n (lv' := [(2, .int (iI (1))), (0, .ref rd), (3, .int (iI ((i : Nat) : Int)))]) B.1 B.2.1 dX6_isWellRead_93 rfl hl (by decide) rfl (fun ls hl => ?_)
        refine lv_iinc (v := (iI (((i + 1) : Nat) : Int))) (lv' := [(3, .int (iI (((i + 1) : Nat) : Int))), (2, .int (iI (1))), (0, .ref rd)]) B.1 B.2.1 dX6_isWellRead_94 hl (k := 2) rfl (iI_inc _) (by decide) rfl (fun ls hl => ?_)
        refine lv_goto (tgt := 63) B.1 B.2.1 dX6_isWellRead_97 (by decide) ?_
        have hstp : stepT i sx T = (upz T.1 i 1, upz (T.2.1) (4 * i + 0) sx.v0, upz T.2.2.1 i 0, (upz T.2.2.2 1 (T.2.2.2 1 + 1))) := by unfold stepT nuT; rw [hk, ho]; rfl
        rw [show iI 1 = iI (if (i + 1) < xs.length then 1 else 0) from by rw [if_pos (by omega)]] at hl
        exact ih H locs ls ⟨((pt + 5 + sx.d0.length) + 1), (upz T.1 i 1, upz (T.2.1) (4 * i + 0) sx.v0, upz T.2.2.1 i 0, (upz T.2.2.2 1 (T.2.2.2 1 + 1))), (hmv.trans (show tbF (xs.drop (i + 1)) (i + 1) (stepT i sx T) = _ by rw [hstp])), ⟨by omega, Or.inl ⟨hin, by rw [hrest]; exact hsc.2, by rw [hrest]; omega⟩⟩, (fun k9 h9 => by have q := hcc k9 h9; have q2 : (if sx.k = k9 then (1 : Int) else 0) + cntX k9 (xs.drop (i + 1)) + T.2.2.2 k9 = cntX k9 xs := q; rw [hk] at q2; show cntX k9 (xs.drop (i + 1)) + upz T.2.2.2 1 (T.2.2.2 1 + 1) k9 = cntX k9 xs; by_cases q3 : k9 = 1; (· subst q3; rw [upz_k]; rw [if_pos rfl] at q2; omega); (· rw [upz_ne _ _ q3]; rw [if_neg (fun q4 => q3 q4.symm)] at q2; omega)), (fun k9 h9 => by show 0 ≤ upz T.2.2.2 1 (T.2.2.2 1 + 1) k9; by_cases q3 : k9 = 1; (· subst q3; rw [upz_k]; have := hge 1 (by decide); omega); (· rw [upz_ne _ _ q3]; exact hge k9 h9)), lv_sub hl [2, 1, 0] rfl, Y.pick [0, 1, 2, 3, 4, 5] (by decide) rfl⟩
    · rw [hk] at hd0 hd1 hd2 hd3 hi0
      rw [if_neg (by decide)] at hd0
      rw [if_neg (by decide)] at hd1
      rw [if_pos (by decide)] at hd2
      rw [if_neg (by decide)] at hd3
      have hst : stX sx = (ksZ 2 ++ (32 :: (sx.d0 ++ []))) := (if_neg (by omega)).trans ((if_neg (by omega)).trans (if_pos hk))
      have hkl : (ksZ 2).length = 6 := by decide
      have hkf : (ksZ 10).length = 4 := by decide
      have hsl : (stX sx).length = (pt + 7 + sx.d0.length) - pt := by rw [hst]; simp only [List.length_append, List.length_cons, List.length_nil, hkl, hkf]; omega
      rcases hrest : xs.drop (i + 1) with _ | ⟨sy, sl⟩
      · rw [hrest] at hra hrl
        have hxx : ats b pt (stX sx) := hra.2.1
        have hee : pt + (stX sx).length = L := hra.2.2
        have hin : i + 1 = xs.length := by simp at hrl; omega
        have hle : (pt + 7 + sx.d0.length) = L := by omega
        have hnx : (pt + 7 + sx.d0.length) < L → b (pt + 7 + sx.d0.length) = 59 := fun q => absurd q (by omega)
        rw [hst] at hxx
        refine lv_iload_n B.1 B.2.1 dX6_isWellRead_63 rfl (lv_at hl 2 rfl) ?_
        refine lv_sipush (v := (iI (500))) B.1 B.2.1 dX6_isWellRead_64 (by decide) ?_
        refine lv_icmp_ge (tgt := 100) B.1 B.2.1 dX6_isWellRead_67 (by decide) (fun h => absurd h (mt (iI_le (a := 500) (b := ((i : Nat) : Int)) (by omega) (by omega) (by omega) (by omega)).mp (by omega))) (fun _ => ?_)
        refine lv_iload_n B.1 B.2.1 dX6_isWellRead_70 rfl (lv_at hl 1 rfl) ?_
        refine lv_if_eq (tgt := 100) B.1 B.2.1 dX6_isWellRead_71 (by decide) (fun h => absurd h (by rw [if_pos hlt]; decide)) (fun _ => ?_)
        refine lv_aload_n B.1 B.2.1 dX6_isWellRead_74 rfl (lv_at hl 0 rfl) ?_
        refine qI (Cs := [[(rd, .inr (8, [.ref ri, .int (iI (((L : Nat) : Int))), .int (iI (((pt : Nat) : Int))), .int (iI (0)), .int (iI (0)), .int (iI ((-1))), .int (iI (((i : Nat) : Int))), .ref rk, .ref rn, .ref ro, .ref rt]))], [(ri, .inl (τ 1, 500, .inl (fun j => iI ((b) j))))], [(rk, .inl (τ 0, 48, .inl (fun j => iI ((T.1) j))))], [(rn, .inl (τ 0, 192, .inl (fun j => iI ((T.2.1) j))))], [(ro, .inl (τ 2, 48, .inl (fun j => iI ((T.2.2.1) j))))], [(rt, .inl (τ 0, 10, .inl (fun j => iI ((T.2.2.2) j))))]]) (Rs := []) Y [0, 1, 2, 3, 4, 5] [] (by decide) rfl (cVE (As := []) (rest := []) (q0 := 0) (Ke.ok K) hE B Y [0, 1, 2, 3, 4, 5] (by decide) rfl (k_isStatementRead2 l D τ _ K rd ri rk rn ro rt L i 0 (-1) b T.1 T.2.1 T.2.2.1 T.2.2.2 (by omega) hb pt sx.d0 sx.v0 n0 hxx (by omega) hnx (by omega) ⟨hge 2 (by decide), by omega⟩ ⟨by omega, by omega, hge 0 (by decide), hge 3 (by decide)⟩ (by have := hi0; omega) (by have := hge 2 (by decide); omega)) rfl rfl q_786 q_788 qp_7 q_3 q_789 rfl rfl hd_X6_isStatementRead ⟨(Nat.le_of_ble_eq_true rfl), (Nat.le_of_ble_eq_true rfl)⟩ rfl hl.1 rfl (Nat.le_of_ble_eq_true rfl) dX6_isWellRead_75 ⟨(Nat.le_of_ble_eq_true rfl), (Nat.le_of_ble_eq_true rfl)⟩) (fun r u H locs hw Y => ?_)
        subst hw
        have Y : Wd D τ s A s.heap (bl [[(rd, .inr (8, [.ref ri, .int (iI (((L : Nat) : Int))), .int (iI ((((pt + 7 + sx.d0.length) : Nat) : Int))), .int (iI (0)), .int (iI (0)), .int (iI ((-1))), .int (iI (((i + 1 : Nat) : Int))), .ref rk, .ref rn, .ref ro, .ref rt]))], [(ri, .inl (τ 1, 500, .inl (fun j => iI ((b) j))))], [(rk, .inl (τ 0, 48, .inl (fun j => iI ((upz T.1 i 2) j))))], [(rn, .inl (τ 0, 192, .inl (fun j => iI ((upz (T.2.1) (4 * i + 0) sx.v0) j))))], [(ro, .inl (τ 2, 48, .inl (fun j => iI ((upz T.2.2.1 i 0) j))))], [(rt, .inl (τ 0, 10, .inl (fun j => iI ((upz T.2.2.2 2 (T.2.2.2 2 + 1)) j))))]]) _ _ := Y
        refine lv_if_eq (tgt := 92) B.1 B.2.1 dX6_isWellRead_78 (by decide) (fun h => absurd h (by decide)) (fun _ => ?_)
        refine lv_aload_n B.1 B.2.1 dX6_isWellRead_81 rfl (lv_at hl 0 rfl) ?_
        rw [hle] at Y
        refine qI (Cs := [[(rd, .inr (8, [.ref ri, .int (iI (((L : Nat) : Int))), .int (iI ((L : Nat) : Int)), .int (iI (0)), .int (iI (0)), .int (iI ((-1))), .int (iI (((i + 1 : Nat) : Int))), .ref rk, .ref rn, .ref ro, .ref rt]))], [(ri, .inl (τ 1, 500, .inl (fun j => iI ((b) j))))]]) (Rs := [[(rk, .inl (τ 0, 48, .inl (fun j => iI ((upz T.1 i 2) j))))], [(rn, .inl (τ 0, 192, .inl (fun j => iI ((upz (T.2.1) (4 * i + 0) sx.v0) j))))], [(ro, .inl (τ 2, 48, .inl (fun j => iI ((upz T.2.2.1 i 0) j))))], [(rt, .inl (τ 0, 10, .inl (fun j => iI ((upz T.2.2.2 2 (T.2.2.2 2 + 1)) j))))]]) Y [0, 1] [2, 3, 4, 5] (by decide) rfl (cV (As := []) (rest := []) (q0 := 0) B Y [0, 1] (by decide) rfl (k_isAnotherDue_end l D τ _ rd ri rk rn ro rt L (0) ((-1)) (((i + 1 : Nat) : Int)) b (by omega) hb) rfl rfl q_853 q_855 qp_17 q_3 q_856 rfl rfl hd_X6_isAnotherDue ⟨(Nat.le_of_ble_eq_true rfl), (Nat.le_of_ble_eq_true rfl)⟩ rfl hl.1 rfl (Nat.le_of_ble_eq_true rfl) dX6_isWellRead_82 ⟨(Nat.le_of_ble_eq_true rfl), (Nat.le_of_ble_eq_true rfl)⟩) (fun r u H locs hw Y => ?_)
        subst hw
        have Y : Wd D τ s A s.heap (bl [[(rd, .inr (8, [.ref ri, .int (iI (((L : Nat) : Int))), .int (iI ((L : Nat) : Int)), .int (iI (0)), .int (iI (0)), .int (iI ((-1))), .int (iI (((i + 1 : Nat) : Int))), .ref rk, .ref rn, .ref ro, .ref rt]))], [(ri, .inl (τ 1, 500, .inl (fun j => iI ((b) j))))], [(rk, .inl (τ 0, 48, .inl (fun j => iI ((upz T.1 i 2) j))))], [(rn, .inl (τ 0, 192, .inl (fun j => iI ((upz (T.2.1) (4 * i + 0) sx.v0) j))))], [(ro, .inl (τ 2, 48, .inl (fun j => iI ((upz T.2.2.1 i 0) j))))], [(rt, .inl (τ 0, 10, .inl (fun j => iI ((upz T.2.2.2 2 (T.2.2.2 2 + 1)) j))))]]) _ _ := Y
        refine lv_if_eq (tgt := 92) B.1 B.2.1 dX6_isWellRead_85 (by decide) (fun _ => ?_) (fun h => absurd (by decide) h) 
        refine lv_iconst (v := (iI (0))) B.1 B.2.1 dX6_isWellRead_92 (by decide) ?_
        refine lv_istore_n (lv' := [(2, .int (iI (0))), (0, .ref rd), (3, .int (iI ((i : Nat) : Int)))]) B.1 B.2.1 dX6_isWellRead_93 rfl hl (by decide) rfl (fun ls hl => ?_)
        refine lv_iinc (v := (iI (((i + 1) : Nat) : Int))) (lv' := [(3, .int (iI (((i + 1) : Nat) : Int))), (2, .int (iI (0))), (0, .ref rd)]) B.1 B.2.1 dX6_isWellRead_94 hl (k := 2) rfl (iI_inc _) (by decide) rfl (fun ls hl => ?_)
        refine lv_goto (tgt := 63) B.1 B.2.1 dX6_isWellRead_97 (by decide) ?_
        have hstp : stepT i sx T = (upz T.1 i 2, upz (T.2.1) (4 * i + 0) sx.v0, upz T.2.2.1 i 0, (upz T.2.2.2 2 (T.2.2.2 2 + 1))) := by unfold stepT nuT; rw [hk, ho]; rfl
        rw [show iI 0 = iI (if (i + 1) < xs.length then 1 else 0) from by rw [if_neg (by omega)]] at hl
        exact ih H locs ls ⟨L, (upz T.1 i 2, upz (T.2.1) (4 * i + 0) sx.v0, upz T.2.2.1 i 0, (upz T.2.2.2 2 (T.2.2.2 2 + 1))), (hmv.trans (show tbF (xs.drop (i + 1)) (i + 1) (stepT i sx T) = _ by rw [hstp])), ⟨by omega, Or.inr ⟨by omega, rfl⟩⟩, (fun k9 h9 => by have q := hcc k9 h9; have q2 : (if sx.k = k9 then (1 : Int) else 0) + cntX k9 (xs.drop (i + 1)) + T.2.2.2 k9 = cntX k9 xs := q; rw [hk] at q2; show cntX k9 (xs.drop (i + 1)) + upz T.2.2.2 2 (T.2.2.2 2 + 1) k9 = cntX k9 xs; by_cases q3 : k9 = 2; (· subst q3; rw [upz_k]; rw [if_pos rfl] at q2; omega); (· rw [upz_ne _ _ q3]; rw [if_neg (fun q4 => q3 q4.symm)] at q2; omega)), (fun k9 h9 => by show 0 ≤ upz T.2.2.2 2 (T.2.2.2 2 + 1) k9; by_cases q3 : k9 = 2; (· subst q3; rw [upz_k]; have := hge 2 (by decide); omega); (· rw [upz_ne _ _ q3]; exact hge k9 h9)), lv_sub hl [2, 1, 0] rfl, Y.pick [0, 1, 2, 3, 4, 5] (by decide) rfl⟩
      · rw [hrest] at hra hrl
        have hxx0 := ats_app.mp (show ats b pt (stX sx ++ (59 :: jnX (sy :: sl))) from hra.2.1)
        have hxx := hxx0.1
        have hsc := ats_cons.mp hxx0.2
        have hee : pt + (stX sx).length + 1 + (jnX (sy :: sl)).length = L := by have q : pt + (stX sx ++ (59 :: jnX (sy :: sl))).length = L := hra.2.2; rw [List.length_append, List.length_cons] at q; omega
        obtain ⟨c9, t9, hj9, hc9⟩ := jnX_hd sy sl
        have hl9 : 1 ≤ (jnX (sy :: sl)).length := by rw [hj9]; simp
        have hin : i + 1 < xs.length := by simp at hrl; omega
        have hpe : pt + (stX sx).length = (pt + 7 + sx.d0.length) := by omega
        rw [hpe] at hsc
        have hle : (pt + 7 + sx.d0.length) + 1 < L := by omega
        have hnx : (pt + 7 + sx.d0.length) < L → b (pt + 7 + sx.d0.length) = 59 := fun _ => hsc.1
        have hn9 : b ((pt + 7 + sx.d0.length) + 1) = c9 := by have q := hsc.2; rw [hj9] at q; exact (ats_cons.mp q).1
        rw [hst] at hxx
        refine lv_iload_n B.1 B.2.1 dX6_isWellRead_63 rfl (lv_at hl 2 rfl) ?_
        refine lv_sipush (v := (iI (500))) B.1 B.2.1 dX6_isWellRead_64 (by decide) ?_
        refine lv_icmp_ge (tgt := 100) B.1 B.2.1 dX6_isWellRead_67 (by decide) (fun h => absurd h (mt (iI_le (a := 500) (b := ((i : Nat) : Int)) (by omega) (by omega) (by omega) (by omega)).mp (by omega))) (fun _ => ?_)
        refine lv_iload_n B.1 B.2.1 dX6_isWellRead_70 rfl (lv_at hl 1 rfl) ?_
        refine lv_if_eq (tgt := 100) B.1 B.2.1 dX6_isWellRead_71 (by decide) (fun h => absurd h (by rw [if_pos hlt]; decide)) (fun _ => ?_)
        refine lv_aload_n B.1 B.2.1 dX6_isWellRead_74 rfl (lv_at hl 0 rfl) ?_
        refine qI (Cs := [[(rd, .inr (8, [.ref ri, .int (iI (((L : Nat) : Int))), .int (iI (((pt : Nat) : Int))), .int (iI (0)), .int (iI (0)), .int (iI ((-1))), .int (iI (((i : Nat) : Int))), .ref rk, .ref rn, .ref ro, .ref rt]))], [(ri, .inl (τ 1, 500, .inl (fun j => iI ((b) j))))], [(rk, .inl (τ 0, 48, .inl (fun j => iI ((T.1) j))))], [(rn, .inl (τ 0, 192, .inl (fun j => iI ((T.2.1) j))))], [(ro, .inl (τ 2, 48, .inl (fun j => iI ((T.2.2.1) j))))], [(rt, .inl (τ 0, 10, .inl (fun j => iI ((T.2.2.2) j))))]]) (Rs := []) Y [0, 1, 2, 3, 4, 5] [] (by decide) rfl (cVE (As := []) (rest := []) (q0 := 0) (Ke.ok K) hE B Y [0, 1, 2, 3, 4, 5] (by decide) rfl (k_isStatementRead2 l D τ _ K rd ri rk rn ro rt L i 0 (-1) b T.1 T.2.1 T.2.2.1 T.2.2.2 (by omega) hb pt sx.d0 sx.v0 n0 hxx (by omega) hnx (by omega) ⟨hge 2 (by decide), by omega⟩ ⟨by omega, by omega, hge 0 (by decide), hge 3 (by decide)⟩ (by have := hi0; omega) (by have := hge 2 (by decide); omega)) rfl rfl q_786 q_788 qp_7 q_3 q_789 rfl rfl hd_X6_isStatementRead ⟨(Nat.le_of_ble_eq_true rfl), (Nat.le_of_ble_eq_true rfl)⟩ rfl hl.1 rfl (Nat.le_of_ble_eq_true rfl) dX6_isWellRead_75 ⟨(Nat.le_of_ble_eq_true rfl), (Nat.le_of_ble_eq_true rfl)⟩) (fun r u H locs hw Y => ?_)
        subst hw
        have Y : Wd D τ s A s.heap (bl [[(rd, .inr (8, [.ref ri, .int (iI (((L : Nat) : Int))), .int (iI ((((pt + 7 + sx.d0.length) : Nat) : Int))), .int (iI (0)), .int (iI (0)), .int (iI ((-1))), .int (iI (((i + 1 : Nat) : Int))), .ref rk, .ref rn, .ref ro, .ref rt]))], [(ri, .inl (τ 1, 500, .inl (fun j => iI ((b) j))))], [(rk, .inl (τ 0, 48, .inl (fun j => iI ((upz T.1 i 2) j))))], [(rn, .inl (τ 0, 192, .inl (fun j => iI ((upz (T.2.1) (4 * i + 0) sx.v0) j))))], [(ro, .inl (τ 2, 48, .inl (fun j => iI ((upz T.2.2.1 i 0) j))))], [(rt, .inl (τ 0, 10, .inl (fun j => iI ((upz T.2.2.2 2 (T.2.2.2 2 + 1)) j))))]]) _ _ := Y
        refine lv_if_eq (tgt := 92) B.1 B.2.1 dX6_isWellRead_78 (by decide) (fun h => absurd h (by decide)) (fun _ => ?_)
        refine lv_aload_n B.1 B.2.1 dX6_isWellRead_81 rfl (lv_at hl 0 rfl) ?_
        refine qI (Cs := [[(rd, .inr (8, [.ref ri, .int (iI (((L : Nat) : Int))), .int (iI ((((pt + 7 + sx.d0.length) : Nat) : Int))), .int (iI (0)), .int (iI (0)), .int (iI ((-1))), .int (iI (((i + 1 : Nat) : Int))), .ref rk, .ref rn, .ref ro, .ref rt]))], [(ri, .inl (τ 1, 500, .inl (fun j => iI ((b) j))))]]) (Rs := [[(rk, .inl (τ 0, 48, .inl (fun j => iI ((upz T.1 i 2) j))))], [(rn, .inl (τ 0, 192, .inl (fun j => iI ((upz (T.2.1) (4 * i + 0) sx.v0) j))))], [(ro, .inl (τ 2, 48, .inl (fun j => iI ((upz T.2.2.1 i 0) j))))], [(rt, .inl (τ 0, 10, .inl (fun j => iI ((upz T.2.2.2 2 (T.2.2.2 2 + 1)) j))))]]) Y [0, 1] [2, 3, 4, 5] (by decide) rfl (cV (As := []) (rest := []) (q0 := 0) B Y [0, 1] (by decide) rfl (k_isAnotherDue_0 l D τ _ rd ri rk rn ro rt L (0) ((-1)) (((i + 1 : Nat) : Int)) b (by omega) hb (pt + 7 + sx.d0.length) (by omega) (hnx (by omega)) (by omega) (by omega)) rfl rfl q_853 q_855 qp_17 q_3 q_856 rfl rfl hd_X6_isAnotherDue ⟨(Nat.le_of_ble_eq_true rfl), (Nat.le_of_ble_eq_true rfl)⟩ rfl hl.1 rfl (Nat.le_of_ble_eq_true rfl) dX6_isWellRead_82 ⟨(Nat.le_of_ble_eq_true rfl), (Nat.le_of_ble_eq_true rfl)⟩) (fun r u H locs hw Y => ?_)
        subst hw
        have Y : Wd D τ s A s.heap (bl [[(rd, .inr (8, [.ref ri, .int (iI (((L : Nat) : Int))), .int (iI ((((pt + 7 + sx.d0.length) + 1) : Nat) : Int)), .int (iI (0)), .int (iI (0)), .int (iI ((-1))), .int (iI (((i + 1 : Nat) : Int))), .ref rk, .ref rn, .ref ro, .ref rt]))], [(ri, .inl (τ 1, 500, .inl (fun j => iI ((b) j))))], [(rk, .inl (τ 0, 48, .inl (fun j => iI ((upz T.1 i 2) j))))], [(rn, .inl (τ 0, 192, .inl (fun j => iI ((upz (T.2.1) (4 * i + 0) sx.v0) j))))], [(ro, .inl (τ 2, 48, .inl (fun j => iI ((upz T.2.2.1 i 0) j))))], [(rt, .inl (τ 0, 10, .inl (fun j => iI ((upz T.2.2.2 2 (T.2.2.2 2 + 1)) j))))]]) _ _ := Y
        refine lv_if_eq (tgt := 92) B.1 B.2.1 dX6_isWellRead_85 (by decide) (fun h => absurd h (by decide)) (fun _ => ?_)
        refine lv_iconst (v := (iI (1))) B.1 B.2.1 dX6_isWellRead_88 (by decide) ?_
        refine lv_goto (tgt := 93) B.1 B.2.1 dX6_isWellRead_89 (by decide) ?_
        refine lv_istore_n (lv' := [(2, .int (iI (1))), (0, .ref rd), (3, .int (iI ((i : Nat) : Int)))]) B.1 B.2.1 dX6_isWellRead_93 rfl hl (by decide) rfl (fun ls hl => ?_)
        refine lv_iinc (v := (iI (((i + 1) : Nat) : Int))) (lv' := [(3, .int (iI (((i + 1) : Nat) : Int))), (2, .int (iI (1))), (0, .ref rd)]) B.1 B.2.1 dX6_isWellRead_94 hl (k := 2) rfl (iI_inc _) (by decide) rfl (fun ls hl => ?_)
        refine lv_goto (tgt := 63) B.1 B.2.1 dX6_isWellRead_97 (by decide) ?_
        have hstp : stepT i sx T = (upz T.1 i 2, upz (T.2.1) (4 * i + 0) sx.v0, upz T.2.2.1 i 0, (upz T.2.2.2 2 (T.2.2.2 2 + 1))) := by unfold stepT nuT; rw [hk, ho]; rfl
        rw [show iI 1 = iI (if (i + 1) < xs.length then 1 else 0) from by rw [if_pos (by omega)]] at hl
        exact ih H locs ls ⟨((pt + 7 + sx.d0.length) + 1), (upz T.1 i 2, upz (T.2.1) (4 * i + 0) sx.v0, upz T.2.2.1 i 0, (upz T.2.2.2 2 (T.2.2.2 2 + 1))), (hmv.trans (show tbF (xs.drop (i + 1)) (i + 1) (stepT i sx T) = _ by rw [hstp])), ⟨by omega, Or.inl ⟨hin, by rw [hrest]; exact hsc.2, by rw [hrest]; omega⟩⟩, (fun k9 h9 => by have q := hcc k9 h9; have q2 : (if sx.k = k9 then (1 : Int) else 0) + cntX k9 (xs.drop (i + 1)) + T.2.2.2 k9 = cntX k9 xs := q; rw [hk] at q2; show cntX k9 (xs.drop (i + 1)) + upz T.2.2.2 2 (T.2.2.2 2 + 1) k9 = cntX k9 xs; by_cases q3 : k9 = 2; (· subst q3; rw [upz_k]; rw [if_pos rfl] at q2; omega); (· rw [upz_ne _ _ q3]; rw [if_neg (fun q4 => q3 q4.symm)] at q2; omega)), (fun k9 h9 => by show 0 ≤ upz T.2.2.2 2 (T.2.2.2 2 + 1) k9; by_cases q3 : k9 = 2; (· subst q3; rw [upz_k]; have := hge 2 (by decide); omega); (· rw [upz_ne _ _ q3]; exact hge k9 h9)), lv_sub hl [2, 1, 0] rfl, Y.pick [0, 1, 2, 3, 4, 5] (by decide) rfl⟩
    · rw [hk] at hd0 hd1 hd2 hd3 hi0
      rw [if_neg (by decide)] at hd0
      rw [if_neg (by decide)] at hd1
      rw [if_neg (by decide)] at hd2
      rw [if_pos (by decide)] at hd3
      have hst : stX sx = (ksZ 3 ++ (32 :: (sx.d0 ++ (32 :: (sx.d1 ++ []))))) := (if_neg (by omega)).trans ((if_neg (by omega)).trans ((if_neg (by omega)).trans (if_pos ho)))
      have hkl : (ksZ 3).length = 4 := by decide
      have hkf : (ksZ 10).length = 4 := by decide
      have hsl : (stX sx).length = (pt + 5 + sx.d0.length + 1 + sx.d1.length) - pt := by rw [hst]; simp only [List.length_append, List.length_cons, List.length_nil, hkl, hkf]; omega
      rcases hrest : xs.drop (i + 1) with _ | ⟨sy, sl⟩
      · rw [hrest] at hra hrl
        have hxx : ats b pt (stX sx) := hra.2.1
        have hee : pt + (stX sx).length = L := hra.2.2
        have hin : i + 1 = xs.length := by simp at hrl; omega
        have hle : (pt + 5 + sx.d0.length + 1 + sx.d1.length) = L := by omega
        have hnx : (pt + 5 + sx.d0.length + 1 + sx.d1.length) < L → b (pt + 5 + sx.d0.length + 1 + sx.d1.length) = 59 := fun q => absurd q (by omega)
        rw [hst] at hxx
        refine lv_iload_n B.1 B.2.1 dX6_isWellRead_63 rfl (lv_at hl 2 rfl) ?_
        refine lv_sipush (v := (iI (500))) B.1 B.2.1 dX6_isWellRead_64 (by decide) ?_
        refine lv_icmp_ge (tgt := 100) B.1 B.2.1 dX6_isWellRead_67 (by decide) (fun h => absurd h (mt (iI_le (a := 500) (b := ((i : Nat) : Int)) (by omega) (by omega) (by omega) (by omega)).mp (by omega))) (fun _ => ?_)
        refine lv_iload_n B.1 B.2.1 dX6_isWellRead_70 rfl (lv_at hl 1 rfl) ?_
        refine lv_if_eq (tgt := 100) B.1 B.2.1 dX6_isWellRead_71 (by decide) (fun h => absurd h (by rw [if_pos hlt]; decide)) (fun _ => ?_)
        refine lv_aload_n B.1 B.2.1 dX6_isWellRead_74 rfl (lv_at hl 0 rfl) ?_
        refine qI (Cs := [[(rd, .inr (8, [.ref ri, .int (iI (((L : Nat) : Int))), .int (iI (((pt : Nat) : Int))), .int (iI (0)), .int (iI (0)), .int (iI ((-1))), .int (iI (((i : Nat) : Int))), .ref rk, .ref rn, .ref ro, .ref rt]))], [(ri, .inl (τ 1, 500, .inl (fun j => iI ((b) j))))], [(rk, .inl (τ 0, 48, .inl (fun j => iI ((T.1) j))))], [(rn, .inl (τ 0, 192, .inl (fun j => iI ((T.2.1) j))))], [(ro, .inl (τ 2, 48, .inl (fun j => iI ((T.2.2.1) j))))], [(rt, .inl (τ 0, 10, .inl (fun j => iI ((T.2.2.2) j))))]]) (Rs := []) Y [0, 1, 2, 3, 4, 5] [] (by decide) rfl (cVE (As := []) (rest := []) (q0 := 0) (Ke.ok K) hE B Y [0, 1, 2, 3, 4, 5] (by decide) rfl (k_isStatementRead3 l D τ _ K rd ri rk rn ro rt L i 0 (-1) b T.1 T.2.1 T.2.2.1 T.2.2.2 (by omega) hb pt sx.d0 sx.v0 n0 sx.d1 sx.v1 n1 hxx (by omega) hnx (by omega) ⟨hge 3 (by decide), by omega⟩ ⟨by omega, by omega, hge 0 (by decide), hge 3 (by decide)⟩ (by have := hi0; omega)) rfl rfl q_786 q_788 qp_7 q_3 q_789 rfl rfl hd_X6_isStatementRead ⟨(Nat.le_of_ble_eq_true rfl), (Nat.le_of_ble_eq_true rfl)⟩ rfl hl.1 rfl (Nat.le_of_ble_eq_true rfl) dX6_isWellRead_75 ⟨(Nat.le_of_ble_eq_true rfl), (Nat.le_of_ble_eq_true rfl)⟩) (fun r u H locs hw Y => ?_)
        subst hw
        have Y : Wd D τ s A s.heap (bl [[(rd, .inr (8, [.ref ri, .int (iI (((L : Nat) : Int))), .int (iI ((((pt + 5 + sx.d0.length + 1 + sx.d1.length) : Nat) : Int))), .int (iI (0)), .int (iI (0)), .int (iI ((-1))), .int (iI (((i + 1 : Nat) : Int))), .ref rk, .ref rn, .ref ro, .ref rt]))], [(ri, .inl (τ 1, 500, .inl (fun j => iI ((b) j))))], [(rk, .inl (τ 0, 48, .inl (fun j => iI ((upz T.1 i 3) j))))], [(rn, .inl (τ 0, 192, .inl (fun j => iI ((upz (upz (T.2.1) (4 * i + 0) sx.v0) (4 * i + 1) sx.v1) j))))], [(ro, .inl (τ 2, 48, .inl (fun j => iI ((upz T.2.2.1 i 0) j))))], [(rt, .inl (τ 0, 10, .inl (fun j => iI ((upz T.2.2.2 3 (T.2.2.2 3 + 1)) j))))]]) _ _ := Y
        refine lv_if_eq (tgt := 92) B.1 B.2.1 dX6_isWellRead_78 (by decide) (fun h => absurd h (by decide)) (fun _ => ?_)
        refine lv_aload_n B.1 B.2.1 dX6_isWellRead_81 rfl (lv_at hl 0 rfl) ?_
        rw [hle] at Y
        refine qI (Cs := [[(rd, .inr (8, [.ref ri, .int (iI (((L : Nat) : Int))), .int (iI ((L : Nat) : Int)), .int (iI (0)), .int (iI (0)), .int (iI ((-1))), .int (iI (((i + 1 : Nat) : Int))), .ref rk, .ref rn, .ref ro, .ref rt]))], [(ri, .inl (τ 1, 500, .inl (fun j => iI ((b) j))))]]) (Rs := [[(rk, .inl (τ 0, 48, .inl (fun j => iI ((upz T.1 i 3) j))))], [(rn, .inl (τ 0, 192, .inl (fun j => iI ((upz (upz (T.2.1) (4 * i + 0) sx.v0) (4 * i + 1) sx.v1) j))))], [(ro, .inl (τ 2, 48, .inl (fun j => iI ((upz T.2.2.1 i 0) j))))], [(rt, .inl (τ 0, 10, .inl (fun j => iI ((upz T.2.2.2 3 (T.2.2.2 3 + 1)) j))))]]) Y [0, 1] [2, 3, 4, 5] (by decide) rfl (cV (As := []) (rest := []) (q0 := 0) B Y [0, 1] (by decide) rfl (k_isAnotherDue_end l D τ _ rd ri rk rn ro rt L (0) ((-1)) (((i + 1 : Nat) : Int)) b (by omega) hb) rfl rfl q_853 q_855 qp_17 q_3 q_856 rfl rfl hd_X6_isAnotherDue ⟨(Nat.le_of_ble_eq_true rfl), (Nat.le_of_ble_eq_true rfl)⟩ rfl hl.1 rfl (Nat.le_of_ble_eq_true rfl) dX6_isWellRead_82 ⟨(Nat.le_of_ble_eq_true rfl), (Nat.le_of_ble_eq_true rfl)⟩) (fun r u H locs hw Y => ?_)
        subst hw
        have Y : Wd D τ s A s.heap (bl [[(rd, .inr (8, [.ref ri, .int (iI (((L : Nat) : Int))), .int (iI ((L : Nat) : Int)), .int (iI (0)), .int (iI (0)), .int (iI ((-1))), .int (iI (((i + 1 : Nat) : Int))), .ref rk, .ref rn, .ref ro, .ref rt]))], [(ri, .inl (τ 1, 500, .inl (fun j => iI ((b) j))))], [(rk, .inl (τ 0, 48, .inl (fun j => iI ((upz T.1 i 3) j))))], [(rn, .inl (τ 0, 192, .inl (fun j => iI ((upz (upz (T.2.1) (4 * i + 0) sx.v0) (4 * i + 1) sx.v1) j))))], [(ro, .inl (τ 2, 48, .inl (fun j => iI ((upz T.2.2.1 i 0) j))))], [(rt, .inl (τ 0, 10, .inl (fun j => iI ((upz T.2.2.2 3 (T.2.2.2 3 + 1)) j))))]]) _ _ := Y
        refine lv_if_eq (tgt := 92) B.1 B.2.1 dX6_isWellRead_85 (by decide) (fun _ => ?_) (fun h => absurd (by decide) h) 
        refine lv_iconst (v := (iI (0))) B.1 B.2.1 dX6_isWellRead_92 (by decide) ?_
        refine lv_istore_n (lv' := [(2, .int (iI (0))), (0, .ref rd), (3, .int (iI ((i : Nat) : Int)))]) B.1 B.2.1 dX6_isWellRead_93 rfl hl (by decide) rfl (fun ls hl => ?_)
        refine lv_iinc (v := (iI (((i + 1) : Nat) : Int))) (lv' := [(3, .int (iI (((i + 1) : Nat) : Int))), (2, .int (iI (0))), (0, .ref rd)]) B.1 B.2.1 dX6_isWellRead_94 hl (k := 2) rfl (iI_inc _) (by decide) rfl (fun ls hl => ?_)
        refine lv_goto (tgt := 63) B.1 B.2.1 dX6_isWellRead_97 (by decide) ?_
        have hstp : stepT i sx T = (upz T.1 i 3, upz (upz (T.2.1) (4 * i + 0) sx.v0) (4 * i + 1) sx.v1, upz T.2.2.1 i 0, (upz T.2.2.2 3 (T.2.2.2 3 + 1))) := by unfold stepT nuT; rw [hk, ho]; rfl
        rw [show iI 0 = iI (if (i + 1) < xs.length then 1 else 0) from by rw [if_neg (by omega)]] at hl
        exact ih H locs ls ⟨L, (upz T.1 i 3, upz (upz (T.2.1) (4 * i + 0) sx.v0) (4 * i + 1) sx.v1, upz T.2.2.1 i 0, (upz T.2.2.2 3 (T.2.2.2 3 + 1))), (hmv.trans (show tbF (xs.drop (i + 1)) (i + 1) (stepT i sx T) = _ by rw [hstp])), ⟨by omega, Or.inr ⟨by omega, rfl⟩⟩, (fun k9 h9 => by have q := hcc k9 h9; have q2 : (if sx.k = k9 then (1 : Int) else 0) + cntX k9 (xs.drop (i + 1)) + T.2.2.2 k9 = cntX k9 xs := q; rw [hk] at q2; show cntX k9 (xs.drop (i + 1)) + upz T.2.2.2 3 (T.2.2.2 3 + 1) k9 = cntX k9 xs; by_cases q3 : k9 = 3; (· subst q3; rw [upz_k]; rw [if_pos rfl] at q2; omega); (· rw [upz_ne _ _ q3]; rw [if_neg (fun q4 => q3 q4.symm)] at q2; omega)), (fun k9 h9 => by show 0 ≤ upz T.2.2.2 3 (T.2.2.2 3 + 1) k9; by_cases q3 : k9 = 3; (· subst q3; rw [upz_k]; have := hge 3 (by decide); omega); (· rw [upz_ne _ _ q3]; exact hge k9 h9)), lv_sub hl [2, 1, 0] rfl, Y.pick [0, 1, 2, 3, 4, 5] (by decide) rfl⟩
      · rw [hrest] at hra hrl
        have hxx0 := ats_app.mp (show ats b pt (stX sx ++ (59 :: jnX (sy :: sl))) from hra.2.1)
        have hxx := hxx0.1
        have hsc := ats_cons.mp hxx0.2
        have hee : pt + (stX sx).length + 1 + (jnX (sy :: sl)).length = L := by have q : pt + (stX sx ++ (59 :: jnX (sy :: sl))).length = L := hra.2.2; rw [List.length_append, List.length_cons] at q; omega
        obtain ⟨c9, t9, hj9, hc9⟩ := jnX_hd sy sl
        have hl9 : 1 ≤ (jnX (sy :: sl)).length := by rw [hj9]; simp
        have hin : i + 1 < xs.length := by simp at hrl; omega
        have hpe : pt + (stX sx).length = (pt + 5 + sx.d0.length + 1 + sx.d1.length) := by omega
        rw [hpe] at hsc
        have hle : (pt + 5 + sx.d0.length + 1 + sx.d1.length) + 1 < L := by omega
        have hnx : (pt + 5 + sx.d0.length + 1 + sx.d1.length) < L → b (pt + 5 + sx.d0.length + 1 + sx.d1.length) = 59 := fun _ => hsc.1
        have hn9 : b ((pt + 5 + sx.d0.length + 1 + sx.d1.length) + 1) = c9 := by have q := hsc.2; rw [hj9] at q; exact (ats_cons.mp q).1
        rw [hst] at hxx
        refine lv_iload_n B.1 B.2.1 dX6_isWellRead_63 rfl (lv_at hl 2 rfl) ?_
        refine lv_sipush (v := (iI (500))) B.1 B.2.1 dX6_isWellRead_64 (by decide) ?_
        refine lv_icmp_ge (tgt := 100) B.1 B.2.1 dX6_isWellRead_67 (by decide) (fun h => absurd h (mt (iI_le (a := 500) (b := ((i : Nat) : Int)) (by omega) (by omega) (by omega) (by omega)).mp (by omega))) (fun _ => ?_)
        refine lv_iload_n B.1 B.2.1 dX6_isWellRead_70 rfl (lv_at hl 1 rfl) ?_
        refine lv_if_eq (tgt := 100) B.1 B.2.1 dX6_isWellRead_71 (by decide) (fun h => absurd h (by rw [if_pos hlt]; decide)) (fun _ => ?_)
        refine lv_aload_n B.1 B.2.1 dX6_isWellRead_74 rfl (lv_at hl 0 rfl) ?_
        refine qI (Cs := [[(rd, .inr (8, [.ref ri, .int (iI (((L : Nat) : Int))), .int (iI (((pt : Nat) : Int))), .int (iI (0)), .int (iI (0)), .int (iI ((-1))), .int (iI (((i : Nat) : Int))), .ref rk, .ref rn, .ref ro, .ref rt]))], [(ri, .inl (τ 1, 500, .inl (fun j => iI ((b) j))))], [(rk, .inl (τ 0, 48, .inl (fun j => iI ((T.1) j))))], [(rn, .inl (τ 0, 192, .inl (fun j => iI ((T.2.1) j))))], [(ro, .inl (τ 2, 48, .inl (fun j => iI ((T.2.2.1) j))))], [(rt, .inl (τ 0, 10, .inl (fun j => iI ((T.2.2.2) j))))]]) (Rs := []) Y [0, 1, 2, 3, 4, 5] [] (by decide) rfl (cVE (As := []) (rest := []) (q0 := 0) (Ke.ok K) hE B Y [0, 1, 2, 3, 4, 5] (by decide) rfl (k_isStatementRead3 l D τ _ K rd ri rk rn ro rt L i 0 (-1) b T.1 T.2.1 T.2.2.1 T.2.2.2 (by omega) hb pt sx.d0 sx.v0 n0 sx.d1 sx.v1 n1 hxx (by omega) hnx (by omega) ⟨hge 3 (by decide), by omega⟩ ⟨by omega, by omega, hge 0 (by decide), hge 3 (by decide)⟩ (by have := hi0; omega)) rfl rfl q_786 q_788 qp_7 q_3 q_789 rfl rfl hd_X6_isStatementRead ⟨(Nat.le_of_ble_eq_true rfl), (Nat.le_of_ble_eq_true rfl)⟩ rfl hl.1 rfl (Nat.le_of_ble_eq_true rfl) dX6_isWellRead_75 ⟨(Nat.le_of_ble_eq_true rfl), (Nat.le_of_ble_eq_true rfl)⟩) (fun r u H locs hw Y => ?_)
        subst hw
        have Y : Wd D τ s A s.heap (bl [[(rd, .inr (8, [.ref ri, .int (iI (((L : Nat) : Int))), .int (iI ((((pt + 5 + sx.d0.length + 1 + sx.d1.length) : Nat) : Int))), .int (iI (0)), .int (iI (0)), .int (iI ((-1))), .int (iI (((i + 1 : Nat) : Int))), .ref rk, .ref rn, .ref ro, .ref rt]))], [(ri, .inl (τ 1, 500, .inl (fun j => iI ((b) j))))], [(rk, .inl (τ 0, 48, .inl (fun j => iI ((upz T.1 i 3) j))))], [(rn, .inl (τ 0, 192, .inl (fun j => iI ((upz (upz (T.2.1) (4 * i + 0) sx.v0) (4 * i + 1) sx.v1) j))))], [(ro, .inl (τ 2, 48, .inl (fun j => iI ((upz T.2.2.1 i 0) j))))], [(rt, .inl (τ 0, 10, .inl (fun j => iI ((upz T.2.2.2 3 (T.2.2.2 3 + 1)) j))))]]) _ _ := Y
        refine lv_if_eq (tgt := 92) B.1 B.2.1 dX6_isWellRead_78 (by decide) (fun h => absurd h (by decide)) (fun _ => ?_)
        refine lv_aload_n B.1 B.2.1 dX6_isWellRead_81 rfl (lv_at hl 0 rfl) ?_
        refine qI (Cs := [[(rd, .inr (8, [.ref ri, .int (iI (((L : Nat) : Int))), .int (iI ((((pt + 5 + sx.d0.length + 1 + sx.d1.length) : Nat) : Int))), .int (iI (0)), .int (iI (0)), .int (iI ((-1))), .int (iI (((i + 1 : Nat) : Int))), .ref rk, .ref rn, .ref ro, .ref rt]))], [(ri, .inl (τ 1, 500, .inl (fun j => iI ((b) j))))]]) (Rs := [[(rk, .inl (τ 0, 48, .inl (fun j => iI ((upz T.1 i 3) j))))], [(rn, .inl (τ 0, 192, .inl (fun j => iI ((upz (upz (T.2.1) (4 * i + 0) sx.v0) (4 * i + 1) sx.v1) j))))], [(ro, .inl (τ 2, 48, .inl (fun j => iI ((upz T.2.2.1 i 0) j))))], [(rt, .inl (τ 0, 10, .inl (fun j => iI ((upz T.2.2.2 3 (T.2.2.2 3 + 1)) j))))]]) Y [0, 1] [2, 3, 4, 5] (by decide) rfl (cV (As := []) (rest := []) (q0 := 0) B Y [0, 1] (by decide) rfl (k_isAnotherDue_0 l D τ _ rd ri rk rn ro rt L (0) ((-1)) (((i + 1 : Nat) : Int)) b (by omega) hb (pt + 5 + sx.d0.length + 1 + sx.d1.length) (by omega) (hnx (by omega)) (by omega) (by omega)) rfl rfl q_853 q_855 qp_17 q_3 q_856 rfl rfl hd_X6_isAnotherDue ⟨(Nat.le_of_ble_eq_true rfl), (Nat.le_of_ble_eq_true rfl)⟩ rfl hl.1 rfl (Nat.le_of_ble_eq_true rfl) dX6_isWellRead_82 ⟨(Nat.le_of_ble_eq_true rfl), (Nat.le_of_ble_eq_true rfl)⟩) (fun r u H locs hw Y => ?_)
        subst hw
        have Y : Wd D τ s A s.heap (bl [[(rd, .inr (8, [.ref ri, .int (iI (((L : Nat) : Int))), .int (iI ((((pt + 5 + sx.d0.length + 1 + sx.d1.length) + 1) : Nat) : Int)), .int (iI (0)), .int (iI (0)), .int (iI ((-1))), .int (iI (((i + 1 : Nat) : Int))), .ref rk, .ref rn, .ref ro, .ref rt]))], [(ri, .inl (τ 1, 500, .inl (fun j => iI ((b) j))))], [(rk, .inl (τ 0, 48, .inl (fun j => iI ((upz T.1 i 3) j))))], [(rn, .inl (τ 0, 192, .inl (fun j => iI ((upz (upz (T.2.1) (4 * i + 0) sx.v0) (4 * i + 1) sx.v1) j))))], [(ro, .inl (τ 2, 48, .inl (fun j => iI ((upz T.2.2.1 i 0) j))))], [(rt, .inl (τ 0, 10, .inl (fun j => iI ((upz T.2.2.2 3 (T.2.2.2 3 + 1)) j))))]]) _ _ := Y
        refine lv_if_eq (tgt := 92) B.1 B.2.1 dX6_isWellRead_85 (by decide) (fun h => absurd h (by decide)) (fun _ => ?_)
        refine lv_iconst (v := (iI (1))) B.1 B.2.1 dX6_isWellRead_88 (by decide) ?_
        refine lv_goto (tgt := 93) B.1 B.2.1 dX6_isWellRead_89 (by decide) ?_
        refine lv_istore_n (lv' := [(2, .int (iI (1))), (0, .ref rd), (3, .int (iI ((i : Nat) : Int)))]) B.1 B.2.1 dX6_isWellRead_93 rfl hl (by decide) rfl (fun ls hl => ?_)
        refine lv_iinc (v := (iI (((i + 1) : Nat) : Int))) (lv' := [(3, .int (iI (((i + 1) : Nat) : Int))), (2, .int (iI (1))), (0, .ref rd)]) B.1 B.2.1 dX6_isWellRead_94 hl (k := 2) rfl (iI_inc _) (by decide) rfl (fun ls hl => ?_)
        refine lv_goto (tgt := 63) B.1 B.2.1 dX6_isWellRead_97 (by decide) ?_
        have hstp : stepT i sx T = (upz T.1 i 3, upz (upz (T.2.1) (4 * i + 0) sx.v0) (4 * i + 1) sx.v1, upz T.2.2.1 i 0, (upz T.2.2.2 3 (T.2.2.2 3 + 1))) := by unfold stepT nuT; rw [hk, ho]; rfl
        rw [show iI 1 = iI (if (i + 1) < xs.length then 1 else 0) from by rw [if_pos (by omega)]] at hl
        exact ih H locs ls ⟨((pt + 5 + sx.d0.length + 1 + sx.d1.length) + 1), (upz T.1 i 3, upz (upz (T.2.1) (4 * i + 0) sx.v0) (4 * i + 1) sx.v1, upz T.2.2.1 i 0, (upz T.2.2.2 3 (T.2.2.2 3 + 1))), (hmv.trans (show tbF (xs.drop (i + 1)) (i + 1) (stepT i sx T) = _ by rw [hstp])), ⟨by omega, Or.inl ⟨hin, by rw [hrest]; exact hsc.2, by rw [hrest]; omega⟩⟩, (fun k9 h9 => by have q := hcc k9 h9; have q2 : (if sx.k = k9 then (1 : Int) else 0) + cntX k9 (xs.drop (i + 1)) + T.2.2.2 k9 = cntX k9 xs := q; rw [hk] at q2; show cntX k9 (xs.drop (i + 1)) + upz T.2.2.2 3 (T.2.2.2 3 + 1) k9 = cntX k9 xs; by_cases q3 : k9 = 3; (· subst q3; rw [upz_k]; rw [if_pos rfl] at q2; omega); (· rw [upz_ne _ _ q3]; rw [if_neg (fun q4 => q3 q4.symm)] at q2; omega)), (fun k9 h9 => by show 0 ≤ upz T.2.2.2 3 (T.2.2.2 3 + 1) k9; by_cases q3 : k9 = 3; (· subst q3; rw [upz_k]; have := hge 3 (by decide); omega); (· rw [upz_ne _ _ q3]; exact hge k9 h9)), lv_sub hl [2, 1, 0] rfl, Y.pick [0, 1, 2, 3, 4, 5] (by decide) rfl⟩
    · rw [hk] at hd0 hd1 hd2 hd3 hi0
      rw [if_neg (by decide)] at hd0
      rw [if_neg (by decide)] at hd1
      rw [if_neg (by decide)] at hd2
      rw [if_pos (by decide)] at hd3
      have hst : stX sx = (ksZ 3 ++ (32 :: (sx.d0 ++ (32 :: (sx.d1 ++ (32 :: ksZ 10)))))) := (if_neg (by omega)).trans ((if_neg (by omega)).trans ((if_neg (by omega)).trans (if_neg (by omega))))
      have hkl : (ksZ 3).length = 4 := by decide
      have hkf : (ksZ 10).length = 4 := by decide
      have hsl : (stX sx).length = (pt + 5 + sx.d0.length + 1 + sx.d1.length + 1 + 4) - pt := by rw [hst]; simp only [List.length_append, List.length_cons, List.length_nil, hkl, hkf]; omega
      rcases hrest : xs.drop (i + 1) with _ | ⟨sy, sl⟩
      · rw [hrest] at hra hrl
        have hxx : ats b pt (stX sx) := hra.2.1
        have hee : pt + (stX sx).length = L := hra.2.2
        have hin : i + 1 = xs.length := by simp at hrl; omega
        have hle : (pt + 5 + sx.d0.length + 1 + sx.d1.length + 1 + 4) = L := by omega
        have hnx : (pt + 5 + sx.d0.length + 1 + sx.d1.length + 1 + 4) < L → b (pt + 5 + sx.d0.length + 1 + sx.d1.length + 1 + 4) = 59 := fun q => absurd q (by omega)
        rw [hst] at hxx
        refine lv_iload_n B.1 B.2.1 dX6_isWellRead_63 rfl (lv_at hl 2 rfl) ?_
        refine lv_sipush (v := (iI (500))) B.1 B.2.1 dX6_isWellRead_64 (by decide) ?_
        refine lv_icmp_ge (tgt := 100) B.1 B.2.1 dX6_isWellRead_67 (by decide) (fun h => absurd h (mt (iI_le (a := 500) (b := ((i : Nat) : Int)) (by omega) (by omega) (by omega) (by omega)).mp (by omega))) (fun _ => ?_)
        refine lv_iload_n B.1 B.2.1 dX6_isWellRead_70 rfl (lv_at hl 1 rfl) ?_
        refine lv_if_eq (tgt := 100) B.1 B.2.1 dX6_isWellRead_71 (by decide) (fun h => absurd h (by rw [if_pos hlt]; decide)) (fun _ => ?_)
        refine lv_aload_n B.1 B.2.1 dX6_isWellRead_74 rfl (lv_at hl 0 rfl) ?_
        refine qI (Cs := [[(rd, .inr (8, [.ref ri, .int (iI (((L : Nat) : Int))), .int (iI (((pt : Nat) : Int))), .int (iI (0)), .int (iI (0)), .int (iI ((-1))), .int (iI (((i : Nat) : Int))), .ref rk, .ref rn, .ref ro, .ref rt]))], [(ri, .inl (τ 1, 500, .inl (fun j => iI ((b) j))))], [(rk, .inl (τ 0, 48, .inl (fun j => iI ((T.1) j))))], [(rn, .inl (τ 0, 192, .inl (fun j => iI ((T.2.1) j))))], [(ro, .inl (τ 2, 48, .inl (fun j => iI ((T.2.2.1) j))))], [(rt, .inl (τ 0, 10, .inl (fun j => iI ((T.2.2.2) j))))]]) (Rs := []) Y [0, 1, 2, 3, 4, 5] [] (by decide) rfl (cVE (As := []) (rest := []) (q0 := 0) (Ke.ok K) hE B Y [0, 1, 2, 3, 4, 5] (by decide) rfl (k_isStatementRead3f l D τ _ K rd ri rk rn ro rt L i 0 (-1) b T.1 T.2.1 T.2.2.1 T.2.2.2 (by omega) hb pt sx.d0 sx.v0 n0 sx.d1 sx.v1 n1 hxx (by omega) hnx (by omega) ⟨hge 3 (by decide), by omega⟩ ⟨by omega, by omega, hge 0 (by decide), hge 3 (by decide)⟩ (by have := hi0; omega)) rfl rfl q_786 q_788 qp_7 q_3 q_789 rfl rfl hd_X6_isStatementRead ⟨(Nat.le_of_ble_eq_true rfl), (Nat.le_of_ble_eq_true rfl)⟩ rfl hl.1 rfl (Nat.le_of_ble_eq_true rfl) dX6_isWellRead_75 ⟨(Nat.le_of_ble_eq_true rfl), (Nat.le_of_ble_eq_true rfl)⟩) (fun r u H locs hw Y => ?_)
        subst hw
        have Y : Wd D τ s A s.heap (bl [[(rd, .inr (8, [.ref ri, .int (iI (((L : Nat) : Int))), .int (iI ((((pt + 5 + sx.d0.length + 1 + sx.d1.length + 1 + 4) : Nat) : Int))), .int (iI (0)), .int (iI (0)), .int (iI ((-1))), .int (iI (((i + 1 : Nat) : Int))), .ref rk, .ref rn, .ref ro, .ref rt]))], [(ri, .inl (τ 1, 500, .inl (fun j => iI ((b) j))))], [(rk, .inl (τ 0, 48, .inl (fun j => iI ((upz T.1 i 3) j))))], [(rn, .inl (τ 0, 192, .inl (fun j => iI ((upz (upz (T.2.1) (4 * i + 0) sx.v0) (4 * i + 1) sx.v1) j))))], [(ro, .inl (τ 2, 48, .inl (fun j => iI ((upz T.2.2.1 i 1) j))))], [(rt, .inl (τ 0, 10, .inl (fun j => iI ((upz T.2.2.2 3 (T.2.2.2 3 + 1)) j))))]]) _ _ := Y
        refine lv_if_eq (tgt := 92) B.1 B.2.1 dX6_isWellRead_78 (by decide) (fun h => absurd h (by decide)) (fun _ => ?_)
        refine lv_aload_n B.1 B.2.1 dX6_isWellRead_81 rfl (lv_at hl 0 rfl) ?_
        rw [hle] at Y
        refine qI (Cs := [[(rd, .inr (8, [.ref ri, .int (iI (((L : Nat) : Int))), .int (iI ((L : Nat) : Int)), .int (iI (0)), .int (iI (0)), .int (iI ((-1))), .int (iI (((i + 1 : Nat) : Int))), .ref rk, .ref rn, .ref ro, .ref rt]))], [(ri, .inl (τ 1, 500, .inl (fun j => iI ((b) j))))]]) (Rs := [[(rk, .inl (τ 0, 48, .inl (fun j => iI ((upz T.1 i 3) j))))], [(rn, .inl (τ 0, 192, .inl (fun j => iI ((upz (upz (T.2.1) (4 * i + 0) sx.v0) (4 * i + 1) sx.v1) j))))], [(ro, .inl (τ 2, 48, .inl (fun j => iI ((upz T.2.2.1 i 1) j))))], [(rt, .inl (τ 0, 10, .inl (fun j => iI ((upz T.2.2.2 3 (T.2.2.2 3 + 1)) j))))]]) Y [0, 1] [2, 3, 4, 5] (by decide) rfl (cV (As := []) (rest := []) (q0 := 0) B Y [0, 1] (by decide) rfl (k_isAnotherDue_end l D τ _ rd ri rk rn ro rt L (0) ((-1)) (((i + 1 : Nat) : Int)) b (by omega) hb) rfl rfl q_853 q_855 qp_17 q_3 q_856 rfl rfl hd_X6_isAnotherDue ⟨(Nat.le_of_ble_eq_true rfl), (Nat.le_of_ble_eq_true rfl)⟩ rfl hl.1 rfl (Nat.le_of_ble_eq_true rfl) dX6_isWellRead_82 ⟨(Nat.le_of_ble_eq_true rfl), (Nat.le_of_ble_eq_true rfl)⟩) (fun r u H locs hw Y => ?_)
        subst hw
        have Y : Wd D τ s A s.heap (bl [[(rd, .inr (8, [.ref ri, .int (iI (((L : Nat) : Int))), .int (iI ((L : Nat) : Int)), .int (iI (0)), .int (iI (0)), .int (iI ((-1))), .int (iI (((i + 1 : Nat) : Int))), .ref rk, .ref rn, .ref ro, .ref rt]))], [(ri, .inl (τ 1, 500, .inl (fun j => iI ((b) j))))], [(rk, .inl (τ 0, 48, .inl (fun j => iI ((upz T.1 i 3) j))))], [(rn, .inl (τ 0, 192, .inl (fun j => iI ((upz (upz (T.2.1) (4 * i + 0) sx.v0) (4 * i + 1) sx.v1) j))))], [(ro, .inl (τ 2, 48, .inl (fun j => iI ((upz T.2.2.1 i 1) j))))], [(rt, .inl (τ 0, 10, .inl (fun j => iI ((upz T.2.2.2 3 (T.2.2.2 3 + 1)) j))))]]) _ _ := Y
        refine lv_if_eq (tgt := 92) B.1 B.2.1 dX6_isWellRead_85 (by decide) (fun _ => ?_) (fun h => absurd (by decide) h) 
        refine lv_iconst (v := (iI (0))) B.1 B.2.1 dX6_isWellRead_92 (by decide) ?_
        refine lv_istore_n (lv' := [(2, .int (iI (0))), (0, .ref rd), (3, .int (iI ((i : Nat) : Int)))]) B.1 B.2.1 dX6_isWellRead_93 rfl hl (by decide) rfl (fun ls hl => ?_)
        refine lv_iinc (v := (iI (((i + 1) : Nat) : Int))) (lv' := [(3, .int (iI (((i + 1) : Nat) : Int))), (2, .int (iI (0))), (0, .ref rd)]) B.1 B.2.1 dX6_isWellRead_94 hl (k := 2) rfl (iI_inc _) (by decide) rfl (fun ls hl => ?_)
        refine lv_goto (tgt := 63) B.1 B.2.1 dX6_isWellRead_97 (by decide) ?_
        have hstp : stepT i sx T = (upz T.1 i 3, upz (upz (T.2.1) (4 * i + 0) sx.v0) (4 * i + 1) sx.v1, upz T.2.2.1 i 1, (upz T.2.2.2 3 (T.2.2.2 3 + 1))) := by unfold stepT nuT; rw [hk, ho]; rfl
        rw [show iI 0 = iI (if (i + 1) < xs.length then 1 else 0) from by rw [if_neg (by omega)]] at hl
        exact ih H locs ls ⟨L, (upz T.1 i 3, upz (upz (T.2.1) (4 * i + 0) sx.v0) (4 * i + 1) sx.v1, upz T.2.2.1 i 1, (upz T.2.2.2 3 (T.2.2.2 3 + 1))), (hmv.trans (show tbF (xs.drop (i + 1)) (i + 1) (stepT i sx T) = _ by rw [hstp])), ⟨by omega, Or.inr ⟨by omega, rfl⟩⟩, (fun k9 h9 => by have q := hcc k9 h9; have q2 : (if sx.k = k9 then (1 : Int) else 0) + cntX k9 (xs.drop (i + 1)) + T.2.2.2 k9 = cntX k9 xs := q; rw [hk] at q2; show cntX k9 (xs.drop (i + 1)) + upz T.2.2.2 3 (T.2.2.2 3 + 1) k9 = cntX k9 xs; by_cases q3 : k9 = 3; (· subst q3; rw [upz_k]; rw [if_pos rfl] at q2; omega); (· rw [upz_ne _ _ q3]; rw [if_neg (fun q4 => q3 q4.symm)] at q2; omega)), (fun k9 h9 => by show 0 ≤ upz T.2.2.2 3 (T.2.2.2 3 + 1) k9; by_cases q3 : k9 = 3; (· subst q3; rw [upz_k]; have := hge 3 (by decide); omega); (· rw [upz_ne _ _ q3]; exact hge k9 h9)), lv_sub hl [2, 1, 0] rfl, Y.pick [0, 1, 2, 3, 4, 5] (by decide) rfl⟩
      · rw [hrest] at hra hrl
        have hxx0 := ats_app.mp (show ats b pt (stX sx ++ (59 :: jnX (sy :: sl))) from hra.2.1)
        have hxx := hxx0.1
        have hsc := ats_cons.mp hxx0.2
        have hee : pt + (stX sx).length + 1 + (jnX (sy :: sl)).length = L := by have q : pt + (stX sx ++ (59 :: jnX (sy :: sl))).length = L := hra.2.2; rw [List.length_append, List.length_cons] at q; omega
        obtain ⟨c9, t9, hj9, hc9⟩ := jnX_hd sy sl
        have hl9 : 1 ≤ (jnX (sy :: sl)).length := by rw [hj9]; simp
        have hin : i + 1 < xs.length := by simp at hrl; omega
        have hpe : pt + (stX sx).length = (pt + 5 + sx.d0.length + 1 + sx.d1.length + 1 + 4) := by omega
        rw [hpe] at hsc
        have hle : (pt + 5 + sx.d0.length + 1 + sx.d1.length + 1 + 4) + 1 < L := by omega
        have hnx : (pt + 5 + sx.d0.length + 1 + sx.d1.length + 1 + 4) < L → b (pt + 5 + sx.d0.length + 1 + sx.d1.length + 1 + 4) = 59 := fun _ => hsc.1
        have hn9 : b ((pt + 5 + sx.d0.length + 1 + sx.d1.length + 1 + 4) + 1) = c9 := by have q := hsc.2; rw [hj9] at q; exact (ats_cons.mp q).1
        rw [hst] at hxx
        refine lv_iload_n B.1 B.2.1 dX6_isWellRead_63 rfl (lv_at hl 2 rfl) ?_
        refine lv_sipush (v := (iI (500))) B.1 B.2.1 dX6_isWellRead_64 (by decide) ?_
        refine lv_icmp_ge (tgt := 100) B.1 B.2.1 dX6_isWellRead_67 (by decide) (fun h => absurd h (mt (iI_le (a := 500) (b := ((i : Nat) : Int)) (by omega) (by omega) (by omega) (by omega)).mp (by omega))) (fun _ => ?_)
        refine lv_iload_n B.1 B.2.1 dX6_isWellRead_70 rfl (lv_at hl 1 rfl) ?_
        refine lv_if_eq (tgt := 100) B.1 B.2.1 dX6_isWellRead_71 (by decide) (fun h => absurd h (by rw [if_pos hlt]; decide)) (fun _ => ?_)
        refine lv_aload_n B.1 B.2.1 dX6_isWellRead_74 rfl (lv_at hl 0 rfl) ?_
        refine qI (Cs := [[(rd, .inr (8, [.ref ri, .int (iI (((L : Nat) : Int))), .int (iI (((pt : Nat) : Int))), .int (iI (0)), .int (iI (0)), .int (iI ((-1))), .int (iI (((i : Nat) : Int))), .ref rk, .ref rn, .ref ro, .ref rt]))], [(ri, .inl (τ 1, 500, .inl (fun j => iI ((b) j))))], [(rk, .inl (τ 0, 48, .inl (fun j => iI ((T.1) j))))], [(rn, .inl (τ 0, 192, .inl (fun j => iI ((T.2.1) j))))], [(ro, .inl (τ 2, 48, .inl (fun j => iI ((T.2.2.1) j))))], [(rt, .inl (τ 0, 10, .inl (fun j => iI ((T.2.2.2) j))))]]) (Rs := []) Y [0, 1, 2, 3, 4, 5] [] (by decide) rfl (cVE (As := []) (rest := []) (q0 := 0) (Ke.ok K) hE B Y [0, 1, 2, 3, 4, 5] (by decide) rfl (k_isStatementRead3f l D τ _ K rd ri rk rn ro rt L i 0 (-1) b T.1 T.2.1 T.2.2.1 T.2.2.2 (by omega) hb pt sx.d0 sx.v0 n0 sx.d1 sx.v1 n1 hxx (by omega) hnx (by omega) ⟨hge 3 (by decide), by omega⟩ ⟨by omega, by omega, hge 0 (by decide), hge 3 (by decide)⟩ (by have := hi0; omega)) rfl rfl q_786 q_788 qp_7 q_3 q_789 rfl rfl hd_X6_isStatementRead ⟨(Nat.le_of_ble_eq_true rfl), (Nat.le_of_ble_eq_true rfl)⟩ rfl hl.1 rfl (Nat.le_of_ble_eq_true rfl) dX6_isWellRead_75 ⟨(Nat.le_of_ble_eq_true rfl), (Nat.le_of_ble_eq_true rfl)⟩) (fun r u H locs hw Y => ?_)
        subst hw
        have Y : Wd D τ s A s.heap (bl [[(rd, .inr (8, [.ref ri, .int (iI (((L : Nat) : Int))), .int (iI ((((pt + 5 + sx.d0.length + 1 + sx.d1.length + 1 + 4) : Nat) : Int))), .int (iI (0)), .int (iI (0)), .int (iI ((-1))), .int (iI (((i + 1 : Nat) : Int))), .ref rk, .ref rn, .ref ro, .ref rt]))], [(ri, .inl (τ 1, 500, .inl (fun j => iI ((b) j))))], [(rk, .inl (τ 0, 48, .inl (fun j => iI ((upz T.1 i 3) j))))], [(rn, .inl (τ 0, 192, .inl (fun j => iI ((upz (upz (T.2.1) (4 * i + 0) sx.v0) (4 * i + 1) sx.v1) j))))], [(ro, .inl (τ 2, 48, .inl (fun j => iI ((upz T.2.2.1 i 1) j))))], [(rt, .inl (τ 0, 10, .inl (fun j => iI ((upz T.2.2.2 3 (T.2.2.2 3 + 1)) j))))]]) _ _ := Y
        refine lv_if_eq (tgt := 92) B.1 B.2.1 dX6_isWellRead_78 (by decide) (fun h => absurd h (by decide)) (fun _ => ?_)
        refine lv_aload_n B.1 B.2.1 dX6_isWellRead_81 rfl (lv_at hl 0 rfl) ?_
        refine qI (Cs := [[(rd, .inr (8, [.ref ri, .int (iI (((L : Nat) : Int))), .int (iI ((((pt + 5 + sx.d0.length + 1 + sx.d1.length + 1 + 4) : Nat) : Int))), .int (iI (0)), .int (iI (0)), .int (iI ((-1))), .int (iI (((i + 1 : Nat) : Int))), .ref rk, .ref rn, .ref ro, .ref rt]))], [(ri, .inl (τ 1, 500, .inl (fun j => iI ((b) j))))]]) (Rs := [[(rk, .inl (τ 0, 48, .inl (fun j => iI ((upz T.1 i 3) j))))], [(rn, .inl (τ 0, 192, .inl (fun j => iI ((upz (upz (T.2.1) (4 * i + 0) sx.v0) (4 * i + 1) sx.v1) j))))], [(ro, .inl (τ 2, 48, .inl (fun j => iI ((upz T.2.2.1 i 1) j))))], [(rt, .inl (τ 0, 10, .inl (fun j => iI ((upz T.2.2.2 3 (T.2.2.2 3 + 1)) j))))]]) Y [0, 1] [2, 3, 4, 5] (by decide) rfl (cV (As := []) (rest := []) (q0 := 0) B Y [0, 1] (by decide) rfl (k_isAnotherDue_0 l D τ _ rd ri rk rn ro rt L (0) ((-1)) (((i + 1 : Nat) : Int)) b (by omega) hb (pt + 5 + sx.d0.length + 1 + sx.d1.length + 1 + 4) (by omega) (hnx (by omega)) (by omega) (by omega)) rfl rfl q_853 q_855 qp_17 q_3 q_856 rfl rfl hd_X6_isAnotherDue ⟨(Nat.le_of_ble_eq_true rfl), (Nat.le_of_ble_eq_true rfl)⟩ rfl hl.1 rfl (Nat.le_of_ble_eq_true rfl) dX6_isWellRead_82 ⟨(Nat.le_of_ble_eq_true rfl), (Nat.le_of_ble_eq_true rfl)⟩) (fun r u H locs hw Y => ?_)
        subst hw
        have Y : Wd D τ s A s.heap (bl [[(rd, .inr (8, [.ref ri, .int (iI (((L : Nat) : Int))), .int (iI ((((pt + 5 + sx.d0.length + 1 + sx.d1.length + 1 + 4) + 1) : Nat) : Int)), .int (iI (0)), .int (iI (0)), .int (iI ((-1))), .int (iI (((i + 1 : Nat) : Int))), .ref rk, .ref rn, .ref ro, .ref rt]))], [(ri, .inl (τ 1, 500, .inl (fun j => iI ((b) j))))], [(rk, .inl (τ 0, 48, .inl (fun j => iI ((upz T.1 i 3) j))))], [(rn, .inl (τ 0, 192, .inl (fun j => iI ((upz (upz (T.2.1) (4 * i + 0) sx.v0) (4 * i + 1) sx.v1) j))))], [(ro, .inl (τ 2, 48, .inl (fun j => iI ((upz T.2.2.1 i 1) j))))], [(rt, .inl (τ 0, 10, .inl (fun j => iI ((upz T.2.2.2 3 (T.2.2.2 3 + 1)) j))))]]) _ _ := Y
        refine lv_if_eq (tgt := 92) B.1 B.2.1 dX6_isWellRead_85 (by decide) (fun h => absurd h (by decide)) (fun _ => ?_)
        refine lv_iconst (v := (iI (1))) B.1 B.2.1 dX6_isWellRead_88 (by decide) ?_
        refine lv_goto (tgt := 93) B.1 B.2.1 dX6_isWellRead_89 (by decide) ?_
        refine lv_istore_n (lv' := [(2, .int (iI (1))), (0, .ref rd), (3, .int (iI ((i : Nat) : Int)))]) B.1 B.2.1 dX6_isWellRead_93 rfl hl (by decide) rfl (fun ls hl => ?_)
        refine lv_iinc (v := (iI (((i + 1) : Nat) : Int))) (lv' := [(3, .int (iI (((i + 1) : Nat) : Int))), (2, .int (iI (1))), (0, .ref rd)]) B.1 B.2.1 dX6_isWellRead_94 hl (k := 2) rfl (iI_inc _) (by decide) rfl (fun ls hl => ?_)
        refine lv_goto (tgt := 63) B.1 B.2.1 dX6_isWellRead_97 (by decide) ?_
        have hstp : stepT i sx T = (upz T.1 i 3, upz (upz (T.2.1) (4 * i + 0) sx.v0) (4 * i + 1) sx.v1, upz T.2.2.1 i 1, (upz T.2.2.2 3 (T.2.2.2 3 + 1))) := by unfold stepT nuT; rw [hk, ho]; rfl
        rw [show iI 1 = iI (if (i + 1) < xs.length then 1 else 0) from by rw [if_pos (by omega)]] at hl
        exact ih H locs ls ⟨((pt + 5 + sx.d0.length + 1 + sx.d1.length + 1 + 4) + 1), (upz T.1 i 3, upz (upz (T.2.1) (4 * i + 0) sx.v0) (4 * i + 1) sx.v1, upz T.2.2.1 i 1, (upz T.2.2.2 3 (T.2.2.2 3 + 1))), (hmv.trans (show tbF (xs.drop (i + 1)) (i + 1) (stepT i sx T) = _ by rw [hstp])), ⟨by omega, Or.inl ⟨hin, by rw [hrest]; exact hsc.2, by rw [hrest]; omega⟩⟩, (fun k9 h9 => by have q := hcc k9 h9; have q2 : (if sx.k = k9 then (1 : Int) else 0) + cntX k9 (xs.drop (i + 1)) + T.2.2.2 k9 = cntX k9 xs := q; rw [hk] at q2; show cntX k9 (xs.drop (i + 1)) + upz T.2.2.2 3 (T.2.2.2 3 + 1) k9 = cntX k9 xs; by_cases q3 : k9 = 3; (· subst q3; rw [upz_k]; rw [if_pos rfl] at q2; omega); (· rw [upz_ne _ _ q3]; rw [if_neg (fun q4 => q3 q4.symm)] at q2; omega)), (fun k9 h9 => by show 0 ≤ upz T.2.2.2 3 (T.2.2.2 3 + 1) k9; by_cases q3 : k9 = 3; (· subst q3; rw [upz_k]; have := hge 3 (by decide); omega); (· rw [upz_ne _ _ q3]; exact hge k9 h9)), lv_sub hl [2, 1, 0] rfl, Y.pick [0, 1, 2, 3, 4, 5] (by decide) rfl⟩

