def accI (ch : Nat → Int) (q : Nat) : Nat → Int
  | 0 => 0
  | r + 1 => accI ch q r * 256 + ch (4 * q + r)
def pwF (ch : Nat → Int) (t : Nat) : Nat → Int := fun q => accI ch q (min (t - 4 * q) 4)
theorem accI_in {ch : Nat → Int} (h : BOk ch) (q : Nat) : ∀ r : Nat, r ≤ 3 → 0 ≤ accI ch q r ∧ accI ch q r < 8388608
  | 0, _ => ⟨Int.le_refl 0, (by decide : (0 : Int) < 8388608)⟩
  | 1, _ => by
    have h0 := h (4 * q + 0)
    show 0 ≤ (0 : Int) * 256 + ch (4 * q + 0) ∧ (0 : Int) * 256 + ch (4 * q + 0) < 8388608
    omega
  | 2, _ => by
    have h0 := h (4 * q + 0); have h1 := h (4 * q + 1)
    show 0 ≤ ((0 : Int) * 256 + ch (4 * q + 0)) * 256 + ch (4 * q + 1) ∧ ((0 : Int) * 256 + ch (4 * q + 0)) * 256 + ch (4 * q + 1) < 8388608
    omega
  | 3, _ => by
    have h0 := h (4 * q + 0); have h1 := h (4 * q + 1); have h2 := h (4 * q + 2)
    show 0 ≤ (((0 : Int) * 256 + ch (4 * q + 0)) * 256 + ch (4 * q + 1)) * 256 + ch (4 * q + 2) ∧ (((0 : Int) * 256 + ch (4 * q + 0)) * 256 + ch (4 * q + 1)) * 256 + ch (4 * q + 2) < 8388608
    omega
theorem accI_4 (ch : Nat → Int) (q : Nat) : accI ch q 4 = wrdI ch (4 * q) := by
  show ((((0 : Int) * 256 + ch (4 * q + 0)) * 256 + ch (4 * q + 1)) * 256 + ch (4 * q + 2)) * 256 + ch (4 * q + 3) = _
  unfold wrdI
  rw [Nat.add_zero]; omega
theorem pwF_20 (ch : Nat → Int) {q : Nat} (h : q < 5) : pwF ch 20 q = wrdI ch (4 * q) := by
  rw [← accI_4]
  unfold pwF
  congr 1; omega
theorem pwF_at (ch : Nat → Int) (t : Nat) : pwF ch t (t / 4) = accI ch (t / 4) (t % 4) := by
  unfold pwF
  congr 1; omega
theorem pwF_s (ch : Nat → Int) (t : Nat) : upz (pwF ch t) (t / 4) (accI ch (t / 4) (t % 4) * 256 + ch t) = pwF ch (t + 1) := by
  funext q
  unfold upz pwF
  by_cases e : q = t / 4
  · subst e
    rw [if_pos rfl, show min (t + 1 - 4 * (t / 4)) 4 = t % 4 + 1 by omega]
    show _ = accI ch (t / 4) (t % 4) * 256 + ch (4 * (t / 4) + t % 4)
    rw [show 4 * (t / 4) + t % 4 = t by omega]
  · rw [if_neg e]
    congr 1; omega
theorem pwF_0 (ch : Nat → Int) : pwF ch 0 = fun _ => 0 := by
  funext q
  unfold pwF
  rw [Nat.zero_sub, Nat.zero_min]; rfl
theorem iI_sh8 {a c : Int} (h0 : 0 ≤ a) (h1 : a < 8388608) (h2 : 0 ≤ c) (h3 : c < 256) : (iI a <<< (iI 8 &&& 31)) ||| iI c = iI (a * 256 + c) := by
  obtain ⟨x, rfl⟩ := Int.eq_ofNat_of_zero_le h0
  obtain ⟨y, rfl⟩ := Int.eq_ofNat_of_zero_le h2
  rw [iI_nI, iI_nI, pk_shlN (n := x) _ 8 (by decide) (by omega)]
  have e : ((x : Int) * 256 + (y : Int)) = ((x * 2 ^ 8 + y : Nat) : Int) := by omega
  rw [e, iI_nI]
  apply Int32.toBitVec_inj.mp
  apply BitVec.eq_of_toNat_eq
  rw [Int32.toBitVec_or, BitVec.toNat_or, pk_tn (by omega), pk_tn (by omega), pk_tn (by omega)]
  rw [← Nat.shiftLeft_eq, ← Nat.shiftLeft_add_eq_or_of_lt (by omega)]
def chX (X : List Int) (k : Nat) : Nat → Int := fun j => if k + j < X.length then X.getD (k + j) 0 else 0
theorem chX_ok {X : List Int} (h : ∀ j : Nat, 0 ≤ X.getD j 0 ∧ X.getD j 0 ≤ 127) (k : Nat) : BOk (chX X k) := fun j => by
  unfold chX
  split
  · exact h _
  · omega
set_option maxHeartbeats 600000 in
set_option maxRecDepth 100000 in
theorem h_comes_k (l : Launch) (D : va_G) (τ : Nat → ClassId) (sz T0 KC KS : Nat) (K : Nat → Nat) (bs Ln : Nat) (xs : Nat → Int32) (q9 rd tx bd pa9 : Nat) (ol bk : Int) (tr kp : Option Nat) (F : Nat → Nat) (ri rk rn ro rt : Nat) (pl io er ea cn : Int) (b : Nat → Int) (hb : BOk b)  : Met l yL_comes (Cond.code yL_comes cL_comes 5 none :: wALL) { frames := 4, cells := KC - sz, slots := KS - T0, locals := 85 } (PzE (EL K bs Ln xs) D τ (bl [[(q9, .inr (11, [.ref rd, .ref tx, .ref bd, .ref (F 0), .ref pa9, .int (iI (ol)), .int (iI (bk)), va_rf tr, va_rf kp]))], [(rd, .inr (8, [.ref ri, .int (iI (0)), .int (iI (pl)), .int (iI (io)), .int (iI (er)), .int (iI (ea)), .int (iI (cn)), .ref rk, .ref rn, .ref ro, .ref rt]))], [(ri, .inl (τ 1, 500, .inl (fun j => iI ((b) j))))]]) sz T0 [.ref q9, .ref (K (2 * 19))] KC KS (26) (130)) (va_Qv (fun (u : (Nat → Int)) => BOk u ∧ ats u 0 (ksZ 19)) (Bz D (va_A (bl [[(q9, .inr (11, [.ref rd, .ref tx, .ref bd, .ref (F 0), .ref pa9, .int (iI (ol)), .int (iI (bk)), va_rf tr, va_rf kp]))], [(rd, .inr (8, [.ref ri, .int (iI (0)), .int (iI (pl)), .int (iI (io)), .int (iI (er)), .int (iI (ea)), .int (iI (cn)), .ref rk, .ref rn, .ref ro, .ref rt]))], [(ri, .inl (τ 1, 500, .inl (fun j => iI ((b) j))))]]) sz) (fun (u : (Nat → Int)) => [[(q9, .inr (11, [.ref rd, .ref tx, .ref bd, .ref (F 0), .ref pa9, .int (iI (ol)), .int (iI (bk)), va_rf tr, va_rf kp]))], [(rd, .inr (8, [.ref ri, .int (iI ((((ksZ 19).length : Nat) : Int))), .int (iI (pl)), .int (iI (io)), .int (iI (er)), .int (iI (ea)), .int (iI (cn)), .ref rk, .ref rn, .ref ro, .ref rt]))], [(ri, .inl (τ 1, 500, .inl (fun j => iI ((u) j))))]]) KC KS (fun (u : (Nat → Int)) => 0) (fun (u : (Nat → Int)) => 0)) (va_A (bl [[(q9, .inr (11, [.ref rd, .ref tx, .ref bd, .ref (F 0), .ref pa9, .int (iI (ol)), .int (iI (bk)), va_rf tr, va_rf kp]))], [(rd, .inr (8, [.ref ri, .int (iI (0)), .int (iI (pl)), .int (iI (io)), .int (iI (er)), .int (iI (ea)), .int (iI (cn)), .ref rk, .ref rn, .ref ro, .ref rt]))], [(ri, .inl (τ 1, 500, .inl (fun j => iI ((b) j))))]]) sz)) (KC - sz) (KS - T0) (va_A (bl [[(q9, .inr (11, [.ref rd, .ref tx, .ref bd, .ref (F 0), .ref pa9, .int (iI (ol)), .int (iI (bk)), va_rf tr, va_rf kp]))], [(rd, .inr (8, [.ref ri, .int (iI (0)), .int (iI (pl)), .int (iI (io)), .int (iI (er)), .int (iI (ea)), .int (iI (cn)), .ref rk, .ref rn, .ref ro, .ref rt]))], [(ri, .inl (τ 1, 500, .inl (fun j => iI ((b) j))))]]) sz) := by
  refine bodyZE (by decide +kernel) (Nat.le_of_ble_eq_true rfl) (fun p e s m below meth c ls B hr hlk hin hsz hT0 hz1 hz2 Y hL hl => ?_)
  have hl : lv_has ls 5 [(0, .ref q9), (1, .ref (K (2 * 19)))] := hl
  have B : CallFix p m c cL_comes 5 s _ wALL RL := B
  generalize va_A (bl [[(q9, .inr (11, [.ref rd, .ref tx, .ref bd, .ref (F 0), .ref pa9, .int (iI (ol)), .int (iI (bk)), va_rf tr, va_rf kp]))], [(rd, .inr (8, [.ref ri, .int (iI (0)), .int (iI (pl)), .int (iI (io)), .int (iI (er)), .int (iI (ea)), .int (iI (cn)), .ref rk, .ref rn, .ref ro, .ref rt]))], [(ri, .inl (τ 1, 500, .inl (fun j => iI ((b) j))))]]) sz = A at Y hL ⊢
  have hK := hL.1
  have hE := hK.1
  have hX5 : (ksZ 19).length ≤ 480 := by have q := ksZ_le 19; omega
  have hXb : ∀ j : Nat, 0 ≤ (ksZ 19).getD j 0 ∧ (ksZ 19).getD j 0 ≤ 127 := ksZ_in 19
  obtain ⟨nr, hnr⟩ : ∃ n : Nat, n = ((ksZ 19).length + 19) / 20 := ⟨_, rfl⟩
  refine lv_iconst (v := (iI (0))) B.1 B.2.1 dL_comes_0 (by decide) ?_
  refine lv_istore_n (lv' := [(2, .int (iI (0))), (0, .ref q9), (1, .ref (K (2 * 19)))]) B.1 B.2.1 dL_comes_1 rfl hl (by decide) rfl (fun ls hl => ?_)
  have hl : lv_has ls 5 [(0, .ref q9), (1, .ref (K (2 * 19))), (2, .int (iI ((0 : Nat) : Int)))] := lv_sub hl [1, 2, 0] rfl
  have hl : lv_has ls 5 [(0, .ref q9), (1, .ref (K (2 * 19))), (2, .int (iI (((20 * 0) : Nat) : Int)))] := hl
  have Y : Wd D τ s A s.heap (bl [[(q9, .inr (11, [.ref rd, .ref tx, .ref bd, .ref (F 0), .ref pa9, .int (iI (ol)), .int (iI (bk)), va_rf tr, va_rf kp]))], [(rd, .inr (8, [.ref ri, .int (iI (((20 * 0 : Nat) : Int))), .int (iI (pl)), .int (iI (io)), .int (iI (er)), .int (iI (ea)), .int (iI (cn)), .ref rk, .ref rn, .ref ro, .ref rt]))], [(ri, .inl (τ 1, 500, .inl (fun j => iI ((b) j))))]]) _ _ := Y
  refine loopZ (n := nr) (P := fun (i : Nat) (H : Heap) (locs : List Loc) (ls : Array Slot) (cells slots : Nat) => ∃ bi : Nat → Int, (BOk bi) ∧ (∀ j : Nat, j < 20 * i → j < (ksZ 19).length → bi j = (ksZ 19).getD j 0) ∧ lv_has ls 5 [(0, .ref q9), (1, .ref (K (2 * 19))), (2, .int (iI (((20 * i) : Nat) : Int)))] ∧ Wd D τ s A s.heap (bl [[(q9, .inr (11, [.ref rd, .ref tx, .ref bd, .ref (F 0), .ref pa9, .int (iI (ol)), .int (iI (bk)), va_rf tr, va_rf kp]))], [(rd, .inr (8, [.ref ri, .int (iI (((20 * i : Nat) : Int))), .int (iI (pl)), .int (iI (io)), .int (iI (er)), .int (iI (ea)), .int (iI (cn)), .ref rk, .ref rn, .ref ro, .ref rt]))], [(ri, .inl (τ 1, 500, .inl (fun j => iI ((bi) j))))]]) H locs ∧ s.heap.size + cells + (26 - i) ≤ KC ∧ totS s.heap + slots + 5 * (26 - i) ≤ KS) 0 (Nat.zero_le _) ⟨b, hb, (fun j h1 h2 => absurd h1 (Nat.not_lt_zero j)), lv_sub hl [0, 1, 2] rfl, Y.pick [0, 1, 2] (by decide) rfl, by omega, by omega⟩ (fun H locs ls cells slots hP => ?_) (fun i hlt H locs ls cells slots hP ih => ?_)
  · obtain ⟨bi, hbi, hbX, hl, Y, hz1, hz2⟩ := hP
    refine lv_iload_n B.1 B.2.1 dL_comes_2 rfl (lv_at hl 2 rfl) ?_
    refine lv_aload_n B.1 B.2.1 dL_comes_3 rfl (lv_at hl 1 rfl) ?_
    refine qI (Cs := []) (Rs := [[(q9, .inr (11, [.ref rd, .ref tx, .ref bd, .ref (F 0), .ref pa9, .int (iI (ol)), .int (iI (bk)), va_rf tr, va_rf kp]))], [(rd, .inr (8, [.ref ri, .int (iI (((20 * nr : Nat) : Int))), .int (iI (pl)), .int (iI (io)), .int (iI (er)), .int (iI (ea)), .int (iI (cn)), .ref rk, .ref rn, .ref ro, .ref rt]))], [(ri, .inl (τ 1, 500, .inl (fun j => iI ((bi) j))))]]) Y [] [0, 1, 2] (by decide) rfl (cVK (As := []) (rest := [.int (iI (((20 * nr) : Nat) : Int))]) (vk_recv (hE.str 19 (by decide)) (i := 0) (by decide) Y.2.2.2.1) (Ke.ok K) hE B Y [] (by decide) rfl (k_lenK l D τ _ K 19 (by decide)) q_700 q_701 q_702 q_15 q_703 rfl rfl hd_J0_length_8abf5 ⟨(Nat.le_of_ble_eq_true rfl), (Nat.le_of_ble_eq_true rfl)⟩ rfl hl.1 rfl (Nat.le_of_ble_eq_true rfl) dL_comes_4 ⟨by show _ ≤ KC - s.heap.size; omega, by show _ ≤ KS - totS s.heap; omega⟩) (fun r u H locs hw Y => ?_)
    subst hw
    have Y : Wd D τ s A s.heap (bl [[(q9, .inr (11, [.ref rd, .ref tx, .ref bd, .ref (F 0), .ref pa9, .int (iI (ol)), .int (iI (bk)), va_rf tr, va_rf kp]))], [(rd, .inr (8, [.ref ri, .int (iI (((20 * nr : Nat) : Int))), .int (iI (pl)), .int (iI (io)), .int (iI (er)), .int (iI (ea)), .int (iI (cn)), .ref rk, .ref rn, .ref ro, .ref rt]))], [(ri, .inl (τ 1, 500, .inl (fun j => iI ((bi) j))))]]) _ _ := Y
    refine lv_icmp_ge (tgt := 96) B.1 B.2.1 dL_comes_7 (by decide) (fun _ => ?_) (fun h => absurd ((iI_le (a := (((ksZ 19).length : Nat) : Int)) (b := (((20 * nr) : Nat) : Int)) (by omega) (by omega) (by omega) (by omega)).mpr (by omega)) h) 
    refine lv_aload_n B.1 B.2.1 dL_comes_96 rfl (lv_at hl 0 rfl) ?_
    refine lv_aload_n B.1 B.2.1 dL_comes_97 rfl (lv_at hl 1 rfl) ?_
    refine qI (Cs := []) (Rs := [[(q9, .inr (11, [.ref rd, .ref tx, .ref bd, .ref (F 0), .ref pa9, .int (iI (ol)), .int (iI (bk)), va_rf tr, va_rf kp]))], [(rd, .inr (8, [.ref ri, .int (iI (((20 * nr : Nat) : Int))), .int (iI (pl)), .int (iI (io)), .int (iI (er)), .int (iI (ea)), .int (iI (cn)), .ref rk, .ref rn, .ref ro, .ref rt]))], [(ri, .inl (τ 1, 500, .inl (fun j => iI ((bi) j))))]]) Y [] [0, 1, 2] (by decide) rfl (cVK (As := []) (rest := [.ref q9]) (vk_recv (hE.str 19 (by decide)) (i := 0) (by decide) Y.2.2.2.1) (Ke.ok K) hE B Y [] (by decide) rfl (k_lenK l D τ _ K 19 (by decide)) q_700 q_701 q_702 q_15 q_703 rfl rfl hd_J0_length_8abf5 ⟨(Nat.le_of_ble_eq_true rfl), (Nat.le_of_ble_eq_true rfl)⟩ rfl hl.1 rfl (Nat.le_of_ble_eq_true rfl) dL_comes_98 ⟨by show _ ≤ KC - s.heap.size; omega, by show _ ≤ KS - totS s.heap; omega⟩) (fun r u H locs hw Y => ?_)
    subst hw
    have Y : Wd D τ s A s.heap (bl [[(q9, .inr (11, [.ref rd, .ref tx, .ref bd, .ref (F 0), .ref pa9, .int (iI (ol)), .int (iI (bk)), va_rf tr, va_rf kp]))], [(rd, .inr (8, [.ref ri, .int (iI (((20 * nr : Nat) : Int))), .int (iI (pl)), .int (iI (io)), .int (iI (er)), .int (iI (ea)), .int (iI (cn)), .ref rk, .ref rn, .ref ro, .ref rt]))], [(ri, .inl (τ 1, 500, .inl (fun j => iI ((bi) j))))]]) _ _ := Y
    refine qI (Cs := [[(q9, .inr (11, [.ref rd, .ref tx, .ref bd, .ref (F 0), .ref pa9, .int (iI (ol)), .int (iI (bk)), va_rf tr, va_rf kp]))], [(rd, .inr (8, [.ref ri, .int (iI (((20 * nr : Nat) : Int))), .int (iI (pl)), .int (iI (io)), .int (iI (er)), .int (iI (ea)), .int (iI (cn)), .ref rk, .ref rn, .ref ro, .ref rt]))]]) (Rs := [[(ri, .inl (τ 1, 500, .inl (fun j => iI ((bi) j))))]]) Y [0, 1] [2] (by decide) rfl (cV (As := [.int (iI (((ksZ 19).length : Nat) : Int))]) (rest := []) (q0 := 0) B Y [0, 1] (by decide) rfl (k_truncate l D τ _ q9 tx bd pa9 ol bk tr kp F rd ri rk rn ro rt (20 * nr) pl io er ea cn ((ksZ 19).length) (by omega) (by omega)) rfl rfl q_761 q_762 q_763 q_2 q_764 rfl rfl hd_X9_truncate ⟨(Nat.le_of_ble_eq_true rfl), (Nat.le_of_ble_eq_true rfl)⟩ rfl hl.1 rfl (Nat.le_of_ble_eq_true rfl) dL_comes_101 ⟨by show _ ≤ KC - s.heap.size; omega, by show _ ≤ KS - totS s.heap; omega⟩) (fun r u H locs hw Y => ?_)
    subst hw
    have Y : Wd D τ s A s.heap (bl [[(q9, .inr (11, [.ref rd, .ref tx, .ref bd, .ref (F 0), .ref pa9, .int (iI (ol)), .int (iI (bk)), va_rf tr, va_rf kp]))], [(rd, .inr (8, [.ref ri, .int (iI ((((ksZ 19).length : Nat) : Int))), .int (iI (pl)), .int (iI (io)), .int (iI (er)), .int (iI (ea)), .int (iI (cn)), .ref rk, .ref rn, .ref ro, .ref rt]))], [(ri, .inl (τ 1, 500, .inl (fun j => iI ((bi) j))))]]) _ _ := Y
    refine lv_istore_n (lv' := [(2, .int (iI (((ksZ 19).length : Nat) : Int))), (0, .ref q9), (1, .ref (K (2 * 19)))]) B.1 B.2.1 dL_comes_104 rfl hl (by decide) rfl (fun ls hl => ?_)
    exact eVz (w1 := fun (u : Nat → Int) => [[(q9, .inr (11, [.ref rd, .ref tx, .ref bd, .ref (F 0), .ref pa9, .int (iI (ol)), .int (iI (bk)), va_rf tr, va_rf kp]))], [(rd, .inr (8, [.ref ri, .int (iI ((((ksZ 19).length : Nat) : Int))), .int (iI (pl)), .int (iI (io)), .int (iI (er)), .int (iI (ea)), .int (iI (cn)), .ref rk, .ref rn, .ref ro, .ref rt]))], [(ri, .inl (τ 1, 500, .inl (fun j => iI ((u) j))))]]) (pc1 := fun _ => 0) (ps1 := fun _ => 0) B hr hlk Y bi ⟨hbi, fun j hj => by rw [Nat.zero_add]; exact hbX j (by omega) hj⟩ [0, 1, 2] (by decide) rfl (by omega) (by omega) dL_comes_105
  · obtain ⟨bi, hbi, hbX, hl, Y, hz1, hz2⟩ := hP
    have hi20 : 20 * i < (ksZ 19).length := by omega
    have hch := chX_ok hXb (20 * i)
    refine lv_iload_n B.1 B.2.1 dL_comes_2 rfl (lv_at hl 2 rfl) ?_
    refine lv_aload_n B.1 B.2.1 dL_comes_3 rfl (lv_at hl 1 rfl) ?_
    refine qI (Cs := []) (Rs := [[(q9, .inr (11, [.ref rd, .ref tx, .ref bd, .ref (F 0), .ref pa9, .int (iI (ol)), .int (iI (bk)), va_rf tr, va_rf kp]))], [(rd, .inr (8, [.ref ri, .int (iI (((20 * i : Nat) : Int))), .int (iI (pl)), .int (iI (io)), .int (iI (er)), .int (iI (ea)), .int (iI (cn)), .ref rk, .ref rn, .ref ro, .ref rt]))], [(ri, .inl (τ 1, 500, .inl (fun j => iI ((bi) j))))]]) Y [] [0, 1, 2] (by decide) rfl (cVK (As := []) (rest := [.int (iI (((20 * i) : Nat) : Int))]) (vk_recv (hE.str 19 (by decide)) (i := 0) (by decide) Y.2.2.2.1) (Ke.ok K) hE B Y [] (by decide) rfl (k_lenK l D τ _ K 19 (by decide)) q_700 q_701 q_702 q_15 q_703 rfl rfl hd_J0_length_8abf5 ⟨(Nat.le_of_ble_eq_true rfl), (Nat.le_of_ble_eq_true rfl)⟩ rfl hl.1 rfl (Nat.le_of_ble_eq_true rfl) dL_comes_4 ⟨by show _ ≤ KC - s.heap.size; omega, by show _ ≤ KS - totS s.heap; omega⟩) (fun r u H locs hw Y => ?_)
    subst hw
    have Y : Wd D τ s A s.heap (bl [[(q9, .inr (11, [.ref rd, .ref tx, .ref bd, .ref (F 0), .ref pa9, .int (iI (ol)), .int (iI (bk)), va_rf tr, va_rf kp]))], [(rd, .inr (8, [.ref ri, .int (iI (((20 * i : Nat) : Int))), .int (iI (pl)), .int (iI (io)), .int (iI (er)), .int (iI (ea)), .int (iI (cn)), .ref rk, .ref rn, .ref ro, .ref rt]))], [(ri, .inl (τ 1, 500, .inl (fun j => iI ((bi) j))))]]) _ _ := Y
    refine lv_icmp_ge (tgt := 96) B.1 B.2.1 dL_comes_7 (by decide) (fun h => absurd h (mt (iI_le (a := (((ksZ 19).length : Nat) : Int)) (b := (((20 * i) : Nat) : Int)) (by omega) (by omega) (by omega) (by omega)).mp (by omega))) (fun _ => ?_)
    refine lv_iconst (v := (iI (5))) B.1 B.2.1 dL_comes_10 (by decide) ?_
    refine b_newi (N' := 5) B Y q_80 (by decide) (by decide) (by decide) (by show _ ≤ KC - s.heap.size; omega) (by show _ ≤ KS - totS s.heap; omega) dL_comes_11 (fun wq H Y => ?_)
    have Y : Wd D τ s A s.heap (bl [[(q9, .inr (11, [.ref rd, .ref tx, .ref bd, .ref (F 0), .ref pa9, .int (iI (ol)), .int (iI (bk)), va_rf tr, va_rf kp]))], [(rd, .inr (8, [.ref ri, .int (iI (((20 * i : Nat) : Int))), .int (iI (pl)), .int (iI (io)), .int (iI (er)), .int (iI (ea)), .int (iI (cn)), .ref rk, .ref rn, .ref ro, .ref rt]))], [(ri, .inl (τ 1, 500, .inl (fun j => iI ((bi) j))))], [(wq, .inl (τ 0, 5, .inl (fun j => iI ((fun _ => 0) j))))]]) _ _ := Y
    refine lv_astore_n (lv' := [(3, .ref wq), (0, .ref q9), (1, .ref (K (2 * 19))), (2, .int (iI (((20 * i) : Nat) : Int)))]) B.1 B.2.1 dL_comes_13 rfl hl (by decide) rfl (fun ls hl => ?_)
    refine lv_iconst (v := (iI (0))) B.1 B.2.1 dL_comes_14 (by decide) ?_
    refine lv_istore (lv' := [(4, .int (iI (0))), (3, .ref wq), (0, .ref q9), (1, .ref (K (2 * 19))), (2, .int (iI (((20 * i) : Nat) : Int)))]) B.1 B.2.1 dL_comes_15 hl (by decide) rfl (fun ls hl => ?_)
    have Y : Wd D τ s A s.heap (bl [[(q9, .inr (11, [.ref rd, .ref tx, .ref bd, .ref (F 0), .ref pa9, .int (iI (ol)), .int (iI (bk)), va_rf tr, va_rf kp]))], [(rd, .inr (8, [.ref ri, .int (iI (((20 * i : Nat) : Int))), .int (iI (pl)), .int (iI (io)), .int (iI (er)), .int (iI (ea)), .int (iI (cn)), .ref rk, .ref rn, .ref ro, .ref rt]))], [(ri, .inl (τ 1, 500, .inl (fun j => iI ((bi) j))))], [(wq, .inl (τ 0, 5, .inl (fun j => iI ((pwF (chX (ksZ 19) (20 * i)) 0) j))))]]) H locs := by rw [show (fun j => iI ((pwF (chX (ksZ 19) (20 * i)) 0) j)) = (fun j => iI ((fun _ => (0 : Int)) j)) from by rw [pwF_0]]; exact Y
    have hl : lv_has ls 5 [(0, .ref q9), (1, .ref (K (2 * 19))), (2, .int (iI (((20 * i) : Nat) : Int))), (3, .ref wq), (4, .int (iI ((0 : Nat) : Int)))] := lv_sub hl [2, 3, 4, 1, 0] rfl
    refine loopZ (n := 20) (P := fun (t : Nat) (H : Heap) (locs : List Loc) (ls : Array Slot) (cells slots : Nat) => lv_has ls 5 [(0, .ref q9), (1, .ref (K (2 * 19))), (2, .int (iI (((20 * i) : Nat) : Int))), (3, .ref wq), (4, .int (iI ((t : Nat) : Int)))] ∧ Wd D τ s A s.heap (bl [[(q9, .inr (11, [.ref rd, .ref tx, .ref bd, .ref (F 0), .ref pa9, .int (iI (ol)), .int (iI (bk)), va_rf tr, va_rf kp]))], [(rd, .inr (8, [.ref ri, .int (iI (((20 * i : Nat) : Int))), .int (iI (pl)), .int (iI (io)), .int (iI (er)), .int (iI (ea)), .int (iI (cn)), .ref rk, .ref rn, .ref ro, .ref rt]))], [(ri, .inl (τ 1, 500, .inl (fun j => iI ((bi) j))))], [(wq, .inl (τ 0, 5, .inl (fun j => iI ((pwF (chX (ksZ 19) (20 * i)) t) j))))]]) H locs ∧ s.heap.size + cells + (26 - (i + 1)) ≤ KC ∧ totS s.heap + slots + 5 * (26 - (i + 1)) ≤ KS) 0 (by decide) ⟨lv_sub hl [0, 1, 2, 3, 4] rfl, Y.pick [0, 1, 2, 3] (by decide) rfl, by omega, by omega⟩ (fun H locs ls cells slots hP => ?_) (fun t hlt_t H locs ls cells slots hP ih_t => ?_)
    · obtain ⟨hl, Y, hz1, hz2⟩ := hP
      refine lv_iload B.1 B.2.1 dL_comes_17 (lv_at hl 4 rfl) ?_
      refine lv_bipush (v := (iI (20))) B.1 B.2.1 dL_comes_19 (by decide) ?_
      refine lv_icmp_ge (tgt := 69) B.1 B.2.1 dL_comes_21 (by decide) (fun _ => ?_) (fun h => absurd (by decide) h) 
      refine lv_aload_n B.1 B.2.1 dL_comes_69 rfl (lv_at hl 0 rfl) ?_
      refine lv_aload_n B.1 B.2.1 dL_comes_70 rfl (lv_at hl 3 rfl) ?_
      refine lv_iconst (v := (iI (0))) B.1 B.2.1 dL_comes_71 (by decide) ?_
      refine b_iald (j := 0) (v := (iI (wrdI (chX (ksZ 19) (20 * i)) 0))) B Y 3 rfl (by decide) (by decide) (by decide) (congrArg iI (pwF_20 (chX (ksZ 19) (20 * i)) (by decide))) dL_comes_72 ?_
      refine lv_aload_n B.1 B.2.1 dL_comes_73 rfl (lv_at hl 3 rfl) ?_
      refine lv_iconst (v := (iI (1))) B.1 B.2.1 dL_comes_74 (by decide) ?_
      refine b_iald (j := 1) (v := (iI (wrdI (chX (ksZ 19) (20 * i)) 4))) B Y 3 rfl (by decide) (by decide) (by decide) (congrArg iI (pwF_20 (chX (ksZ 19) (20 * i)) (by decide))) dL_comes_75 ?_
      refine lv_aload_n B.1 B.2.1 dL_comes_76 rfl (lv_at hl 3 rfl) ?_
      refine lv_iconst (v := (iI (2))) B.1 B.2.1 dL_comes_77 (by decide) ?_
      refine b_iald (j := 2) (v := (iI (wrdI (chX (ksZ 19) (20 * i)) 8))) B Y 3 rfl (by decide) (by decide) (by decide) (congrArg iI (pwF_20 (chX (ksZ 19) (20 * i)) (by decide))) dL_comes_78 ?_
      refine lv_aload_n B.1 B.2.1 dL_comes_79 rfl (lv_at hl 3 rfl) ?_
      refine lv_iconst (v := (iI (3))) B.1 B.2.1 dL_comes_80 (by decide) ?_
      refine b_iald (j := 3) (v := (iI (wrdI (chX (ksZ 19) (20 * i)) 12))) B Y 3 rfl (by decide) (by decide) (by decide) (congrArg iI (pwF_20 (chX (ksZ 19) (20 * i)) (by decide))) dL_comes_81 ?_
      refine lv_aload_n B.1 B.2.1 dL_comes_82 rfl (lv_at hl 3 rfl) ?_
      refine lv_iconst (v := (iI (4))) B.1 B.2.1 dL_comes_83 (by decide) ?_
      refine b_iald (j := 4) (v := (iI (wrdI (chX (ksZ 19) (20 * i)) 16))) B Y 3 rfl (by decide) (by decide) (by decide) (congrArg iI (pwF_20 (chX (ksZ 19) (20 * i)) (by decide))) dL_comes_84 ?_
      refine qI (Cs := [[(q9, .inr (11, [.ref rd, .ref tx, .ref bd, .ref (F 0), .ref pa9, .int (iI (ol)), .int (iI (bk)), va_rf tr, va_rf kp]))], [(rd, .inr (8, [.ref ri, .int (iI (((20 * i : Nat) : Int))), .int (iI (pl)), .int (iI (io)), .int (iI (er)), .int (iI (ea)), .int (iI (cn)), .ref rk, .ref rn, .ref ro, .ref rt]))], [(ri, .inl (τ 1, 500, .inl (fun j => iI ((bi) j))))]]) (Rs := [[(wq, .inl (τ 0, 5, .inl (fun j => iI ((pwF (chX (ksZ 19) (20 * i)) 20) j))))]]) Y [0, 1, 2] [3] (by decide) rfl (cV (As := [.int (iI (wrdI (chX (ksZ 19) (20 * i)) 0)), .int (iI (wrdI (chX (ksZ 19) (20 * i)) 4)), .int (iI (wrdI (chX (ksZ 19) (20 * i)) 8)), .int (iI (wrdI (chX (ksZ 19) (20 * i)) 12)), .int (iI (wrdI (chX (ksZ 19) (20 * i)) 16))]) (rest := []) (q0 := 0) B Y [0, 1, 2] (by decide) rfl (k_append l D τ _ q9 tx bd pa9 ol bk tr kp F rd ri rk rn ro rt (20 * i) pl io er ea cn (chX (ksZ 19) (20 * i)) hch (by omega) bi hbi) rfl rfl q_748 q_749 q_750 q_2 q_751 rfl rfl hd_X9_append ⟨(Nat.le_of_ble_eq_true rfl), (Nat.le_of_ble_eq_true rfl)⟩ rfl hl.1 rfl (Nat.le_of_ble_eq_true rfl) dL_comes_85 ⟨by show _ ≤ KC - s.heap.size; omega, by show _ ≤ KS - totS s.heap; omega⟩) (fun r u H locs hw Y => ?_)
      subst hw
      have Y : Wd D τ s A s.heap (bl [[(q9, .inr (11, [.ref rd, .ref tx, .ref bd, .ref (F 0), .ref pa9, .int (iI (ol)), .int (iI (bk)), va_rf tr, va_rf kp]))], [(rd, .inr (8, [.ref ri, .int (iI (((20 * i + 20 : Nat) : Int))), .int (iI (pl)), .int (iI (io)), .int (iI (er)), .int (iI (ea)), .int (iI (cn)), .ref rk, .ref rn, .ref ro, .ref rt]))], [(ri, .inl (τ 1, 500, .inl (fun j => iI ((putB bi (20 * i) (chX (ksZ 19) (20 * i)) 20) j))))], [(wq, .inl (τ 0, 5, .inl (fun j => iI ((pwF (chX (ksZ 19) (20 * i)) 20) j))))]]) _ _ := Y
      refine lv_istore (lv' := [(4, .int (iI (((20 * i + 20) : Nat) : Int))), (0, .ref q9), (1, .ref (K (2 * 19))), (2, .int (iI (((20 * i) : Nat) : Int))), (3, .ref wq)]) B.1 B.2.1 dL_comes_88 hl (by decide) rfl (fun ls hl => ?_)
      refine lv_iinc (v := (iI (((20 * (i + 1)) : Nat) : Int))) (lv' := [(2, .int (iI (((20 * (i + 1)) : Nat) : Int))), (4, .int (iI (((20 * i + 20) : Nat) : Int))), (0, .ref q9), (1, .ref (K (2 * 19))), (3, .ref wq)]) B.1 B.2.1 dL_comes_90 hl (k := 3) rfl (by show iI _ + iI 20 = _; rw [iI_add]; congr 1) (by decide) rfl (fun ls hl => ?_)
      refine lv_goto (tgt := 2) B.1 B.2.1 dL_comes_93 (by decide) ?_
      exact ih H locs ls _ _ ⟨(putB bi (20 * i) (chX (ksZ 19) (20 * i)) 20), (putB_ok hbi hch _ _), (fun j h1 h2 => by unfold putB; by_cases q : 20 * i ≤ j ∧ j < 20 * i + 20; (· rw [if_pos q]; unfold chX; rw [show 20 * i + (j - 20 * i) = j by omega, if_pos h2]); (· rw [if_neg q]; exact hbX j (by omega) h2)), lv_sub hl [2, 3, 0] rfl, Y.pick [0, 1, 2] (by decide) rfl, by omega, by omega⟩
    · obtain ⟨hl, Y, hz1, hz2⟩ := hP
      have hac := accI_in hch (t / 4) (t % 4) (by omega)
      have hct := hch t
      have hpa := pwF_at (chX (ksZ 19) (20 * i)) t
      refine lv_iload B.1 B.2.1 dL_comes_17 (lv_at hl 4 rfl) ?_
      refine lv_bipush (v := (iI (20))) B.1 B.2.1 dL_comes_19 (by decide) ?_
      refine lv_icmp_ge (tgt := 69) B.1 B.2.1 dL_comes_21 (by decide) (fun h => absurd h (mt (iI_le (a := 20) (b := ((t : Nat) : Int)) (by omega) (by omega) (by omega) (by omega)).mp (by omega))) (fun _ => ?_)
      refine lv_aload_n B.1 B.2.1 dL_comes_24 rfl (lv_at hl 3 rfl) ?_
      refine lv_iload B.1 B.2.1 dL_comes_25 (lv_at hl 4 rfl) ?_
      refine lv_iconst (v := (iI (4))) B.1 B.2.1 dL_comes_27 (by decide) ?_
      refine lv_idiv B.1 B.2.1 dL_comes_28 (by decide) ?_
      refine lv_cv (v := (iI (((t / 4) : Nat) : Int))) ((iI_div (by omega) (by omega) (by decide) (by decide)).trans (congrArg iI (Int.natCast_ediv t 4).symm)) ?_
      refine lv_aload_n B.1 B.2.1 dL_comes_29 rfl (lv_at hl 3 rfl) ?_
      refine lv_iload B.1 B.2.1 dL_comes_30 (lv_at hl 4 rfl) ?_
      refine lv_iconst (v := (iI (4))) B.1 B.2.1 dL_comes_32 (by decide) ?_
      refine lv_idiv B.1 B.2.1 dL_comes_33 (by decide) ?_
      refine lv_cv (v := (iI (((t / 4) : Nat) : Int))) ((iI_div (by omega) (by omega) (by decide) (by decide)).trans (congrArg iI (Int.natCast_ediv t 4).symm)) ?_
      refine b_iald (j := (t / 4)) (v := (iI (accI (chX (ksZ 19) (20 * i)) (t / 4) (t % 4)))) B Y 3 rfl (iI_pos (by omega)) (iI_clamp (by omega)) (by omega) (congrArg iI hpa) dL_comes_34 ?_
      refine lv_bipush (v := (iI (8))) B.1 B.2.1 dL_comes_35 (by decide) ?_
      refine lv_ishl B.1 B.2.1 dL_comes_37 ?_
      refine lv_cv (v := (iI (accI (chX (ksZ 19) (20 * i)) (t / 4) (t % 4)) <<< (iI 8 &&& 31))) rfl ?_
      refine lv_iload_n B.1 B.2.1 dL_comes_38 rfl (lv_at hl 2 rfl) ?_
      refine lv_iload B.1 B.2.1 dL_comes_39 (lv_at hl 4 rfl) ?_
      refine lv_iadd B.1 B.2.1 dL_comes_41 ?_
      refine lv_cv (v := (iI (((20 * i + t) : Nat) : Int))) (iI_add _ _) ?_
      refine lv_aload_n B.1 B.2.1 dL_comes_42 rfl (lv_at hl 1 rfl) ?_
      refine qI (Cs := []) (Rs := [[(q9, .inr (11, [.ref rd, .ref tx, .ref bd, .ref (F 0), .ref pa9, .int (iI (ol)), .int (iI (bk)), va_rf tr, va_rf kp]))], [(rd, .inr (8, [.ref ri, .int (iI (((20 * i : Nat) : Int))), .int (iI (pl)), .int (iI (io)), .int (iI (er)), .int (iI (ea)), .int (iI (cn)), .ref rk, .ref rn, .ref ro, .ref rt]))], [(ri, .inl (τ 1, 500, .inl (fun j => iI ((bi) j))))], [(wq, .inl (τ 0, 5, .inl (fun j => iI ((pwF (chX (ksZ 19) (20 * i)) t) j))))]]) Y [] [0, 1, 2, 3] (by decide) rfl (cVK (As := []) (rest := [.int (iI (((20 * i + t) : Nat) : Int)), .int (iI (accI (chX (ksZ 19) (20 * i)) (t / 4) (t % 4)) <<< (iI 8 &&& 31)), .int (iI (((t / 4) : Nat) : Int)), .ref wq]) (vk_recv (hE.str 19 (by decide)) (i := 0) (by decide) Y.2.2.2.1) (Ke.ok K) hE B Y [] (by decide) rfl (k_lenK l D τ _ K 19 (by decide)) q_700 q_701 q_702 q_15 q_703 rfl rfl hd_J0_length_8abf5 ⟨(Nat.le_of_ble_eq_true rfl), (Nat.le_of_ble_eq_true rfl)⟩ rfl hl.1 rfl (Nat.le_of_ble_eq_true rfl) dL_comes_43 ⟨by show _ ≤ KC - s.heap.size; omega, by show _ ≤ KS - totS s.heap; omega⟩) (fun r u H locs hw Y => ?_)
      subst hw
      have Y : Wd D τ s A s.heap (bl [[(q9, .inr (11, [.ref rd, .ref tx, .ref bd, .ref (F 0), .ref pa9, .int (iI (ol)), .int (iI (bk)), va_rf tr, va_rf kp]))], [(rd, .inr (8, [.ref ri, .int (iI (((20 * i : Nat) : Int))), .int (iI (pl)), .int (iI (io)), .int (iI (er)), .int (iI (ea)), .int (iI (cn)), .ref rk, .ref rn, .ref ro, .ref rt]))], [(ri, .inl (τ 1, 500, .inl (fun j => iI ((bi) j))))], [(wq, .inl (τ 0, 5, .inl (fun j => iI ((pwF (chX (ksZ 19) (20 * i)) t) j))))]]) _ _ := Y
      refine lv_icmp_ge (tgt := 60) B.1 B.2.1 dL_comes_46 (by decide) (fun c1 => ?_) (fun c1 => ?_)
      · have c1 := (iI_le (a := (((ksZ 19).length : Nat) : Int)) (b := (((20 * i + t) : Nat) : Int)) (by omega) (by omega) (by omega) (by omega)).mp c1
        have hce : (chX (ksZ 19) (20 * i)) t = 0 := if_neg (by omega)
        refine lv_iconst (v := (iI (0))) B.1 B.2.1 dL_comes_60 (by decide) ?_
        refine lv_ior B.1 B.2.1 dL_comes_61 ?_
        refine lv_cv (v := (iI (accI (chX (ksZ 19) (20 * i)) (t / 4) (t % 4) * 256 + (chX (ksZ 19) (20 * i)) t))) (by rw [hce]; rw [hce] at hct; exact iI_sh8 hac.1 hac.2 (by omega) (by omega)) ?_
        refine b_iast (j := (t / 4)) (g := fun j => iI ((upz (pwF (chX (ksZ 19) (20 * i)) t) (t / 4) (accI (chX (ksZ 19) (20 * i)) (t / 4) (t % 4) * 256 + (chX (ksZ 19) (20 * i)) t)) j)) (B' := [[(q9, .inr (11, [.ref rd, .ref tx, .ref bd, .ref (F 0), .ref pa9, .int (iI (ol)), .int (iI (bk)), va_rf tr, va_rf kp]))], [(rd, .inr (8, [.ref ri, .int (iI (((20 * i : Nat) : Int))), .int (iI (pl)), .int (iI (io)), .int (iI (er)), .int (iI (ea)), .int (iI (cn)), .ref rk, .ref rn, .ref ro, .ref rt]))], [(ri, .inl (τ 1, 500, .inl (fun j => iI ((bi) j))))], [(wq, .inl (τ 0, 5, .inl (fun j => iI ((upz (pwF (chX (ksZ 19) (20 * i)) t) (t / 4) (accI (chX (ksZ 19) (20 * i)) (t / 4) (t % 4) * 256 + (chX (ksZ 19) (20 * i)) t)) j))))]]) B Y 3 rfl (iI_pos (by omega)) (iI_clamp (by omega)) (by omega) upz_ok rfl dL_comes_62 (fun H locs Y => ?_)
        refine lv_iinc (v := (iI (((t + 1) : Nat) : Int))) (lv' := [(4, .int (iI (((t + 1) : Nat) : Int))), (0, .ref q9), (1, .ref (K (2 * 19))), (2, .int (iI (((20 * i) : Nat) : Int))), (3, .ref wq)]) B.1 B.2.1 dL_comes_63 hl (k := 4) rfl (iI_inc _) (by decide) rfl (fun ls hl => ?_)
        refine lv_goto (tgt := 17) B.1 B.2.1 dL_comes_66 (by decide) ?_
        rw [pwF_s] at Y
        exact ih_t H locs ls _ _ ⟨lv_sub hl [1, 2, 3, 4, 0] rfl, Y.pick [0, 1, 2, 3] (by decide) rfl, by omega, by omega⟩
      · have c1 := mt (iI_le (a := (((ksZ 19).length : Nat) : Int)) (b := (((20 * i + t) : Nat) : Int)) (by omega) (by omega) (by omega) (by omega)).mpr c1
        have hce : (chX (ksZ 19) (20 * i)) t = (ksZ 19).getD (20 * i + t) 0 := if_pos (by omega)
        refine lv_aload_n B.1 B.2.1 dL_comes_49 rfl (lv_at hl 1 rfl) ?_
        refine lv_iload_n B.1 B.2.1 dL_comes_50 rfl (lv_at hl 2 rfl) ?_
        refine lv_iload B.1 B.2.1 dL_comes_51 (lv_at hl 4 rfl) ?_
        refine lv_iadd B.1 B.2.1 dL_comes_53 ?_
        refine lv_cv (v := (iI (((20 * i + t) : Nat) : Int))) (iI_add _ _) ?_
        refine qI (Cs := []) (Rs := [[(q9, .inr (11, [.ref rd, .ref tx, .ref bd, .ref (F 0), .ref pa9, .int (iI (ol)), .int (iI (bk)), va_rf tr, va_rf kp]))], [(rd, .inr (8, [.ref ri, .int (iI (((20 * i : Nat) : Int))), .int (iI (pl)), .int (iI (io)), .int (iI (er)), .int (iI (ea)), .int (iI (cn)), .ref rk, .ref rn, .ref ro, .ref rt]))], [(ri, .inl (τ 1, 500, .inl (fun j => iI ((bi) j))))], [(wq, .inl (τ 0, 5, .inl (fun j => iI ((pwF (chX (ksZ 19) (20 * i)) t) j))))]]) Y [] [0, 1, 2, 3] (by decide) rfl (cVK (As := [.int (iI (((20 * i + t) : Nat) : Int))]) (rest := [.int (iI (accI (chX (ksZ 19) (20 * i)) (t / 4) (t % 4)) <<< (iI 8 &&& 31)), .int (iI (((t / 4) : Nat) : Int)), .ref wq]) (vk_recv (hE.str 19 (by decide)) (i := 0) (by decide) Y.2.2.2.1) (Ke.ok K) hE B Y [] (by decide) rfl (k_chrK l D τ _ K 19 (by decide) (20 * i + t) (by omega)) q_710 q_711 q_712 q_15 q_713 rfl rfl hd_J0_charAt_5068e ⟨(Nat.le_of_ble_eq_true rfl), (Nat.le_of_ble_eq_true rfl)⟩ rfl hl.1 rfl (Nat.le_of_ble_eq_true rfl) dL_comes_54 ⟨by show _ ≤ KC - s.heap.size; omega, by show _ ≤ KS - totS s.heap; omega⟩) (fun r u H locs hw Y => ?_)
        subst hw
        have Y : Wd D τ s A s.heap (bl [[(q9, .inr (11, [.ref rd, .ref tx, .ref bd, .ref (F 0), .ref pa9, .int (iI (ol)), .int (iI (bk)), va_rf tr, va_rf kp]))], [(rd, .inr (8, [.ref ri, .int (iI (((20 * i : Nat) : Int))), .int (iI (pl)), .int (iI (io)), .int (iI (er)), .int (iI (ea)), .int (iI (cn)), .ref rk, .ref rn, .ref ro, .ref rt]))], [(ri, .inl (τ 1, 500, .inl (fun j => iI ((bi) j))))], [(wq, .inl (τ 0, 5, .inl (fun j => iI ((pwF (chX (ksZ 19) (20 * i)) t) j))))]]) _ _ := Y
        refine lv_goto (tgt := 61) B.1 B.2.1 dL_comes_57 (by decide) ?_
        refine lv_ior B.1 B.2.1 dL_comes_61 ?_
        refine lv_cv (v := (iI (accI (chX (ksZ 19) (20 * i)) (t / 4) (t % 4) * 256 + (chX (ksZ 19) (20 * i)) t))) (by rw [hce]; rw [hce] at hct; exact iI_sh8 hac.1 hac.2 (by omega) (by omega)) ?_
        refine b_iast (j := (t / 4)) (g := fun j => iI ((upz (pwF (chX (ksZ 19) (20 * i)) t) (t / 4) (accI (chX (ksZ 19) (20 * i)) (t / 4) (t % 4) * 256 + (chX (ksZ 19) (20 * i)) t)) j)) (B' := [[(q9, .inr (11, [.ref rd, .ref tx, .ref bd, .ref (F 0), .ref pa9, .int (iI (ol)), .int (iI (bk)), va_rf tr, va_rf kp]))], [(rd, .inr (8, [.ref ri, .int (iI (((20 * i : Nat) : Int))), .int (iI (pl)), .int (iI (io)), .int (iI (er)), .int (iI (ea)), .int (iI (cn)), .ref rk, .ref rn, .ref ro, .ref rt]))], [(ri, .inl (τ 1, 500, .inl (fun j => iI ((bi) j))))], [(wq, .inl (τ 0, 5, .inl (fun j => iI ((upz (pwF (chX (ksZ 19) (20 * i)) t) (t / 4) (accI (chX (ksZ 19) (20 * i)) (t / 4) (t % 4) * 256 + (chX (ksZ 19) (20 * i)) t)) j))))]]) B Y 3 rfl (iI_pos (by omega)) (iI_clamp (by omega)) (by omega) upz_ok rfl dL_comes_62 (fun H locs Y => ?_)
        refine lv_iinc (v := (iI (((t + 1) : Nat) : Int))) (lv' := [(4, .int (iI (((t + 1) : Nat) : Int))), (0, .ref q9), (1, .ref (K (2 * 19))), (2, .int (iI (((20 * i) : Nat) : Int))), (3, .ref wq)]) B.1 B.2.1 dL_comes_63 hl (k := 4) rfl (iI_inc _) (by decide) rfl (fun ls hl => ?_)
        refine lv_goto (tgt := 17) B.1 B.2.1 dL_comes_66 (by decide) ?_
        rw [pwF_s] at Y
        exact ih_t H locs ls _ _ ⟨lv_sub hl [1, 2, 3, 4, 0] rfl, Y.pick [0, 1, 2, 3] (by decide) rfl, by omega, by omega⟩

set_option maxHeartbeats 600000 in
set_option maxRecDepth 100000 in
theorem h_comes_x (l : Launch) (D : va_G) (τ : Nat → ClassId) (sz T0 KC KS : Nat) (K : Nat → Nat) (bs Ln : Nat) (xs : Nat → Int32) (q9 rd tx bd pa9 : Nat) (ol bk : Int) (tr kp : Option Nat) (F : Nat → Nat) (ri rk rn ro rt : Nat) (pl io er ea cn : Int) (b : Nat → Int) (hb : BOk b) (st sv : Nat) (X : List Int) (f : Nat → Int32) (hX5 : X.length ≤ 480) (hfX : ∀ j : Nat, j < X.length → f j = iI (X.getD j 0)) (hXb : ∀ j : Nat, 0 ≤ X.getD j 0 ∧ X.getD j 0 ≤ 127) : Met l yL_comes (Cond.code yL_comes cL_comes 5 none :: wALL) { frames := 4, cells := KC - sz, slots := KS - T0, locals := 85 } (PzE (EL K bs Ln xs) D τ (bl [[(q9, .inr (11, [.ref rd, .ref tx, .ref bd, .ref (F 0), .ref pa9, .int (iI (ol)), .int (iI (bk)), va_rf tr, va_rf kp]))], [(rd, .inr (8, [.ref ri, .int (iI (0)), .int (iI (pl)), .int (iI (io)), .int (iI (er)), .int (iI (ea)), .int (iI (cn)), .ref rk, .ref rn, .ref ro, .ref rt]))], [(ri, .inl (τ 1, 500, .inl (fun j => iI ((b) j))))], [(st, .inr (0, [.ref sv, .int (iI (0)), .int (iI (0)), .int (iI (0))]))], [(sv, .inl (τ 1, X.length, .inl (f)))]]) sz T0 [.ref q9, .ref st] KC KS (26) (130)) (va_Qv (fun (u : (Nat → Int)) => BOk u ∧ ats u 0 X) (Bz D (va_A (bl [[(q9, .inr (11, [.ref rd, .ref tx, .ref bd, .ref (F 0), .ref pa9, .int (iI (ol)), .int (iI (bk)), va_rf tr, va_rf kp]))], [(rd, .inr (8, [.ref ri, .int (iI (0)), .int (iI (pl)), .int (iI (io)), .int (iI (er)), .int (iI (ea)), .int (iI (cn)), .ref rk, .ref rn, .ref ro, .ref rt]))], [(ri, .inl (τ 1, 500, .inl (fun j => iI ((b) j))))], [(st, .inr (0, [.ref sv, .int (iI (0)), .int (iI (0)), .int (iI (0))]))], [(sv, .inl (τ 1, X.length, .inl (f)))]]) sz) (fun (u : (Nat → Int)) => [[(q9, .inr (11, [.ref rd, .ref tx, .ref bd, .ref (F 0), .ref pa9, .int (iI (ol)), .int (iI (bk)), va_rf tr, va_rf kp]))], [(rd, .inr (8, [.ref ri, .int (iI (((X.length : Nat) : Int))), .int (iI (pl)), .int (iI (io)), .int (iI (er)), .int (iI (ea)), .int (iI (cn)), .ref rk, .ref rn, .ref ro, .ref rt]))], [(ri, .inl (τ 1, 500, .inl (fun j => iI ((u) j))))], [(st, .inr (0, [.ref sv, .int (iI (0)), .int (iI (0)), .int (iI (0))]))], [(sv, .inl (τ 1, X.length, .inl (f)))]]) KC KS (fun (u : (Nat → Int)) => 0) (fun (u : (Nat → Int)) => 0)) (va_A (bl [[(q9, .inr (11, [.ref rd, .ref tx, .ref bd, .ref (F 0), .ref pa9, .int (iI (ol)), .int (iI (bk)), va_rf tr, va_rf kp]))], [(rd, .inr (8, [.ref ri, .int (iI (0)), .int (iI (pl)), .int (iI (io)), .int (iI (er)), .int (iI (ea)), .int (iI (cn)), .ref rk, .ref rn, .ref ro, .ref rt]))], [(ri, .inl (τ 1, 500, .inl (fun j => iI ((b) j))))], [(st, .inr (0, [.ref sv, .int (iI (0)), .int (iI (0)), .int (iI (0))]))], [(sv, .inl (τ 1, X.length, .inl (f)))]]) sz)) (KC - sz) (KS - T0) (va_A (bl [[(q9, .inr (11, [.ref rd, .ref tx, .ref bd, .ref (F 0), .ref pa9, .int (iI (ol)), .int (iI (bk)), va_rf tr, va_rf kp]))], [(rd, .inr (8, [.ref ri, .int (iI (0)), .int (iI (pl)), .int (iI (io)), .int (iI (er)), .int (iI (ea)), .int (iI (cn)), .ref rk, .ref rn, .ref ro, .ref rt]))], [(ri, .inl (τ 1, 500, .inl (fun j => iI ((b) j))))], [(st, .inr (0, [.ref sv, .int (iI (0)), .int (iI (0)), .int (iI (0))]))], [(sv, .inl (τ 1, X.length, .inl (f)))]]) sz) := by
  refine bodyZE (by decide +kernel) (Nat.le_of_ble_eq_true rfl) (fun p e s m below meth c ls B hr hlk hin hsz hT0 hz1 hz2 Y hL hl => ?_)
  have hl : lv_has ls 5 [(0, .ref q9), (1, .ref st)] := hl
  have B : CallFix p m c cL_comes 5 s _ wALL RL := B
  generalize va_A (bl [[(q9, .inr (11, [.ref rd, .ref tx, .ref bd, .ref (F 0), .ref pa9, .int (iI (ol)), .int (iI (bk)), va_rf tr, va_rf kp]))], [(rd, .inr (8, [.ref ri, .int (iI (0)), .int (iI (pl)), .int (iI (io)), .int (iI (er)), .int (iI (ea)), .int (iI (cn)), .ref rk, .ref rn, .ref ro, .ref rt]))], [(ri, .inl (τ 1, 500, .inl (fun j => iI ((b) j))))], [(st, .inr (0, [.ref sv, .int (iI (0)), .int (iI (0)), .int (iI (0))]))], [(sv, .inl (τ 1, X.length, .inl (f)))]]) sz = A at Y hL ⊢
  have hK := hL.1
  have hE := hK.1
  obtain ⟨nr, hnr⟩ : ∃ n : Nat, n = (X.length + 19) / 20 := ⟨_, rfl⟩
  refine lv_iconst (v := (iI (0))) B.1 B.2.1 dL_comes_0 (by decide) ?_
  refine lv_istore_n (lv' := [(2, .int (iI (0))), (0, .ref q9), (1, .ref st)]) B.1 B.2.1 dL_comes_1 rfl hl (by decide) rfl (fun ls hl => ?_)
  have hl : lv_has ls 5 [(0, .ref q9), (1, .ref st), (2, .int (iI ((0 : Nat) : Int)))] := lv_sub hl [1, 2, 0] rfl
  have hl : lv_has ls 5 [(0, .ref q9), (1, .ref st), (2, .int (iI (((20 * 0) : Nat) : Int)))] := hl
  have Y : Wd D τ s A s.heap (bl [[(q9, .inr (11, [.ref rd, .ref tx, .ref bd, .ref (F 0), .ref pa9, .int (iI (ol)), .int (iI (bk)), va_rf tr, va_rf kp]))], [(rd, .inr (8, [.ref ri, .int (iI (((20 * 0 : Nat) : Int))), .int (iI (pl)), .int (iI (io)), .int (iI (er)), .int (iI (ea)), .int (iI (cn)), .ref rk, .ref rn, .ref ro, .ref rt]))], [(ri, .inl (τ 1, 500, .inl (fun j => iI ((b) j))))], [(st, .inr (0, [.ref sv, .int (iI (0)), .int (iI (0)), .int (iI (0))]))], [(sv, .inl (τ 1, X.length, .inl (f)))]]) _ _ := Y
  refine loopZ (n := nr) (P := fun (i : Nat) (H : Heap) (locs : List Loc) (ls : Array Slot) (cells slots : Nat) => ∃ bi : Nat → Int, (BOk bi) ∧ (∀ j : Nat, j < 20 * i → j < X.length → bi j = X.getD j 0) ∧ lv_has ls 5 [(0, .ref q9), (1, .ref st), (2, .int (iI (((20 * i) : Nat) : Int)))] ∧ Wd D τ s A s.heap (bl [[(q9, .inr (11, [.ref rd, .ref tx, .ref bd, .ref (F 0), .ref pa9, .int (iI (ol)), .int (iI (bk)), va_rf tr, va_rf kp]))], [(rd, .inr (8, [.ref ri, .int (iI (((20 * i : Nat) : Int))), .int (iI (pl)), .int (iI (io)), .int (iI (er)), .int (iI (ea)), .int (iI (cn)), .ref rk, .ref rn, .ref ro, .ref rt]))], [(ri, .inl (τ 1, 500, .inl (fun j => iI ((bi) j))))], [(st, .inr (0, [.ref sv, .int (iI (0)), .int (iI (0)), .int (iI (0))]))], [(sv, .inl (τ 1, X.length, .inl (f)))]]) H locs ∧ s.heap.size + cells + (26 - i) ≤ KC ∧ totS s.heap + slots + 5 * (26 - i) ≤ KS) 0 (Nat.zero_le _) ⟨b, hb, (fun j h1 h2 => absurd h1 (Nat.not_lt_zero j)), lv_sub hl [0, 1, 2] rfl, Y.pick [0, 1, 2, 3, 4] (by decide) rfl, by omega, by omega⟩ (fun H locs ls cells slots hP => ?_) (fun i hlt H locs ls cells slots hP ih => ?_)
  · obtain ⟨bi, hbi, hbX, hl, Y, hz1, hz2⟩ := hP
    refine lv_iload_n B.1 B.2.1 dL_comes_2 rfl (lv_at hl 2 rfl) ?_
    refine lv_aload_n B.1 B.2.1 dL_comes_3 rfl (lv_at hl 1 rfl) ?_
    refine qI (Cs := [[(st, .inr (0, [.ref sv, .int (iI (0)), .int (iI (0)), .int (iI (0))]))], [(sv, .inl (τ 1, X.length, .inl (f)))]]) (Rs := [[(q9, .inr (11, [.ref rd, .ref tx, .ref bd, .ref (F 0), .ref pa9, .int (iI (ol)), .int (iI (bk)), va_rf tr, va_rf kp]))], [(rd, .inr (8, [.ref ri, .int (iI (((20 * nr : Nat) : Int))), .int (iI (pl)), .int (iI (io)), .int (iI (er)), .int (iI (ea)), .int (iI (cn)), .ref rk, .ref rn, .ref ro, .ref rt]))], [(ri, .inl (τ 1, 500, .inl (fun j => iI ((bi) j))))]]) Y [3, 4] [0, 1, 2] (by decide) rfl (cVE (As := []) (rest := [.int (iI (((20 * nr) : Nat) : Int))]) (q0 := 3) (Ke.ok K) hE B Y [3, 4] (by decide) rfl (k_lenX l D τ _ K st sv X f (by omega)) rfl rfl q_700 q_701 q_702 q_15 q_703 rfl rfl hd_J0_length_8abf5 ⟨(Nat.le_of_ble_eq_true rfl), (Nat.le_of_ble_eq_true rfl)⟩ rfl hl.1 rfl (Nat.le_of_ble_eq_true rfl) dL_comes_4 ⟨by show _ ≤ KC - s.heap.size; omega, by show _ ≤ KS - totS s.heap; omega⟩) (fun r u H locs hw Y => ?_)
    subst hw
    have Y : Wd D τ s A s.heap (bl [[(st, .inr (0, [.ref sv, .int (iI (0)), .int (iI (0)), .int (iI (0))]))], [(sv, .inl (τ 1, X.length, .inl (f)))], [(q9, .inr (11, [.ref rd, .ref tx, .ref bd, .ref (F 0), .ref pa9, .int (iI (ol)), .int (iI (bk)), va_rf tr, va_rf kp]))], [(rd, .inr (8, [.ref ri, .int (iI (((20 * nr : Nat) : Int))), .int (iI (pl)), .int (iI (io)), .int (iI (er)), .int (iI (ea)), .int (iI (cn)), .ref rk, .ref rn, .ref ro, .ref rt]))], [(ri, .inl (τ 1, 500, .inl (fun j => iI ((bi) j))))]]) _ _ := Y
    refine lv_icmp_ge (tgt := 96) B.1 B.2.1 dL_comes_7 (by decide) (fun _ => ?_) (fun h => absurd ((iI_le (a := ((X.length : Nat) : Int)) (b := (((20 * nr) : Nat) : Int)) (by omega) (by omega) (by omega) (by omega)).mpr (by omega)) h) 
    refine lv_aload_n B.1 B.2.1 dL_comes_96 rfl (lv_at hl 0 rfl) ?_
    refine lv_aload_n B.1 B.2.1 dL_comes_97 rfl (lv_at hl 1 rfl) ?_
    refine qI (Cs := [[(st, .inr (0, [.ref sv, .int (iI (0)), .int (iI (0)), .int (iI (0))]))], [(sv, .inl (τ 1, X.length, .inl (f)))]]) (Rs := [[(q9, .inr (11, [.ref rd, .ref tx, .ref bd, .ref (F 0), .ref pa9, .int (iI (ol)), .int (iI (bk)), va_rf tr, va_rf kp]))], [(rd, .inr (8, [.ref ri, .int (iI (((20 * nr : Nat) : Int))), .int (iI (pl)), .int (iI (io)), .int (iI (er)), .int (iI (ea)), .int (iI (cn)), .ref rk, .ref rn, .ref ro, .ref rt]))], [(ri, .inl (τ 1, 500, .inl (fun j => iI ((bi) j))))]]) Y [0, 1] [2, 3, 4] (by decide) rfl (cVE (As := []) (rest := [.ref q9]) (q0 := 0) (Ke.ok K) hE B Y [0, 1] (by decide) rfl (k_lenX l D τ _ K st sv X f (by omega)) rfl rfl q_700 q_701 q_702 q_15 q_703 rfl rfl hd_J0_length_8abf5 ⟨(Nat.le_of_ble_eq_true rfl), (Nat.le_of_ble_eq_true rfl)⟩ rfl hl.1 rfl (Nat.le_of_ble_eq_true rfl) dL_comes_98 ⟨by show _ ≤ KC - s.heap.size; omega, by show _ ≤ KS - totS s.heap; omega⟩) (fun r u H locs hw Y => ?_)
    subst hw
    have Y : Wd D τ s A s.heap (bl [[(st, .inr (0, [.ref sv, .int (iI (0)), .int (iI (0)), .int (iI (0))]))], [(sv, .inl (τ 1, X.length, .inl (f)))], [(q9, .inr (11, [.ref rd, .ref tx, .ref bd, .ref (F 0), .ref pa9, .int (iI (ol)), .int (iI (bk)), va_rf tr, va_rf kp]))], [(rd, .inr (8, [.ref ri, .int (iI (((20 * nr : Nat) : Int))), .int (iI (pl)), .int (iI (io)), .int (iI (er)), .int (iI (ea)), .int (iI (cn)), .ref rk, .ref rn, .ref ro, .ref rt]))], [(ri, .inl (τ 1, 500, .inl (fun j => iI ((bi) j))))]]) _ _ := Y
    refine qI (Cs := [[(q9, .inr (11, [.ref rd, .ref tx, .ref bd, .ref (F 0), .ref pa9, .int (iI (ol)), .int (iI (bk)), va_rf tr, va_rf kp]))], [(rd, .inr (8, [.ref ri, .int (iI (((20 * nr : Nat) : Int))), .int (iI (pl)), .int (iI (io)), .int (iI (er)), .int (iI (ea)), .int (iI (cn)), .ref rk, .ref rn, .ref ro, .ref rt]))]]) (Rs := [[(st, .inr (0, [.ref sv, .int (iI (0)), .int (iI (0)), .int (iI (0))]))], [(sv, .inl (τ 1, X.length, .inl (f)))], [(ri, .inl (τ 1, 500, .inl (fun j => iI ((bi) j))))]]) Y [2, 3] [0, 1, 4] (by decide) rfl (cV (As := [.int (iI ((X.length : Nat) : Int))]) (rest := []) (q0 := 2) B Y [2, 3] (by decide) rfl (k_truncate l D τ _ q9 tx bd pa9 ol bk tr kp F rd ri rk rn ro rt (20 * nr) pl io er ea cn X.length (by omega) (by omega)) rfl rfl q_761 q_762 q_763 q_2 q_764 rfl rfl hd_X9_truncate ⟨(Nat.le_of_ble_eq_true rfl), (Nat.le_of_ble_eq_true rfl)⟩ rfl hl.1 rfl (Nat.le_of_ble_eq_true rfl) dL_comes_101 ⟨by show _ ≤ KC - s.heap.size; omega, by show _ ≤ KS - totS s.heap; omega⟩) (fun r u H locs hw Y => ?_)
    subst hw
    have Y : Wd D τ s A s.heap (bl [[(q9, .inr (11, [.ref rd, .ref tx, .ref bd, .ref (F 0), .ref pa9, .int (iI (ol)), .int (iI (bk)), va_rf tr, va_rf kp]))], [(rd, .inr (8, [.ref ri, .int (iI (((X.length : Nat) : Int))), .int (iI (pl)), .int (iI (io)), .int (iI (er)), .int (iI (ea)), .int (iI (cn)), .ref rk, .ref rn, .ref ro, .ref rt]))], [(st, .inr (0, [.ref sv, .int (iI (0)), .int (iI (0)), .int (iI (0))]))], [(sv, .inl (τ 1, X.length, .inl (f)))], [(ri, .inl (τ 1, 500, .inl (fun j => iI ((bi) j))))]]) _ _ := Y
    refine lv_istore_n (lv' := [(2, .int (iI ((X.length : Nat) : Int))), (0, .ref q9), (1, .ref st)]) B.1 B.2.1 dL_comes_104 rfl hl (by decide) rfl (fun ls hl => ?_)
    exact eVz (w1 := fun (u : Nat → Int) => [[(q9, .inr (11, [.ref rd, .ref tx, .ref bd, .ref (F 0), .ref pa9, .int (iI (ol)), .int (iI (bk)), va_rf tr, va_rf kp]))], [(rd, .inr (8, [.ref ri, .int (iI (((X.length : Nat) : Int))), .int (iI (pl)), .int (iI (io)), .int (iI (er)), .int (iI (ea)), .int (iI (cn)), .ref rk, .ref rn, .ref ro, .ref rt]))], [(ri, .inl (τ 1, 500, .inl (fun j => iI ((u) j))))], [(st, .inr (0, [.ref sv, .int (iI (0)), .int (iI (0)), .int (iI (0))]))], [(sv, .inl (τ 1, X.length, .inl (f)))]]) (pc1 := fun _ => 0) (ps1 := fun _ => 0) B hr hlk Y bi ⟨hbi, fun j hj => by rw [Nat.zero_add]; exact hbX j (by omega) hj⟩ [0, 1, 4, 2, 3] (by decide) rfl (by omega) (by omega) dL_comes_105
  · obtain ⟨bi, hbi, hbX, hl, Y, hz1, hz2⟩ := hP
    have hi20 : 20 * i < X.length := by omega
    have hch := chX_ok hXb (20 * i)
    refine lv_iload_n B.1 B.2.1 dL_comes_2 rfl (lv_at hl 2 rfl) ?_
    refine lv_aload_n B.1 B.2.1 dL_comes_3 rfl (lv_at hl 1 rfl) ?_
    refine qI (Cs := [[(st, .inr (0, [.ref sv, .int (iI (0)), .int (iI (0)), .int (iI (0))]))], [(sv, .inl (τ 1, X.length, .inl (f)))]]) (Rs := [[(q9, .inr (11, [.ref rd, .ref tx, .ref bd, .ref (F 0), .ref pa9, .int (iI (ol)), .int (iI (bk)), va_rf tr, va_rf kp]))], [(rd, .inr (8, [.ref ri, .int (iI (((20 * i : Nat) : Int))), .int (iI (pl)), .int (iI (io)), .int (iI (er)), .int (iI (ea)), .int (iI (cn)), .ref rk, .ref rn, .ref ro, .ref rt]))], [(ri, .inl (τ 1, 500, .inl (fun j => iI ((bi) j))))]]) Y [3, 4] [0, 1, 2] (by decide) rfl (cVE (As := []) (rest := [.int (iI (((20 * i) : Nat) : Int))]) (q0 := 3) (Ke.ok K) hE B Y [3, 4] (by decide) rfl (k_lenX l D τ _ K st sv X f (by omega)) rfl rfl q_700 q_701 q_702 q_15 q_703 rfl rfl hd_J0_length_8abf5 ⟨(Nat.le_of_ble_eq_true rfl), (Nat.le_of_ble_eq_true rfl)⟩ rfl hl.1 rfl (Nat.le_of_ble_eq_true rfl) dL_comes_4 ⟨by show _ ≤ KC - s.heap.size; omega, by show _ ≤ KS - totS s.heap; omega⟩) (fun r u H locs hw Y => ?_)
    subst hw
    have Y : Wd D τ s A s.heap (bl [[(st, .inr (0, [.ref sv, .int (iI (0)), .int (iI (0)), .int (iI (0))]))], [(sv, .inl (τ 1, X.length, .inl (f)))], [(q9, .inr (11, [.ref rd, .ref tx, .ref bd, .ref (F 0), .ref pa9, .int (iI (ol)), .int (iI (bk)), va_rf tr, va_rf kp]))], [(rd, .inr (8, [.ref ri, .int (iI (((20 * i : Nat) : Int))), .int (iI (pl)), .int (iI (io)), .int (iI (er)), .int (iI (ea)), .int (iI (cn)), .ref rk, .ref rn, .ref ro, .ref rt]))], [(ri, .inl (τ 1, 500, .inl (fun j => iI ((bi) j))))]]) _ _ := Y
    refine lv_icmp_ge (tgt := 96) B.1 B.2.1 dL_comes_7 (by decide) (fun h => absurd h (mt (iI_le (a := ((X.length : Nat) : Int)) (b := (((20 * i) : Nat) : Int)) (by omega) (by omega) (by omega) (by omega)).mp (by omega))) (fun _ => ?_)
    refine lv_iconst (v := (iI (5))) B.1 B.2.1 dL_comes_10 (by decide) ?_
    refine b_newi (N' := 5) B Y q_80 (by decide) (by decide) (by decide) (by show _ ≤ KC - s.heap.size; omega) (by show _ ≤ KS - totS s.heap; omega) dL_comes_11 (fun wq H Y => ?_)
    have Y : Wd D τ s A s.heap (bl [[(st, .inr (0, [.ref sv, .int (iI (0)), .int (iI (0)), .int (iI (0))]))], [(sv, .inl (τ 1, X.length, .inl (f)))], [(q9, .inr (11, [.ref rd, .ref tx, .ref bd, .ref (F 0), .ref pa9, .int (iI (ol)), .int (iI (bk)), va_rf tr, va_rf kp]))], [(rd, .inr (8, [.ref ri, .int (iI (((20 * i : Nat) : Int))), .int (iI (pl)), .int (iI (io)), .int (iI (er)), .int (iI (ea)), .int (iI (cn)), .ref rk, .ref rn, .ref ro, .ref rt]))], [(ri, .inl (τ 1, 500, .inl (fun j => iI ((bi) j))))], [(wq, .inl (τ 0, 5, .inl (fun j => iI ((fun _ => 0) j))))]]) _ _ := Y
    refine lv_astore_n (lv' := [(3, .ref wq), (0, .ref q9), (1, .ref st), (2, .int (iI (((20 * i) : Nat) : Int)))]) B.1 B.2.1 dL_comes_13 rfl hl (by decide) rfl (fun ls hl => ?_)
    refine lv_iconst (v := (iI (0))) B.1 B.2.1 dL_comes_14 (by decide) ?_
    refine lv_istore (lv' := [(4, .int (iI (0))), (3, .ref wq), (0, .ref q9), (1, .ref st), (2, .int (iI (((20 * i) : Nat) : Int)))]) B.1 B.2.1 dL_comes_15 hl (by decide) rfl (fun ls hl => ?_)
    have Y : Wd D τ s A s.heap (bl [[(st, .inr (0, [.ref sv, .int (iI (0)), .int (iI (0)), .int (iI (0))]))], [(sv, .inl (τ 1, X.length, .inl (f)))], [(q9, .inr (11, [.ref rd, .ref tx, .ref bd, .ref (F 0), .ref pa9, .int (iI (ol)), .int (iI (bk)), va_rf tr, va_rf kp]))], [(rd, .inr (8, [.ref ri, .int (iI (((20 * i : Nat) : Int))), .int (iI (pl)), .int (iI (io)), .int (iI (er)), .int (iI (ea)), .int (iI (cn)), .ref rk, .ref rn, .ref ro, .ref rt]))], [(ri, .inl (τ 1, 500, .inl (fun j => iI ((bi) j))))], [(wq, .inl (τ 0, 5, .inl (fun j => iI ((pwF (chX X (20 * i)) 0) j))))]]) H locs := by rw [show (fun j => iI ((pwF (chX X (20 * i)) 0) j)) = (fun j => iI ((fun _ => (0 : Int)) j)) from by rw [pwF_0]]; exact Y
    have hl : lv_has ls 5 [(0, .ref q9), (1, .ref st), (2, .int (iI (((20 * i) : Nat) : Int))), (3, .ref wq), (4, .int (iI ((0 : Nat) : Int)))] := lv_sub hl [2, 3, 4, 1, 0] rfl
    refine loopZ (n := 20) (P := fun (t : Nat) (H : Heap) (locs : List Loc) (ls : Array Slot) (cells slots : Nat) => lv_has ls 5 [(0, .ref q9), (1, .ref st), (2, .int (iI (((20 * i) : Nat) : Int))), (3, .ref wq), (4, .int (iI ((t : Nat) : Int)))] ∧ Wd D τ s A s.heap (bl [[(st, .inr (0, [.ref sv, .int (iI (0)), .int (iI (0)), .int (iI (0))]))], [(sv, .inl (τ 1, X.length, .inl (f)))], [(q9, .inr (11, [.ref rd, .ref tx, .ref bd, .ref (F 0), .ref pa9, .int (iI (ol)), .int (iI (bk)), va_rf tr, va_rf kp]))], [(rd, .inr (8, [.ref ri, .int (iI (((20 * i : Nat) : Int))), .int (iI (pl)), .int (iI (io)), .int (iI (er)), .int (iI (ea)), .int (iI (cn)), .ref rk, .ref rn, .ref ro, .ref rt]))], [(ri, .inl (τ 1, 500, .inl (fun j => iI ((bi) j))))], [(wq, .inl (τ 0, 5, .inl (fun j => iI ((pwF (chX X (20 * i)) t) j))))]]) H locs ∧ s.heap.size + cells + (26 - (i + 1)) ≤ KC ∧ totS s.heap + slots + 5 * (26 - (i + 1)) ≤ KS) 0 (by decide) ⟨lv_sub hl [0, 1, 2, 3, 4] rfl, Y.pick [0, 1, 2, 3, 4, 5] (by decide) rfl, by omega, by omega⟩ (fun H locs ls cells slots hP => ?_) (fun t hlt_t H locs ls cells slots hP ih_t => ?_)
    · obtain ⟨hl, Y, hz1, hz2⟩ := hP
      refine lv_iload B.1 B.2.1 dL_comes_17 (lv_at hl 4 rfl) ?_
      refine lv_bipush (v := (iI (20))) B.1 B.2.1 dL_comes_19 (by decide) ?_
      refine lv_icmp_ge (tgt := 69) B.1 B.2.1 dL_comes_21 (by decide) (fun _ => ?_) (fun h => absurd (by decide) h) 
      refine lv_aload_n B.1 B.2.1 dL_comes_69 rfl (lv_at hl 0 rfl) ?_
      refine lv_aload_n B.1 B.2.1 dL_comes_70 rfl (lv_at hl 3 rfl) ?_
      refine lv_iconst (v := (iI (0))) B.1 B.2.1 dL_comes_71 (by decide) ?_
      refine b_iald (j := 0) (v := (iI (wrdI (chX X (20 * i)) 0))) B Y 5 rfl (by decide) (by decide) (by decide) (congrArg iI (pwF_20 (chX X (20 * i)) (by decide))) dL_comes_72 ?_
      refine lv_aload_n B.1 B.2.1 dL_comes_73 rfl (lv_at hl 3 rfl) ?_
      refine lv_iconst (v := (iI (1))) B.1 B.2.1 dL_comes_74 (by decide) ?_
      refine b_iald (j := 1) (v := (iI (wrdI (chX X (20 * i)) 4))) B Y 5 rfl (by decide) (by decide) (by decide) (congrArg iI (pwF_20 (chX X (20 * i)) (by decide))) dL_comes_75 ?_
      refine lv_aload_n B.1 B.2.1 dL_comes_76 rfl (lv_at hl 3 rfl) ?_
      refine lv_iconst (v := (iI (2))) B.1 B.2.1 dL_comes_77 (by decide) ?_
      refine b_iald (j := 2) (v := (iI (wrdI (chX X (20 * i)) 8))) B Y 5 rfl (by decide) (by decide) (by decide) (congrArg iI (pwF_20 (chX X (20 * i)) (by decide))) dL_comes_78 ?_
      refine lv_aload_n B.1 B.2.1 dL_comes_79 rfl (lv_at hl 3 rfl) ?_
      refine lv_iconst (v := (iI (3))) B.1 B.2.1 dL_comes_80 (by decide) ?_
      refine b_iald (j := 3) (v := (iI (wrdI (chX X (20 * i)) 12))) B Y 5 rfl (by decide) (by decide) (by decide) (congrArg iI (pwF_20 (chX X (20 * i)) (by decide))) dL_comes_81 ?_
      refine lv_aload_n B.1 B.2.1 dL_comes_82 rfl (lv_at hl 3 rfl) ?_
      refine lv_iconst (v := (iI (4))) B.1 B.2.1 dL_comes_83 (by decide) ?_
      refine b_iald (j := 4) (v := (iI (wrdI (chX X (20 * i)) 16))) B Y 5 rfl (by decide) (by decide) (by decide) (congrArg iI (pwF_20 (chX X (20 * i)) (by decide))) dL_comes_84 ?_
      refine qI (Cs := [[(q9, .inr (11, [.ref rd, .ref tx, .ref bd, .ref (F 0), .ref pa9, .int (iI (ol)), .int (iI (bk)), va_rf tr, va_rf kp]))], [(rd, .inr (8, [.ref ri, .int (iI (((20 * i : Nat) : Int))), .int (iI (pl)), .int (iI (io)), .int (iI (er)), .int (iI (ea)), .int (iI (cn)), .ref rk, .ref rn, .ref ro, .ref rt]))], [(ri, .inl (τ 1, 500, .inl (fun j => iI ((bi) j))))]]) (Rs := [[(st, .inr (0, [.ref sv, .int (iI (0)), .int (iI (0)), .int (iI (0))]))], [(sv, .inl (τ 1, X.length, .inl (f)))], [(wq, .inl (τ 0, 5, .inl (fun j => iI ((pwF (chX X (20 * i)) 20) j))))]]) Y [2, 3, 4] [0, 1, 5] (by decide) rfl (cV (As := [.int (iI (wrdI (chX X (20 * i)) 0)), .int (iI (wrdI (chX X (20 * i)) 4)), .int (iI (wrdI (chX X (20 * i)) 8)), .int (iI (wrdI (chX X (20 * i)) 12)), .int (iI (wrdI (chX X (20 * i)) 16))]) (rest := []) (q0 := 2) B Y [2, 3, 4] (by decide) rfl (k_append l D τ _ q9 tx bd pa9 ol bk tr kp F rd ri rk rn ro rt (20 * i) pl io er ea cn (chX X (20 * i)) hch (by omega) bi hbi) rfl rfl q_748 q_749 q_750 q_2 q_751 rfl rfl hd_X9_append ⟨(Nat.le_of_ble_eq_true rfl), (Nat.le_of_ble_eq_true rfl)⟩ rfl hl.1 rfl (Nat.le_of_ble_eq_true rfl) dL_comes_85 ⟨by show _ ≤ KC - s.heap.size; omega, by show _ ≤ KS - totS s.heap; omega⟩) (fun r u H locs hw Y => ?_)
      subst hw
      have Y : Wd D τ s A s.heap (bl [[(q9, .inr (11, [.ref rd, .ref tx, .ref bd, .ref (F 0), .ref pa9, .int (iI (ol)), .int (iI (bk)), va_rf tr, va_rf kp]))], [(rd, .inr (8, [.ref ri, .int (iI (((20 * i + 20 : Nat) : Int))), .int (iI (pl)), .int (iI (io)), .int (iI (er)), .int (iI (ea)), .int (iI (cn)), .ref rk, .ref rn, .ref ro, .ref rt]))], [(ri, .inl (τ 1, 500, .inl (fun j => iI ((putB bi (20 * i) (chX X (20 * i)) 20) j))))], [(st, .inr (0, [.ref sv, .int (iI (0)), .int (iI (0)), .int (iI (0))]))], [(sv, .inl (τ 1, X.length, .inl (f)))], [(wq, .inl (τ 0, 5, .inl (fun j => iI ((pwF (chX X (20 * i)) 20) j))))]]) _ _ := Y
      refine lv_istore (lv' := [(4, .int (iI (((20 * i + 20) : Nat) : Int))), (0, .ref q9), (1, .ref st), (2, .int (iI (((20 * i) : Nat) : Int))), (3, .ref wq)]) B.1 B.2.1 dL_comes_88 hl (by decide) rfl (fun ls hl => ?_)
      refine lv_iinc (v := (iI (((20 * (i + 1)) : Nat) : Int))) (lv' := [(2, .int (iI (((20 * (i + 1)) : Nat) : Int))), (4, .int (iI (((20 * i + 20) : Nat) : Int))), (0, .ref q9), (1, .ref st), (3, .ref wq)]) B.1 B.2.1 dL_comes_90 hl (k := 3) rfl (by show iI _ + iI 20 = _; rw [iI_add]; congr 1) (by decide) rfl (fun ls hl => ?_)
      refine lv_goto (tgt := 2) B.1 B.2.1 dL_comes_93 (by decide) ?_
      exact ih H locs ls _ _ ⟨(putB bi (20 * i) (chX X (20 * i)) 20), (putB_ok hbi hch _ _), (fun j h1 h2 => by unfold putB; by_cases q : 20 * i ≤ j ∧ j < 20 * i + 20; (· rw [if_pos q]; unfold chX; rw [show 20 * i + (j - 20 * i) = j by omega, if_pos h2]); (· rw [if_neg q]; exact hbX j (by omega) h2)), lv_sub hl [2, 3, 0] rfl, Y.pick [0, 1, 2, 3, 4] (by decide) rfl, by omega, by omega⟩
    · obtain ⟨hl, Y, hz1, hz2⟩ := hP
      have hac := accI_in hch (t / 4) (t % 4) (by omega)
      have hct := hch t
      have hpa := pwF_at (chX X (20 * i)) t
      refine lv_iload B.1 B.2.1 dL_comes_17 (lv_at hl 4 rfl) ?_
      refine lv_bipush (v := (iI (20))) B.1 B.2.1 dL_comes_19 (by decide) ?_
      refine lv_icmp_ge (tgt := 69) B.1 B.2.1 dL_comes_21 (by decide) (fun h => absurd h (mt (iI_le (a := 20) (b := ((t : Nat) : Int)) (by omega) (by omega) (by omega) (by omega)).mp (by omega))) (fun _ => ?_)
      refine lv_aload_n B.1 B.2.1 dL_comes_24 rfl (lv_at hl 3 rfl) ?_
      refine lv_iload B.1 B.2.1 dL_comes_25 (lv_at hl 4 rfl) ?_
      refine lv_iconst (v := (iI (4))) B.1 B.2.1 dL_comes_27 (by decide) ?_
      refine lv_idiv B.1 B.2.1 dL_comes_28 (by decide) ?_
      refine lv_cv (v := (iI (((t / 4) : Nat) : Int))) ((iI_div (by omega) (by omega) (by decide) (by decide)).trans (congrArg iI (Int.natCast_ediv t 4).symm)) ?_
      refine lv_aload_n B.1 B.2.1 dL_comes_29 rfl (lv_at hl 3 rfl) ?_
      refine lv_iload B.1 B.2.1 dL_comes_30 (lv_at hl 4 rfl) ?_
      refine lv_iconst (v := (iI (4))) B.1 B.2.1 dL_comes_32 (by decide) ?_
      refine lv_idiv B.1 B.2.1 dL_comes_33 (by decide) ?_
      refine lv_cv (v := (iI (((t / 4) : Nat) : Int))) ((iI_div (by omega) (by omega) (by decide) (by decide)).trans (congrArg iI (Int.natCast_ediv t 4).symm)) ?_
      refine b_iald (j := (t / 4)) (v := (iI (accI (chX X (20 * i)) (t / 4) (t % 4)))) B Y 5 rfl (iI_pos (by omega)) (iI_clamp (by omega)) (by omega) (congrArg iI hpa) dL_comes_34 ?_
      refine lv_bipush (v := (iI (8))) B.1 B.2.1 dL_comes_35 (by decide) ?_
      refine lv_ishl B.1 B.2.1 dL_comes_37 ?_
      refine lv_cv (v := (iI (accI (chX X (20 * i)) (t / 4) (t % 4)) <<< (iI 8 &&& 31))) rfl ?_
      refine lv_iload_n B.1 B.2.1 dL_comes_38 rfl (lv_at hl 2 rfl) ?_
      refine lv_iload B.1 B.2.1 dL_comes_39 (lv_at hl 4 rfl) ?_
      refine lv_iadd B.1 B.2.1 dL_comes_41 ?_
      refine lv_cv (v := (iI (((20 * i + t) : Nat) : Int))) (iI_add _ _) ?_
      refine lv_aload_n B.1 B.2.1 dL_comes_42 rfl (lv_at hl 1 rfl) ?_
      refine qI (Cs := [[(st, .inr (0, [.ref sv, .int (iI (0)), .int (iI (0)), .int (iI (0))]))], [(sv, .inl (τ 1, X.length, .inl (f)))]]) (Rs := [[(q9, .inr (11, [.ref rd, .ref tx, .ref bd, .ref (F 0), .ref pa9, .int (iI (ol)), .int (iI (bk)), va_rf tr, va_rf kp]))], [(rd, .inr (8, [.ref ri, .int (iI (((20 * i : Nat) : Int))), .int (iI (pl)), .int (iI (io)), .int (iI (er)), .int (iI (ea)), .int (iI (cn)), .ref rk, .ref rn, .ref ro, .ref rt]))], [(ri, .inl (τ 1, 500, .inl (fun j => iI ((bi) j))))], [(wq, .inl (τ 0, 5, .inl (fun j => iI ((pwF (chX X (20 * i)) t) j))))]]) Y [0, 1] [2, 3, 4, 5] (by decide) rfl (cVE (As := []) (rest := [.int (iI (((20 * i + t) : Nat) : Int)), .int (iI (accI (chX X (20 * i)) (t / 4) (t % 4)) <<< (iI 8 &&& 31)), .int (iI (((t / 4) : Nat) : Int)), .ref wq]) (q0 := 0) (Ke.ok K) hE B Y [0, 1] (by decide) rfl (k_lenX l D τ _ K st sv X f (by omega)) rfl rfl q_700 q_701 q_702 q_15 q_703 rfl rfl hd_J0_length_8abf5 ⟨(Nat.le_of_ble_eq_true rfl), (Nat.le_of_ble_eq_true rfl)⟩ rfl hl.1 rfl (Nat.le_of_ble_eq_true rfl) dL_comes_43 ⟨by show _ ≤ KC - s.heap.size; omega, by show _ ≤ KS - totS s.heap; omega⟩) (fun r u H locs hw Y => ?_)
      subst hw
      have Y : Wd D τ s A s.heap (bl [[(st, .inr (0, [.ref sv, .int (iI (0)), .int (iI (0)), .int (iI (0))]))], [(sv, .inl (τ 1, X.length, .inl (f)))], [(q9, .inr (11, [.ref rd, .ref tx, .ref bd, .ref (F 0), .ref pa9, .int (iI (ol)), .int (iI (bk)), va_rf tr, va_rf kp]))], [(rd, .inr (8, [.ref ri, .int (iI (((20 * i : Nat) : Int))), .int (iI (pl)), .int (iI (io)), .int (iI (er)), .int (iI (ea)), .int (iI (cn)), .ref rk, .ref rn, .ref ro, .ref rt]))], [(ri, .inl (τ 1, 500, .inl (fun j => iI ((bi) j))))], [(wq, .inl (τ 0, 5, .inl (fun j => iI ((pwF (chX X (20 * i)) t) j))))]]) _ _ := Y
      refine lv_icmp_ge (tgt := 60) B.1 B.2.1 dL_comes_46 (by decide) (fun c1 => ?_) (fun c1 => ?_)
      · have c1 := (iI_le (a := ((X.length : Nat) : Int)) (b := (((20 * i + t) : Nat) : Int)) (by omega) (by omega) (by omega) (by omega)).mp c1
        have hce : (chX X (20 * i)) t = 0 := if_neg (by omega)
        refine lv_iconst (v := (iI (0))) B.1 B.2.1 dL_comes_60 (by decide) ?_
        refine lv_ior B.1 B.2.1 dL_comes_61 ?_
        refine lv_cv (v := (iI (accI (chX X (20 * i)) (t / 4) (t % 4) * 256 + (chX X (20 * i)) t))) (by rw [hce]; rw [hce] at hct; exact iI_sh8 hac.1 hac.2 (by omega) (by omega)) ?_
        refine b_iast (j := (t / 4)) (g := fun j => iI ((upz (pwF (chX X (20 * i)) t) (t / 4) (accI (chX X (20 * i)) (t / 4) (t % 4) * 256 + (chX X (20 * i)) t)) j)) (B' := [[(st, .inr (0, [.ref sv, .int (iI (0)), .int (iI (0)), .int (iI (0))]))], [(sv, .inl (τ 1, X.length, .inl (f)))], [(q9, .inr (11, [.ref rd, .ref tx, .ref bd, .ref (F 0), .ref pa9, .int (iI (ol)), .int (iI (bk)), va_rf tr, va_rf kp]))], [(rd, .inr (8, [.ref ri, .int (iI (((20 * i : Nat) : Int))), .int (iI (pl)), .int (iI (io)), .int (iI (er)), .int (iI (ea)), .int (iI (cn)), .ref rk, .ref rn, .ref ro, .ref rt]))], [(ri, .inl (τ 1, 500, .inl (fun j => iI ((bi) j))))], [(wq, .inl (τ 0, 5, .inl (fun j => iI ((upz (pwF (chX X (20 * i)) t) (t / 4) (accI (chX X (20 * i)) (t / 4) (t % 4) * 256 + (chX X (20 * i)) t)) j))))]]) B Y 5 rfl (iI_pos (by omega)) (iI_clamp (by omega)) (by omega) upz_ok rfl dL_comes_62 (fun H locs Y => ?_)
        refine lv_iinc (v := (iI (((t + 1) : Nat) : Int))) (lv' := [(4, .int (iI (((t + 1) : Nat) : Int))), (0, .ref q9), (1, .ref st), (2, .int (iI (((20 * i) : Nat) : Int))), (3, .ref wq)]) B.1 B.2.1 dL_comes_63 hl (k := 4) rfl (iI_inc _) (by decide) rfl (fun ls hl => ?_)
        refine lv_goto (tgt := 17) B.1 B.2.1 dL_comes_66 (by decide) ?_
        rw [pwF_s] at Y
        exact ih_t H locs ls _ _ ⟨lv_sub hl [1, 2, 3, 4, 0] rfl, Y.pick [0, 1, 2, 3, 4, 5] (by decide) rfl, by omega, by omega⟩
      · have c1 := mt (iI_le (a := ((X.length : Nat) : Int)) (b := (((20 * i + t) : Nat) : Int)) (by omega) (by omega) (by omega) (by omega)).mpr c1
        have hce : (chX X (20 * i)) t = X.getD (20 * i + t) 0 := if_pos (by omega)
        refine lv_aload_n B.1 B.2.1 dL_comes_49 rfl (lv_at hl 1 rfl) ?_
        refine lv_iload_n B.1 B.2.1 dL_comes_50 rfl (lv_at hl 2 rfl) ?_
        refine lv_iload B.1 B.2.1 dL_comes_51 (lv_at hl 4 rfl) ?_
        refine lv_iadd B.1 B.2.1 dL_comes_53 ?_
        refine lv_cv (v := (iI (((20 * i + t) : Nat) : Int))) (iI_add _ _) ?_
        refine qI (Cs := [[(st, .inr (0, [.ref sv, .int (iI (0)), .int (iI (0)), .int (iI (0))]))], [(sv, .inl (τ 1, X.length, .inl (f)))]]) (Rs := [[(q9, .inr (11, [.ref rd, .ref tx, .ref bd, .ref (F 0), .ref pa9, .int (iI (ol)), .int (iI (bk)), va_rf tr, va_rf kp]))], [(rd, .inr (8, [.ref ri, .int (iI (((20 * i : Nat) : Int))), .int (iI (pl)), .int (iI (io)), .int (iI (er)), .int (iI (ea)), .int (iI (cn)), .ref rk, .ref rn, .ref ro, .ref rt]))], [(ri, .inl (τ 1, 500, .inl (fun j => iI ((bi) j))))], [(wq, .inl (τ 0, 5, .inl (fun j => iI ((pwF (chX X (20 * i)) t) j))))]]) Y [0, 1] [2, 3, 4, 5] (by decide) rfl (cVE (As := [.int (iI (((20 * i + t) : Nat) : Int))]) (rest := [.int (iI (accI (chX X (20 * i)) (t / 4) (t % 4)) <<< (iI 8 &&& 31)), .int (iI (((t / 4) : Nat) : Int)), .ref wq]) (q0 := 0) (Ke.ok K) hE B Y [0, 1] (by decide) rfl (k_chrX l D τ _ K st sv X f (by omega) hfX hXb (20 * i + t) (by omega)) rfl rfl q_710 q_711 q_712 q_15 q_713 rfl rfl hd_J0_charAt_5068e ⟨(Nat.le_of_ble_eq_true rfl), (Nat.le_of_ble_eq_true rfl)⟩ rfl hl.1 rfl (Nat.le_of_ble_eq_true rfl) dL_comes_54 ⟨by show _ ≤ KC - s.heap.size; omega, by show _ ≤ KS - totS s.heap; omega⟩) (fun r u H locs hw Y => ?_)
        subst hw
        have Y : Wd D τ s A s.heap (bl [[(st, .inr (0, [.ref sv, .int (iI (0)), .int (iI (0)), .int (iI (0))]))], [(sv, .inl (τ 1, X.length, .inl (f)))], [(q9, .inr (11, [.ref rd, .ref tx, .ref bd, .ref (F 0), .ref pa9, .int (iI (ol)), .int (iI (bk)), va_rf tr, va_rf kp]))], [(rd, .inr (8, [.ref ri, .int (iI (((20 * i : Nat) : Int))), .int (iI (pl)), .int (iI (io)), .int (iI (er)), .int (iI (ea)), .int (iI (cn)), .ref rk, .ref rn, .ref ro, .ref rt]))], [(ri, .inl (τ 1, 500, .inl (fun j => iI ((bi) j))))], [(wq, .inl (τ 0, 5, .inl (fun j => iI ((pwF (chX X (20 * i)) t) j))))]]) _ _ := Y
        refine lv_goto (tgt := 61) B.1 B.2.1 dL_comes_57 (by decide) ?_
        refine lv_ior B.1 B.2.1 dL_comes_61 ?_
        refine lv_cv (v := (iI (accI (chX X (20 * i)) (t / 4) (t % 4) * 256 + (chX X (20 * i)) t))) (by rw [hce]; rw [hce] at hct; exact iI_sh8 hac.1 hac.2 (by omega) (by omega)) ?_
        refine b_iast (j := (t / 4)) (g := fun j => iI ((upz (pwF (chX X (20 * i)) t) (t / 4) (accI (chX X (20 * i)) (t / 4) (t % 4) * 256 + (chX X (20 * i)) t)) j)) (B' := [[(st, .inr (0, [.ref sv, .int (iI (0)), .int (iI (0)), .int (iI (0))]))], [(sv, .inl (τ 1, X.length, .inl (f)))], [(q9, .inr (11, [.ref rd, .ref tx, .ref bd, .ref (F 0), .ref pa9, .int (iI (ol)), .int (iI (bk)), va_rf tr, va_rf kp]))], [(rd, .inr (8, [.ref ri, .int (iI (((20 * i : Nat) : Int))), .int (iI (pl)), .int (iI (io)), .int (iI (er)), .int (iI (ea)), .int (iI (cn)), .ref rk, .ref rn, .ref ro, .ref rt]))], [(ri, .inl (τ 1, 500, .inl (fun j => iI ((bi) j))))], [(wq, .inl (τ 0, 5, .inl (fun j => iI ((upz (pwF (chX X (20 * i)) t) (t / 4) (accI (chX X (20 * i)) (t / 4) (t % 4) * 256 + (chX X (20 * i)) t)) j))))]]) B Y 5 rfl (iI_pos (by omega)) (iI_clamp (by omega)) (by omega) upz_ok rfl dL_comes_62 (fun H locs Y => ?_)
        refine lv_iinc (v := (iI (((t + 1) : Nat) : Int))) (lv' := [(4, .int (iI (((t + 1) : Nat) : Int))), (0, .ref q9), (1, .ref st), (2, .int (iI (((20 * i) : Nat) : Int))), (3, .ref wq)]) B.1 B.2.1 dL_comes_63 hl (k := 4) rfl (iI_inc _) (by decide) rfl (fun ls hl => ?_)
        refine lv_goto (tgt := 17) B.1 B.2.1 dL_comes_66 (by decide) ?_
        rw [pwF_s] at Y
        exact ih_t H locs ls _ _ ⟨lv_sub hl [1, 2, 3, 4, 0] rfl, Y.pick [0, 1, 2, 3, 4, 5] (by decide) rfl, by omega, by omega⟩

