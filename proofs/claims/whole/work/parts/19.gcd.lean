theorem i32_rem (x y : Int32) (hy : y.toInt ≠ 0) : (x - x / y * y).toInt = x.toInt.tmod y.toInt := by
  rw [Int32.toInt_sub, Int32.toInt_mul, Int32.toInt_div, Int.sub_bmod_bmod]
  rw [Int.sub_bmod, Int.bmod_mul_bmod, ← Int.sub_bmod]
  have e : x.toInt - x.toInt.tdiv y.toInt * y.toInt = x.toInt.tmod y.toInt := by
    have := Int.mul_tdiv_add_tmod x.toInt y.toInt
    rw [Int.mul_comm]
    omega
  rw [e]
  have h1 : (x.toInt.tmod y.toInt).natAbs < y.toInt.natAbs := by rw [Int.natAbs_tmod]; exact Nat.mod_lt _ (by omega)
  have h2 := y.le_toInt
  have h3 := y.toInt_lt
  exact Int.bmod_eq_of_le (by omega) (by omega)
theorem i32_nat {x : Int32} {a : Nat} (h : x.toInt = a) : x = nI a := by
  have h3 := x.toInt_lt
  apply Int32.toInt_inj.mp
  rw [h]
  exact (nI_toInt (by omega)).symm
theorem common_step {G : zG} {l : Launch} (M : zM) (x y : Int32) (hx : x.toInt.natAbs < 2147483648) (d : Nat) (h : y.toInt ≠ 0 → am G l kX12_common d [.int y, .int (x - x / y * y)] M 0 0 (zr (.int (nI (Nat.gcd y.toInt.natAbs (x - x / y * y).toInt.natAbs))) (fun M' => M' = M))) : am G l kX12_common (d + 1) [.int x, .int y] M 0 0 (zr (.int (nI (Nat.gcd x.toInt.natAbs y.toInt.natAbs))) (fun M' => M' = M)) := by
  refine am.of (by decide) (Nat.le_of_ble_eq_true rfl) ?_
  refine aj.iload_n dX12_common_0 rfl ?_
  refine aj.if_ne (tgt := 17) dX12_common_1 rfl (fun c1 => ?_) (fun c1 => ?_)
  · have hy0 : y.toInt ≠ 0 := fun q => c1 (Int32.toInt_inj.mp q)
    refine aj.iload_n dX12_common_17 rfl ?_
    refine aj.iload_n dX12_common_18 rfl ?_
    refine aj.iload_n dX12_common_19 rfl ?_
    refine aj.irem dX12_common_20 (c1) ?_
    refine aj.callS1 (d' := d) (As := [.int y, .int (x - x / y * y)]) (rest := []) dX12_common_21 v_X12_323 w1671 rfl rfl (Nat.le_of_ble_eq_true rfl) (Nat.le_refl _) (h hy0) (fun M hM => ?_)
    subst hM
    exact aj.iret rfl dX12_common_24 ⟨by rw [i32_rem x y hy0, Int.natAbs_tmod, Nat.gcd_comm, ← Nat.gcd_rec, Nat.gcd_comm], rfl⟩
  · have hy0 : y = 0 := c1
    refine aj.iload_n dX12_common_4 rfl ?_
    refine aj.if_ge (tgt := 13) dX12_common_5 rfl (fun c5 => ?_) (fun c5 => ?_)
    · refine aj.iload_n dX12_common_13 rfl ?_
      refine aj.goto (tgt := 24) dX12_common_14 rfl ?_
      exact aj.iret rfl dX12_common_24 ⟨by rw [hy0]; exact congrArg (fun q => some (Value.int q)) (i32_nat (by rw [show (0 : Int32).toInt = 0 from rfl, Int.natAbs_zero, Nat.gcd_zero_right]; simp only [Int32.lt_iff_toInt_lt, Int32.le_iff_toInt_le] at *; have e0 : (0 : Int32).toInt = 0 := rfl; omega)), rfl⟩
    · refine aj.iload_n dX12_common_8 rfl ?_
      refine aj.ineg dX12_common_9 ?_
      refine aj.goto (tgt := 24) dX12_common_10 rfl ?_
      exact aj.iret rfl dX12_common_24 ⟨by rw [hy0]; exact congrArg (fun q => some (Value.int q)) (i32_nat (by rw [Int32.toInt_neg, show (0 : Int32).toInt = 0 from rfl, Int.natAbs_zero, Nat.gcd_zero_right]; simp only [Int32.lt_iff_toInt_lt, Int32.le_iff_toInt_le] at *; have e0 : (0 : Int32).toInt = 0 := rfl; exact (Int.bmod_eq_of_le (by omega) (by omega)).trans (by omega))), rfl⟩
theorem c_common {G : zG} {l : Launch} (M : zM) : ∀ (k : Nat) (x y : Int32), y.toInt.natAbs < 2 ^ k → y.toInt.natAbs < 2147483648 → x.toInt.natAbs < 2147483648 → am G l kX12_common (2 * k + 1) [.int x, .int y] M 0 0 (zr (.int (nI (Nat.gcd x.toInt.natAbs y.toInt.natAbs))) (fun M' => M' = M)) := by
  intro k
  induction k with
  | zero =>
    intro x y hy _ hx
    exact common_step M x y hx 0 (fun q => absurd q (by omega))
  | succ k ih =>
    intro x y hy hy2 hx
    refine common_step M x y hx (2 * k + 2) (fun h0 => ?_)
    have e1 := i32_rem x y h0
    have a1 : (x - x / y * y).toInt.natAbs = x.toInt.natAbs % y.toInt.natAbs := by rw [e1, Int.natAbs_tmod]
    have l1 : (x - x / y * y).toInt.natAbs < y.toInt.natAbs := by rw [a1]; exact Nat.mod_lt _ (by omega)
    refine common_step M y _ hy2 (2 * k + 1) (fun h1 => ?_)
    generalize x - x / y * y = r at *
    have e2 := i32_rem y r h1
    have a2 : (y - y / r * r).toInt.natAbs = y.toInt.natAbs % r.toInt.natAbs := by rw [e2, Int.natAbs_tmod]
    have l2 : (y - y / r * r).toInt.natAbs < r.toInt.natAbs := by rw [a2]; exact Nat.mod_lt _ (by omega)
    have l3 : (y - y / r * r).toInt.natAbs + r.toInt.natAbs ≤ y.toInt.natAbs := by
      have q1 := Nat.div_add_mod y.toInt.natAbs r.toInt.natAbs
      have q2 : 0 < y.toInt.natAbs / r.toInt.natAbs := Nat.div_pos (by omega) (by omega)
      have q3 : r.toInt.natAbs * 1 ≤ r.toInt.natAbs * (y.toInt.natAbs / r.toInt.natAbs) := Nat.mul_le_mul_left _ q2
      rw [a2]
      omega
    rw [Nat.pow_succ] at hy
    exact ih r _ (by omega) (by omega) (by omega)
theorem i64_rem (x y : Int64) (hy : y.toInt ≠ 0) : (x - x / y * y).toInt = x.toInt.tmod y.toInt := by
  rw [Int64.toInt_sub, Int64.toInt_mul, Int64.toInt_div, Int.sub_bmod_bmod]
  rw [Int.sub_bmod, Int.bmod_mul_bmod, ← Int.sub_bmod]
  have e : x.toInt - x.toInt.tdiv y.toInt * y.toInt = x.toInt.tmod y.toInt := by
    have := Int.mul_tdiv_add_tmod x.toInt y.toInt
    rw [Int.mul_comm]
    omega
  rw [e]
  have h1 : (x.toInt.tmod y.toInt).natAbs < y.toInt.natAbs := by rw [Int.natAbs_tmod]; exact Nat.mod_lt _ (by omega)
  have h2 := y.le_toInt
  have h3 := y.toInt_lt
  exact Int.bmod_eq_of_le (by omega) (by omega)
theorem i64_nat {x : Int64} {a : Nat} (h : x.toInt = a) : x = lN a := by
  have h3 := x.toInt_lt
  apply Int64.toInt_inj.mp
  rw [h]
  exact (pk_lT (by omega)).symm
theorem commonOf_step {G : zG} {l : Launch} (M : zM) (x y : Int64) (hx : x.toInt.natAbs < 9223372036854775808) (d : Nat) (h : y.toInt ≠ 0 → am G l kX12_commonOf d [.long y, .long (x - x / y * y)] M 0 0 (zr (.long (lN (Nat.gcd y.toInt.natAbs (x - x / y * y).toInt.natAbs))) (fun M' => M' = M))) : am G l kX12_commonOf (d + 1) [.long x, .long y] M 0 0 (zr (.long (lN (Nat.gcd x.toInt.natAbs y.toInt.natAbs))) (fun M' => M' = M)) := by
  refine am.of (by decide) (Nat.le_of_ble_eq_true rfl) ?_
  refine aj.lload_n dX12_commonOf_0 rfl ?_
  refine aj.lconst (v := 0) dX12_commonOf_1 rfl ?_
  refine aj.lif_ne (tgt := 21) dX12_commonOf_2 dX12_commonOf_3 rfl (fun c2 => ?_) (fun c2 => ?_)
  · have hy0 : y.toInt ≠ 0 := fun q => c2 (Int64.toInt_inj.mp q)
    refine aj.lload_n dX12_commonOf_21 rfl ?_
    refine aj.lload_n dX12_commonOf_22 rfl ?_
    refine aj.lload_n dX12_commonOf_23 rfl ?_
    refine aj.lrem dX12_commonOf_24 (c2) ?_
    refine aj.callS1 (d' := d) (As := [.long y, .long (x - x / y * y)]) (rest := []) dX12_commonOf_25 v_X12_326 w1730 rfl rfl (Nat.le_of_ble_eq_true rfl) (Nat.le_refl _) (h hy0) (fun M hM => ?_)
    subst hM
    exact aj.lret rfl dX12_commonOf_28 ⟨by rw [i64_rem x y hy0, Int.natAbs_tmod, Nat.gcd_comm, ← Nat.gcd_rec, Nat.gcd_comm], rfl⟩
  · have hy0 : y = 0 := c2
    refine aj.lload_n dX12_commonOf_6 rfl ?_
    refine aj.lconst (v := 0) dX12_commonOf_7 rfl ?_
    refine aj.lif_ge (tgt := 17) dX12_commonOf_8 dX12_commonOf_9 rfl (fun c8 => ?_) (fun c8 => ?_)
    · refine aj.lload_n dX12_commonOf_17 rfl ?_
      refine aj.goto (tgt := 28) dX12_commonOf_18 rfl ?_
      exact aj.lret rfl dX12_commonOf_28 ⟨by rw [hy0]; exact congrArg (fun q => some (Value.long q)) (i64_nat (by rw [show (0 : Int64).toInt = 0 from rfl, Int.natAbs_zero, Nat.gcd_zero_right]; simp only [Int64.lt_iff_toInt_lt, Int64.le_iff_toInt_le] at *; have e0 : (0 : Int64).toInt = 0 := rfl; omega)), rfl⟩
    · refine aj.lload_n dX12_commonOf_12 rfl ?_
      refine aj.lneg dX12_commonOf_13 ?_
      refine aj.goto (tgt := 28) dX12_commonOf_14 rfl ?_
      exact aj.lret rfl dX12_commonOf_28 ⟨by rw [hy0]; exact congrArg (fun q => some (Value.long q)) (i64_nat (by rw [Int64.toInt_neg, show (0 : Int64).toInt = 0 from rfl, Int.natAbs_zero, Nat.gcd_zero_right]; simp only [Int64.lt_iff_toInt_lt, Int64.le_iff_toInt_le] at *; have e0 : (0 : Int64).toInt = 0 := rfl; exact (Int.bmod_eq_of_le (by omega) (by omega)).trans (by omega))), rfl⟩
theorem c_commonOf {G : zG} {l : Launch} (M : zM) : ∀ (k : Nat) (x y : Int64), y.toInt.natAbs < 2 ^ k → y.toInt.natAbs < 9223372036854775808 → x.toInt.natAbs < 9223372036854775808 → am G l kX12_commonOf (2 * k + 1) [.long x, .long y] M 0 0 (zr (.long (lN (Nat.gcd x.toInt.natAbs y.toInt.natAbs))) (fun M' => M' = M)) := by
  intro k
  induction k with
  | zero =>
    intro x y hy _ hx
    exact commonOf_step M x y hx 0 (fun q => absurd q (by omega))
  | succ k ih =>
    intro x y hy hy2 hx
    refine commonOf_step M x y hx (2 * k + 2) (fun h0 => ?_)
    have e1 := i64_rem x y h0
    have a1 : (x - x / y * y).toInt.natAbs = x.toInt.natAbs % y.toInt.natAbs := by rw [e1, Int.natAbs_tmod]
    have l1 : (x - x / y * y).toInt.natAbs < y.toInt.natAbs := by rw [a1]; exact Nat.mod_lt _ (by omega)
    refine commonOf_step M y _ hy2 (2 * k + 1) (fun h1 => ?_)
    generalize x - x / y * y = r at *
    have e2 := i64_rem y r h1
    have a2 : (y - y / r * r).toInt.natAbs = y.toInt.natAbs % r.toInt.natAbs := by rw [e2, Int.natAbs_tmod]
    have l2 : (y - y / r * r).toInt.natAbs < r.toInt.natAbs := by rw [a2]; exact Nat.mod_lt _ (by omega)
    have l3 : (y - y / r * r).toInt.natAbs + r.toInt.natAbs ≤ y.toInt.natAbs := by
      have q1 := Nat.div_add_mod y.toInt.natAbs r.toInt.natAbs
      have q2 : 0 < y.toInt.natAbs / r.toInt.natAbs := Nat.div_pos (by omega) (by omega)
      have q3 : r.toInt.natAbs * 1 ≤ r.toInt.natAbs * (y.toInt.natAbs / r.toInt.natAbs) := Nat.mul_le_mul_left _ q2
      rw [a2]
      omega
    rw [Nat.pow_succ] at hy
    exact ih r _ (by omega) (by omega) (by omega)
