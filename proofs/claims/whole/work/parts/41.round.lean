abbrev lI (x : Int) : Int64 := Int64.ofInt x
theorem lI_T {x : Int} (h1 : -4611686018427387904 ≤ x) (h2 : x < 4611686018427387904) : (lI x).toInt = x := by
  exact Int64.toInt_ofInt_of_le (by omega) (by omega)
theorem lI_i (x : Int32) : x.toInt64 = lI x.toInt := by
  apply Int64.toInt_inj.mp
  have h1 := x.le_toInt
  have h2 := x.toInt_lt
  rw [z_i64, lI_T (by omega) (by omega)]
theorem lI_N {a : Nat} (h : a < 2 ^ 62) : lN a = lI (a : Int) := by
  apply Int64.toInt_inj.mp
  rw [pk_lT (by omega), lI_T (by omega) (by omega)]
theorem lI_add (x y : Int) : lI x + lI y = lI (x + y) := (Int64.ofInt_add x y).symm
theorem lI_mul (x y : Int) : lI x * lI y = lI (x * y) := (Int64.ofInt_mul x y).symm
theorem lI_lt {x y : Int} (h1 : -4611686018427387904 ≤ x) (h2 : x < 4611686018427387904) (h3 : -4611686018427387904 ≤ y) (h4 : y < 4611686018427387904) : lI x < lI y ↔ x < y := by
  rw [Int64.lt_iff_toInt_lt, lI_T h1 h2, lI_T h3 h4]
def isum (f : Nat → Int) : Nat → Int
  | 0 => 0
  | n + 1 => isum f n + f n
theorem isum_s (f : Nat → Int) (n : Nat) : isum f (n + 1) = isum f n + f n := rfl
theorem isum_bd {f : Nat → Int} {c : Int} (h : ∀ k, -c ≤ f k ∧ f k ≤ c) : ∀ n : Nat, -(c * n) ≤ isum f n ∧ isum f n ≤ c * n
  | 0 => by show -(c * ((0 : Nat) : Int)) ≤ (0 : Int) ∧ (0 : Int) ≤ c * ((0 : Nat) : Int); simp
  | n + 1 => by
    have h1 := isum_bd h n
    have h2 := h n
    rw [isum_s, Int.natCast_succ, Int.mul_add, Int.mul_one]
    omega
/-- the most of a first and of n others -/
def imx (f : Nat → Int) (z : Int) : Nat → Int
  | 0 => z
  | n + 1 => max (imx f z n) (f n)
theorem imx_s (f : Nat → Int) (z : Int) (n : Nat) : imx f z (n + 1) = max (imx f z n) (f n) := rfl
/-- what a round is worth that begins so, what comes after it being told -/
def mRB (B : Nat → Int32) (sl ol : Option (List Nat)) (R : Nat → Nat → Nat → Int) (k s age mi hu aim : Nat) : Int :=
  if aim = 21 then 10 * R age (mi + 1) hu else
    isum (fun lot => (mScore B (nI (mLand sl (B (13 + s)) age (mN (B 26)) aim lot)) (mOpen ol (mN (B 26)) mi hu = true)).toInt) 10 * 10 ^ k + (10 - zcnt (fun lot => mOpen ol (mN (B 26)) mi hu = true ∧ mFar B (nI (mLand sl (B (13 + s)) age (mN (B 26)) aim lot)) = 0) 10 : Int) * R (age + 1) (mi + 1) hu + (zcnt (fun lot => mOpen ol (mN (B 26)) mi hu = true ∧ mFar B (nI (mLand sl (B (13 + s)) age (mN (B 26)) aim lot)) = 0) 10 : Int) * R (age + 1) (mi + 1) (hu + 1)
def mR (B : Nat → Int32) (sl ol : Option (List Nat)) (s : Nat) : Nat → Nat → Nat → Nat → Int
  | 0, _, _, _ => 0
  | k + 1, age, mi, hu => imx (mRB B sl ol (mR B sl ol s k) k s age mi hu) (mRB B sl ol (mR B sl ol s k) k s age mi hu 21) 21
theorem mR_s (B : Nat → Int32) (sl ol : Option (List Nat)) (s k age mi hu : Nat) : mR B sl ol s (k + 1) age mi hu = imx (mRB B sl ol (mR B sl ol s k) k s age mi hu) (mRB B sl ol (mR B sl ol s k) k s age mi hu 21) 21 := rfl
theorem imx_bd {f : Nat → Int} {z c : Int} (hz : -c ≤ z ∧ z ≤ c) (h : ∀ k, -c ≤ f k ∧ f k ≤ c) : ∀ n, -c ≤ imx f z n ∧ imx f z n ≤ c
  | 0 => hz
  | n + 1 => by
    have h1 := imx_bd hz h n
    have h2 := h n
    rw [imx_s]
    omega
theorem pw_bd : ∀ k : Nat, k ≤ 4 → (1 : Int) ≤ 10 ^ k ∧ (10 : Int) ^ k ≤ 10000 := by decide
theorem mRB_bd {B : Nat → Int32} {sl ol : Option (List Nat)} {T : Nat} (hB : mOK B sl ol T) {R : Nat → Nat → Nat → Int} {k s age mi hu : Nat} {c : Int} (hk : k ≤ 4) (hc : 0 ≤ c) (hR : ∀ x y z, -c ≤ R x y z ∧ R x y z ≤ c) (aim : Nat) : -(10 * c + 9900000) ≤ mRB B sl ol R k s age mi hu aim ∧ mRB B sl ol R k s age mi hu aim ≤ 10 * c + 9900000 := by
  unfold mRB
  split
  · have := hR age (mi + 1) hu
    omega
  · have h1 := isum_bd (f := fun lot => (mScore B (nI (mLand sl (B (13 + s)) age (mN (B 26)) aim lot)) (mOpen ol (mN (B 26)) mi hu = true)).toInt) (c := 99) (fun i => by
      obtain ⟨q1, q2, q3⟩ := mScore_bd (n := mLand sl (B (13 + s)) age (mN (B 26)) aim i) hB (mLand_le _ _ _ _ _ _) (mOpen ol (mN (B 26)) mi hu = true)
      exact ⟨q1, q2⟩) 10
    have h2 := zcnt_le (fun lot => mOpen ol (mN (B 26)) mi hu = true ∧ mFar B (nI (mLand sl (B (13 + s)) age (mN (B 26)) aim lot)) = 0) 10
    have h3 := hR (age + 1) (mi + 1) hu
    have h4 := hR (age + 1) (mi + 1) (hu + 1)
    have h5 := pw_bd k hk
    generalize isum _ 10 = S at *
    generalize zcnt (fun lot => mOpen ol (mN (B 26)) mi hu = true ∧ mFar B (nI (mLand sl (B (13 + s)) age (mN (B 26)) aim lot)) = 0) 10 = t at *
    generalize R (age + 1) (mi + 1) hu = r1 at *
    generalize R (age + 1) (mi + 1) (hu + 1) = r2 at *
    generalize (10 : Int) ^ k = p at *
    have hS : -(990 * 10000) ≤ S * p ∧ S * p ≤ 990 * 10000 := by
      have e1 : S * p ≤ 990 * p := Int.mul_le_mul_of_nonneg_right (by omega) (by omega)
      have e2 : (-990) * p ≤ S * p := Int.mul_le_mul_of_nonneg_right (by omega) (by omega)
      omega
    have ht1 : (10 - (t : Int)) * r1 ≤ (10 - (t : Int)) * c ∧ (10 - (t : Int)) * (-c) ≤ (10 - (t : Int)) * r1 := ⟨Int.mul_le_mul_of_nonneg_left h3.2 (by omega), Int.mul_le_mul_of_nonneg_left h3.1 (by omega)⟩
    have ht2 : (t : Int) * r2 ≤ (t : Int) * c ∧ (t : Int) * (-c) ≤ (t : Int) * r2 := ⟨Int.mul_le_mul_of_nonneg_left h4.2 (by omega), Int.mul_le_mul_of_nonneg_left h4.1 (by omega)⟩
    have e3 : (10 - (t : Int)) * c + (t : Int) * c = 10 * c := by rw [← Int.add_mul]; congr 1; omega
    have e4 : (10 - (t : Int)) * (-c) + (t : Int) * (-c) = -(10 * c) := by rw [Int.mul_neg, Int.mul_neg, ← Int.neg_add, e3]
    omega
theorem mR_bd {B : Nat → Int32} {sl ol : Option (List Nat)} {T : Nat} (hB : mOK B sl ol T) (s : Nat) : ∀ k, k ≤ 4 → ∀ x y z, -((10 : Int) ^ k * 2200000 - 1100000) ≤ mR B sl ol s k x y z ∧ mR B sl ol s k x y z ≤ (10 : Int) ^ k * 2200000 - 1100000
  | 0, _, _, _, _ => by show -((10 : Int) ^ 0 * 2200000 - 1100000) ≤ (0 : Int) ∧ (0 : Int) ≤ (10 : Int) ^ 0 * 2200000 - 1100000; decide
  | k + 1, hk, x, y, z => by
    have ih := mR_bd hB s k (by omega)
    have hp := pw_bd k (by omega)
    have hp1 : (10 : Int) ^ (k + 1) = 10 * 10 ^ k := by rw [Int.pow_succ, Int.mul_comm]
    rw [mR_s, hp1]
    have hb := fun aim => mRB_bd (ol := ol) (k := k) (s := s) (age := x) (mi := y) (hu := z) hB (by omega) (c := (10 : Int) ^ k * 2200000 - 1100000) (by omega) ih aim
    have h := imx_bd (hb 21) hb 21
    omega
theorem roundBy_loop {G : zG} {l : Launch} {b : Nat} {M0 : zM} {I : Nat → Int32} {A : Nat → Nat → Int32} {L : Nat → Nat → Int64} {Q : Option Value → zM → Prop} {d : Nat} (hd : 3 ≤ d) (s : Nat) {x_s : Int32} (e_s : x_s = nI s) (lf : Nat) {x_lf : Int32} (e_lf : x_lf = nI lf) (age : Nat) {x_age : Int32} (e_age : x_age = nI age) (mi : Nat) {x_mi : Int32} (e_mi : x_mi = nI mi) (hu : Nat) {x_hu : Int32} (e_hu : x_hu = nI hu) (aim : Nat) {x_aim : Int32} (e_aim : x_aim = nI aim) (op : Prop) [Decidable op] (kn : Nat → Int32) (wo : Nat → Int64) {sl ol : Option (List Nat)} {T : Nat} (hB : mOK (A 1) sl ol T) (hs : s < 4) (haim : aim ≤ 20) (hage : age < 2 ^ 20) (hk : ∀ (M : zM), mW b M0 M I (va_up A 26 kn) (va_up L 25 wo) → aj G l kX12_roundBy d 116 [(9, .long (lI (isum (fun lot => (mScore (A 1) (nI (mLand sl (A 1 (13 + s)) age (mN (A 1 26)) aim lot)) op).toInt) 10))), (8, .int (nI (zcnt (fun lot => op ∧ mFar (A 1) (nI (mLand sl (A 1 (13 + s)) age (mN (A 1 26)) aim lot)) = 0) 10))), (7, .int (zb (op))), (6, .int x_aim), (0, .ref b), (1, .int x_s), (2, .int x_lf), (3, .int x_age), (4, .int x_mi), (5, .int x_hu)] [] M 0 0 Q) : ∀ (m j t : Nat) (x : Int64) (M : zM), j + m = 10 → x = lI (isum (fun lot => (mScore (A 1) (nI (mLand sl (A 1 (13 + s)) age (mN (A 1 26)) aim lot)) op).toInt) j) → t = zcnt (fun lot => op ∧ mFar (A 1) (nI (mLand sl (A 1 (13 + s)) age (mN (A 1 26)) aim lot)) = 0) j → mW b M0 M I (va_up A 26 kn) (va_up L 25 wo) → aj G l kX12_roundBy d 46 [(11, .int (nI j)), (9, .long x), (8, .int (nI t)), (7, .int (zb (op))), (6, .int x_aim), (0, .ref b), (1, .int x_s), (2, .int x_lf), (3, .int x_age), (4, .int x_mi), (5, .int x_hu)] [] M 0 0 Q := by
  have hT := hB.2.2.2.2.2.2.2.2.1
  have hN6 := hB.2.2.1.2
  have hN25 := hB.2.2.2.2.2.1.2
  have hN26 := hB.2.2.2.2.2.2.1.2
  have hN27 := hB.2.2.2.2.2.2.2.1.2
  have hN1 := hB.1.1.2
  have hN2 := hB.1.2.1.2
  intro m
  induction m with
  | zero =>
    intro j t x M hin hx ht hM
    obtain ⟨u, v, w, hA⟩ := hM
    have htl : t ≤ j := by rw [ht]; exact zcnt_le _ _
    rw [show j = 10 by omega] at hx ht
    subst hx
    subst ht
    refine aj.iload dX12_roundBy_46 rfl ?_
    refine aj.bipush (v := 10) dX12_roundBy_48 rfl ?_
    refine aj.icmp_geN (a := j) (b := 10) (tgt := 116) dX12_roundBy_50 rfl rfl (by omega) (by omega) rfl (fun c50 => ?_) (fun c50 => ?_)
    · refine aj.pick [1, 2, 3, 4, 5, 6, 7, 8, 9, 10] rfl ?_
      exact hk M ⟨_, _, _, hA⟩
    · exact absurd c50 (by omega)
  | succ m ih =>
    intro j t x M hin hx ht hM
    obtain ⟨u, v, w, hA⟩ := hM
    have htl : t ≤ j := by rw [ht]; exact zcnt_le _ _
    refine aj.iload dX12_roundBy_46 rfl ?_
    refine aj.bipush (v := 10) dX12_roundBy_48 rfl ?_
    refine aj.icmp_geN (a := j) (b := 10) (tgt := 116) dX12_roundBy_50 rfl rfl (by omega) (by omega) rfl (fun c50 => ?_) (fun c50 => ?_)
    · exact absurd c50 (by omega)
    · refine aj.aload_n dX12_roundBy_53 rfl ?_
      refine aj.iload_n dX12_roundBy_54 rfl ?_
      refine aj.iload dX12_roundBy_55 rfl ?_
      refine aj.iload dX12_roundBy_57 rfl ?_
      refine aj.iload_n dX12_roundBy_59 rfl ?_
      refine aj.aload_n dX12_roundBy_60 rfl ?_
      refine gM1 rfl dX12_roundBy_61 hA ?_
      refine aj.bipush (v := 26) dX12_roundBy_64 rfl ?_
      refine aM1N (i := 26) dX12_roundBy_66 hA rfl (by omega) ?_
      refine aj.callV1 (d' := 2) (As := [.int x_s, .int x_aim, .int (nI j), .int x_age, .int (A 1 26)]) (rest := []) dX12_roundBy_67 v_X12_225 li_X12_landsBy hA.1 rfl rfl rfl (Nat.le_of_ble_eq_true rfl) (by omega) (c_landsBy s e_s aim e_aim j rfl age e_age (mN (A 1 26)) hB.2.2.2.2.2.2.1.1 ⟨_, _, _, hA⟩ hB (by omega) (by omega) (by omega) (by omega) (by omega)) (fun M hM => ?_)
      obtain ⟨u, v, w, hA⟩ := hM
      refine aj.istore (lv' := [(12, .int (nI (mLand sl (A 1 (13 + s)) age (mN (A 1 26)) aim j))), (11, .int (nI j)), (9, .long x), (8, .int (nI t)), (7, .int (zb (op))), (6, .int x_aim), (0, .ref b), (1, .int x_s), (2, .int x_lf), (3, .int x_age), (4, .int x_mi), (5, .int x_hu)]) dX12_roundBy_70 (Nat.le_of_ble_eq_true rfl) rfl ?_
      refine aj.lload dX12_roundBy_72 rfl ?_
      refine aj.aload_n dX12_roundBy_74 rfl ?_
      refine aj.iload dX12_roundBy_75 rfl ?_
      refine aj.iload dX12_roundBy_77 rfl ?_
      refine aj.callV1 (d' := 1) (As := [.int (nI (mLand sl (A 1 (13 + s)) age (mN (A 1 26)) aim j)), .int (zb (op))]) (rest := [.long x]) dX12_roundBy_79 v_X12_254 li_X12_scoresAt hA.1 rfl rfl rfl (Nat.le_of_ble_eq_true rfl) (by omega) (c_scoresAt (nI (mLand sl (A 1 (13 + s)) age (mN (A 1 26)) aim j)) (op) ⟨_, _, _, hA⟩) (fun M hM => ?_)
      obtain ⟨u, v, w, hA⟩ := hM
      refine aj.i2l dX12_roundBy_82 ?_
      refine aj.ladd dX12_roundBy_83 ?_
      refine aj.lstore (lv' := [(9, .long (x + (Int32.toInt64 (mScore (A 1) (nI (mLand sl (A 1 (13 + s)) age (mN (A 1 26)) aim j)) (op))))), (12, .int (nI (mLand sl (A 1 (13 + s)) age (mN (A 1 26)) aim j))), (11, .int (nI j)), (8, .int (nI t)), (7, .int (zb (op))), (6, .int x_aim), (0, .ref b), (1, .int x_s), (2, .int x_lf), (3, .int x_age), (4, .int x_mi), (5, .int x_hu)]) dX12_roundBy_84 (Nat.le_of_ble_eq_true rfl) rfl ?_
      refine aj.iload dX12_roundBy_86 rfl ?_
      refine aj.iload dX12_roundBy_88 rfl ?_
      refine aj.if_eqB (tgt := 106) dX12_roundBy_90 rfl (fun c90 => ?_) (fun c90 => ?_)
      · refine aj.iconst (v := 0) dX12_roundBy_106 rfl ?_
        refine aj.iaddN (a := t) (b := 0) dX12_roundBy_107 rfl rfl ?_
        refine aj.istore (lv' := [(8, .int (nI (t + 0))), (9, .long (x + (Int32.toInt64 (mScore (A 1) (nI (mLand sl (A 1 (13 + s)) age (mN (A 1 26)) aim j)) (op))))), (12, .int (nI (mLand sl (A 1 (13 + s)) age (mN (A 1 26)) aim j))), (11, .int (nI j)), (7, .int (zb (op))), (6, .int x_aim), (0, .ref b), (1, .int x_s), (2, .int x_lf), (3, .int x_age), (4, .int x_mi), (5, .int x_hu)]) dX12_roundBy_108 (Nat.le_of_ble_eq_true rfl) rfl ?_
        refine aj.iincN (a := j) (c := 1) (lv' := [(11, .int (nI (j + 1))), (8, .int (nI (t + 0))), (9, .long (x + (Int32.toInt64 (mScore (A 1) (nI (mLand sl (A 1 (13 + s)) age (mN (A 1 26)) aim j)) (op))))), (12, .int (nI (mLand sl (A 1 (13 + s)) age (mN (A 1 26)) aim j))), (7, .int (zb (op))), (6, .int x_aim), (0, .ref b), (1, .int x_s), (2, .int x_lf), (3, .int x_age), (4, .int x_mi), (5, .int x_hu)]) dX12_roundBy_110 rfl (Nat.le_of_ble_eq_true rfl) rfl rfl rfl ?_
        refine aj.goto (tgt := 46) dX12_roundBy_113 rfl ?_
        refine aj.pick [0, 2, 1, 4, 5, 6, 7, 8, 9, 10, 11] rfl ?_
        exact ih (j + 1) _ _ M (by omega) (by rw [hx, lI_i, lI_add]; rfl) (by rw [ht, zcnt_s, if_neg (fun z => c90 z.1)]) ⟨_, _, _, hA⟩
      · refine aj.aload_n dX12_roundBy_93 rfl ?_
        refine aj.iload dX12_roundBy_94 rfl ?_
        refine aj.callV1 (d' := 0) (As := [.int (nI (mLand sl (A 1 (13 + s)) age (mN (A 1 26)) aim j))]) (rest := [.int (nI t)]) dX12_roundBy_96 v_X12_233 li_X12_farOf hA.1 rfl rfl rfl (Nat.le_of_ble_eq_true rfl) (by omega) (c_farOf (nI (mLand sl (A 1 (13 + s)) age (mN (A 1 26)) aim j)) ⟨_, _, _, hA⟩) (fun M hM => ?_)
        obtain ⟨u, v, w, hA⟩ := hM
        refine aj.if_ne (tgt := 106) dX12_roundBy_99 rfl (fun c99 => ?_) (fun c99 => ?_)
        · refine aj.iconst (v := 0) dX12_roundBy_106 rfl ?_
          refine aj.iaddN (a := t) (b := 0) dX12_roundBy_107 rfl rfl ?_
          refine aj.istore (lv' := [(8, .int (nI (t + 0))), (9, .long (x + (Int32.toInt64 (mScore (A 1) (nI (mLand sl (A 1 (13 + s)) age (mN (A 1 26)) aim j)) (op))))), (12, .int (nI (mLand sl (A 1 (13 + s)) age (mN (A 1 26)) aim j))), (11, .int (nI j)), (7, .int (zb (op))), (6, .int x_aim), (0, .ref b), (1, .int x_s), (2, .int x_lf), (3, .int x_age), (4, .int x_mi), (5, .int x_hu)]) dX12_roundBy_108 (Nat.le_of_ble_eq_true rfl) rfl ?_
          refine aj.iincN (a := j) (c := 1) (lv' := [(11, .int (nI (j + 1))), (8, .int (nI (t + 0))), (9, .long (x + (Int32.toInt64 (mScore (A 1) (nI (mLand sl (A 1 (13 + s)) age (mN (A 1 26)) aim j)) (op))))), (12, .int (nI (mLand sl (A 1 (13 + s)) age (mN (A 1 26)) aim j))), (7, .int (zb (op))), (6, .int x_aim), (0, .ref b), (1, .int x_s), (2, .int x_lf), (3, .int x_age), (4, .int x_mi), (5, .int x_hu)]) dX12_roundBy_110 rfl (Nat.le_of_ble_eq_true rfl) rfl rfl rfl ?_
          refine aj.goto (tgt := 46) dX12_roundBy_113 rfl ?_
          refine aj.pick [0, 2, 1, 4, 5, 6, 7, 8, 9, 10, 11] rfl ?_
          exact ih (j + 1) _ _ M (by omega) (by rw [hx, lI_i, lI_add]; rfl) (by rw [ht, zcnt_s, if_neg (fun z => c99 z.2)]) ⟨_, _, _, hA⟩
        · refine aj.iconst (v := 1) dX12_roundBy_102 rfl ?_
          refine aj.goto (tgt := 107) dX12_roundBy_103 rfl ?_
          refine aj.iaddN (a := t) (b := 1) dX12_roundBy_107 rfl rfl ?_
          refine aj.istore (lv' := [(8, .int (nI (t + 1))), (9, .long (x + (Int32.toInt64 (mScore (A 1) (nI (mLand sl (A 1 (13 + s)) age (mN (A 1 26)) aim j)) (op))))), (12, .int (nI (mLand sl (A 1 (13 + s)) age (mN (A 1 26)) aim j))), (11, .int (nI j)), (7, .int (zb (op))), (6, .int x_aim), (0, .ref b), (1, .int x_s), (2, .int x_lf), (3, .int x_age), (4, .int x_mi), (5, .int x_hu)]) dX12_roundBy_108 (Nat.le_of_ble_eq_true rfl) rfl ?_
          refine aj.iincN (a := j) (c := 1) (lv' := [(11, .int (nI (j + 1))), (8, .int (nI (t + 1))), (9, .long (x + (Int32.toInt64 (mScore (A 1) (nI (mLand sl (A 1 (13 + s)) age (mN (A 1 26)) aim j)) (op))))), (12, .int (nI (mLand sl (A 1 (13 + s)) age (mN (A 1 26)) aim j))), (7, .int (zb (op))), (6, .int x_aim), (0, .ref b), (1, .int x_s), (2, .int x_lf), (3, .int x_age), (4, .int x_mi), (5, .int x_hu)]) dX12_roundBy_110 rfl (Nat.le_of_ble_eq_true rfl) rfl rfl rfl ?_
          refine aj.goto (tgt := 46) dX12_roundBy_113 rfl ?_
          refine aj.pick [0, 2, 1, 4, 5, 6, 7, 8, 9, 10, 11] rfl ?_
          exact ih (j + 1) _ _ M (by omega) (by rw [hx, lI_i, lI_add]; rfl) (by rw [ht, zcnt_s, if_pos ⟨c90, c99⟩]) ⟨_, _, _, hA⟩
theorem roundBy_end {G : zG} {l : Launch} {b : Nat} {M0 : zM} {I : Nat → Int32} {A : Nat → Nat → Int32} {L : Nat → Nat → Int64} {d : Nat} (hd : 3 ≤ d) (s : Nat) {x_s : Int32} (e_s : x_s = nI s) (k : Nat) (aim : Nat) {x_aim : Int32} (e_aim : x_aim = nI aim) (age mi hu : Nat) (V : Nat → Nat → Nat → Prop) (R : Nat → Nat → Nat → Int) (K : (Nat → Int32) → (Nat → Int64) → Prop) {sl ol : Option (List Nat)} {T : Nat} (hB : mOK (A 1) sl ol T) (hs : s < 4) (haim : aim ≤ 21) (hage : age < 2 ^ 20) (hmi : mi < 2 ^ 29) (hhu : hu < 2 ^ 29) (hk4 : k ≤ 4) (hv0 : V age (mi + 1) hu) (hv1 : V (age + 1) (mi + 1) hu) (hv2 : V (age + 1) (mi + 1) (hu + 1)) (hrec : ∀ (age mi hu : Nat) (kn : Nat → Int32) (wo : Nat → Int64) (M : zM), V age mi hu → K kn wo → mW b M0 M I (va_up A 26 kn) (va_up L 25 wo) → am G l kX12_roundOf d [.ref b, .int x_s, .int (nI k), .int (nI age), .int (nI mi), .int (nI hu)] M 0 0 (zr (.long (lI (R age mi hu))) (fun M' => ∃ (kn : Nat → Int32) (wo : Nat → Int64), K kn wo ∧ mW b M0 M' I (va_up A 26 kn) (va_up L 25 wo)))) (h21 : aim ≠ 21) (kn : Nat → Int32) (wo : Nat → Int64) (hK : K kn wo) (M : zM) (hM : mW b M0 M I (va_up A 26 kn) (va_up L 25 wo)) : aj G l kX12_roundBy (d + 1) 116 [(9, .long (lI (isum (fun lot => (mScore (A 1) (nI (mLand sl (A 1 (13 + s)) age (mN (A 1 26)) aim lot)) (mOpen ol (mN (A 1 26)) mi hu = true)).toInt) 10))), (8, .int (nI (zcnt (fun lot => mOpen ol (mN (A 1 26)) mi hu = true ∧ mFar (A 1) (nI (mLand sl (A 1 (13 + s)) age (mN (A 1 26)) aim lot)) = 0) 10))), (7, .int (zb (mOpen ol (mN (A 1 26)) mi hu = true))), (6, .int x_aim), (0, .ref b), (1, .int x_s), (2, .int (nI (k + 1))), (3, .int (nI age)), (4, .int (nI mi)), (5, .int (nI hu))] [] M 0 0 (zr (.long (lI (mRB (A 1) sl ol R k s age mi hu aim))) (fun M' => ∃ (kn : Nat → Int32) (wo : Nat → Int64), K kn wo ∧ mW b M0 M' I (va_up A 26 kn) (va_up L 25 wo))) := by
  obtain ⟨u, v, w, hA⟩ := hM
  have htl := zcnt_le (fun lot => mOpen ol (mN (A 1 26)) mi hu = true ∧ mFar (A 1) (nI (mLand sl (A 1 (13 + s)) age (mN (A 1 26)) aim lot)) = 0) 10
  have e10 : lN (10 ^ k) = lI ((10 : Int) ^ k) := by rw [lI_N (Nat.lt_of_le_of_lt (Nat.pow_le_pow_right (by decide) hk4) (by decide)), Int.natCast_pow]; rfl
  refine aj.lload dX12_roundBy_116 rfl ?_
  refine aj.iload_n dX12_roundBy_118 rfl ?_
  refine aj.iconst (v := 1) dX12_roundBy_119 rfl ?_
  refine aj.isubN (a := k + 1) (b := 1) dX12_roundBy_120 rfl rfl (by omega) ?_
  refine aj.callS1 (d' := 0) (As := [.int (nI ((k + 1) - 1))]) (rest := [.long (lI (isum (fun lot => (mScore (A 1) (nI (mLand sl (A 1 (13 + s)) age (mN (A 1 26)) aim lot)) (mOpen ol (mN (A 1 26)) mi hu = true)).toInt) 10))]) dX12_roundBy_121 v_X12_348 w1724 rfl rfl (Nat.le_of_ble_eq_true rfl) (by omega) (c_wholeOf _ ((k + 1) - 1) rfl (by omega)) (fun M hM => ?_)
  subst hM
  refine aj.lmul dX12_roundBy_124 ?_
  refine aj.lstore (lv' := [(9, .long ((lI (isum (fun lot => (mScore (A 1) (nI (mLand sl (A 1 (13 + s)) age (mN (A 1 26)) aim lot)) (mOpen ol (mN (A 1 26)) mi hu = true)).toInt) 10)) * (lN (10 ^ ((k + 1) - 1))))), (8, .int (nI (zcnt (fun lot => mOpen ol (mN (A 1 26)) mi hu = true ∧ mFar (A 1) (nI (mLand sl (A 1 (13 + s)) age (mN (A 1 26)) aim lot)) = 0) 10))), (7, .int (zb (mOpen ol (mN (A 1 26)) mi hu = true))), (6, .int x_aim), (0, .ref b), (1, .int x_s), (2, .int (nI (k + 1))), (3, .int (nI age)), (4, .int (nI mi)), (5, .int (nI hu))]) dX12_roundBy_125 (Nat.le_of_ble_eq_true rfl) rfl ?_
  refine aj.iload dX12_roundBy_127 rfl ?_
  refine aj.bipush (v := 10) dX12_roundBy_129 rfl ?_
  refine aj.icmp_geN (a := zcnt (fun lot => mOpen ol (mN (A 1 26)) mi hu = true ∧ mFar (A 1) (nI (mLand sl (A 1 (13 + s)) age (mN (A 1 26)) aim lot)) = 0) 10) (b := 10) (tgt := 163) dX12_roundBy_131 rfl rfl (by omega) (by omega) rfl (fun c131 => ?_) (fun c131 => ?_)
  · refine aj.iload dX12_roundBy_163 rfl ?_
    refine aj.if_leN (a := zcnt (fun lot => mOpen ol (mN (A 1 26)) mi hu = true ∧ mFar (A 1) (nI (mLand sl (A 1 (13 + s)) age (mN (A 1 26)) aim lot)) = 0) 10) (tgt := 196) dX12_roundBy_165 rfl (by omega) rfl (fun c165 => ?_) (fun c165 => ?_)
    · refine aj.lload dX12_roundBy_196 rfl ?_
      refine aj.lret rfl dX12_roundBy_198 ⟨?_, kn, wo, hK, u, v, w, hA⟩
      show _ = some (Value.long (lI (mRB (A 1) sl ol R k s age mi hu aim)))
      unfold mRB
      rw [if_neg h21]
      generalize zcnt (fun lot => mOpen ol (mN (A 1 26)) mi hu = true ∧ mFar (A 1) (nI (mLand sl (A 1 (13 + s)) age (mN (A 1 26)) aim lot)) = 0) 10 = t at *
      generalize isum _ 10 = S at *
      exact absurd c131 (by omega)
    · refine aj.lload dX12_roundBy_168 rfl ?_
      refine aj.iload dX12_roundBy_170 rfl ?_
      refine aj.i2lN (a := zcnt (fun lot => mOpen ol (mN (A 1 26)) mi hu = true ∧ mFar (A 1) (nI (mLand sl (A 1 (13 + s)) age (mN (A 1 26)) aim lot)) = 0) 10) dX12_roundBy_172 rfl (by omega) ?_
      refine aj.aload_n dX12_roundBy_173 rfl ?_
      refine aj.iload_n dX12_roundBy_174 rfl ?_
      refine aj.iload_n dX12_roundBy_175 rfl ?_
      refine aj.iconst (v := 1) dX12_roundBy_176 rfl ?_
      refine aj.isubN (a := k + 1) (b := 1) dX12_roundBy_177 rfl rfl (by omega) ?_
      refine aj.iload_n dX12_roundBy_178 rfl ?_
      refine aj.iconst (v := 1) dX12_roundBy_179 rfl ?_
      refine aj.iaddN (a := age) (b := 1) dX12_roundBy_180 rfl rfl ?_
      refine aj.iload dX12_roundBy_181 rfl ?_
      refine aj.iconst (v := 1) dX12_roundBy_183 rfl ?_
      refine aj.iaddN (a := mi) (b := 1) dX12_roundBy_184 rfl rfl ?_
      refine aj.iload dX12_roundBy_185 rfl ?_
      refine aj.iconst (v := 1) dX12_roundBy_187 rfl ?_
      refine aj.iaddN (a := hu) (b := 1) dX12_roundBy_188 rfl rfl ?_
      refine aj.callV1 (d' := d) (As := [.int x_s, .int (nI ((k + 1) - 1)), .int (nI (age + 1)), .int (nI (mi + 1)), .int (nI (hu + 1))]) (rest := [.long (lN (zcnt (fun lot => mOpen ol (mN (A 1 26)) mi hu = true ∧ mFar (A 1) (nI (mLand sl (A 1 (13 + s)) age (mN (A 1 26)) aim lot)) = 0) 10)), .long ((lI (isum (fun lot => (mScore (A 1) (nI (mLand sl (A 1 (13 + s)) age (mN (A 1 26)) aim lot)) (mOpen ol (mN (A 1 26)) mi hu = true)).toInt) 10)) * (lN (10 ^ ((k + 1) - 1))))]) dX12_roundBy_189 v_X12_356 li_X12_roundOf hA.1 rfl rfl rfl (Nat.le_of_ble_eq_true rfl) (by omega) (hrec (age + 1) (mi + 1) (hu + 1) kn wo M (by assumption) hK ⟨_, _, _, hA⟩) (fun M hM => ?_)
      obtain ⟨kn, wo, hK, u, v, w, hA⟩ := hM
      refine aj.lmul dX12_roundBy_192 ?_
      refine aj.ladd dX12_roundBy_193 ?_
      refine aj.lstore (lv' := [(9, .long (((lI (isum (fun lot => (mScore (A 1) (nI (mLand sl (A 1 (13 + s)) age (mN (A 1 26)) aim lot)) (mOpen ol (mN (A 1 26)) mi hu = true)).toInt) 10)) * (lN (10 ^ ((k + 1) - 1)))) + ((lN (zcnt (fun lot => mOpen ol (mN (A 1 26)) mi hu = true ∧ mFar (A 1) (nI (mLand sl (A 1 (13 + s)) age (mN (A 1 26)) aim lot)) = 0) 10)) * (lI (R (age + 1) (mi + 1) (hu + 1)))))), (8, .int (nI (zcnt (fun lot => mOpen ol (mN (A 1 26)) mi hu = true ∧ mFar (A 1) (nI (mLand sl (A 1 (13 + s)) age (mN (A 1 26)) aim lot)) = 0) 10))), (7, .int (zb (mOpen ol (mN (A 1 26)) mi hu = true))), (6, .int x_aim), (0, .ref b), (1, .int x_s), (2, .int (nI (k + 1))), (3, .int (nI age)), (4, .int (nI mi)), (5, .int (nI hu))]) dX12_roundBy_194 (Nat.le_of_ble_eq_true rfl) rfl ?_
      refine aj.lload dX12_roundBy_196 rfl ?_
      refine aj.lret rfl dX12_roundBy_198 ⟨?_, kn, wo, hK, u, v, w, hA⟩
      show _ = some (Value.long (lI (mRB (A 1) sl ol R k s age mi hu aim)))
      unfold mRB
      rw [if_neg h21]
      generalize zcnt (fun lot => mOpen ol (mN (A 1 26)) mi hu = true ∧ mFar (A 1) (nI (mLand sl (A 1 (13 + s)) age (mN (A 1 26)) aim lot)) = 0) 10 = t at *
      generalize isum _ 10 = S at *
      rw [show t = 10 by omega, Nat.add_sub_cancel, e10, lI_mul, lI_N (a := 10) (by omega), lI_mul, lI_add]
      congr 3
      rw [show (10 - ((10 : Nat) : Int)) = 0 from rfl, Int.zero_mul, Int.add_zero]
  · refine aj.lload dX12_roundBy_134 rfl ?_
    refine aj.bipush (v := 10) dX12_roundBy_136 rfl ?_
    refine aj.iload dX12_roundBy_138 rfl ?_
    refine aj.isubN (a := 10) (b := zcnt (fun lot => mOpen ol (mN (A 1 26)) mi hu = true ∧ mFar (A 1) (nI (mLand sl (A 1 (13 + s)) age (mN (A 1 26)) aim lot)) = 0) 10) dX12_roundBy_140 rfl rfl (by omega) ?_
    refine aj.i2lN (a := 10 - (zcnt (fun lot => mOpen ol (mN (A 1 26)) mi hu = true ∧ mFar (A 1) (nI (mLand sl (A 1 (13 + s)) age (mN (A 1 26)) aim lot)) = 0) 10)) dX12_roundBy_141 rfl (by omega) ?_
    refine aj.aload_n dX12_roundBy_142 rfl ?_
    refine aj.iload_n dX12_roundBy_143 rfl ?_
    refine aj.iload_n dX12_roundBy_144 rfl ?_
    refine aj.iconst (v := 1) dX12_roundBy_145 rfl ?_
    refine aj.isubN (a := k + 1) (b := 1) dX12_roundBy_146 rfl rfl (by omega) ?_
    refine aj.iload_n dX12_roundBy_147 rfl ?_
    refine aj.iconst (v := 1) dX12_roundBy_148 rfl ?_
    refine aj.iaddN (a := age) (b := 1) dX12_roundBy_149 rfl rfl ?_
    refine aj.iload dX12_roundBy_150 rfl ?_
    refine aj.iconst (v := 1) dX12_roundBy_152 rfl ?_
    refine aj.iaddN (a := mi) (b := 1) dX12_roundBy_153 rfl rfl ?_
    refine aj.iload dX12_roundBy_154 rfl ?_
    refine aj.callV1 (d' := d) (As := [.int x_s, .int (nI ((k + 1) - 1)), .int (nI (age + 1)), .int (nI (mi + 1)), .int (nI hu)]) (rest := [.long (lN (10 - (zcnt (fun lot => mOpen ol (mN (A 1 26)) mi hu = true ∧ mFar (A 1) (nI (mLand sl (A 1 (13 + s)) age (mN (A 1 26)) aim lot)) = 0) 10))), .long ((lI (isum (fun lot => (mScore (A 1) (nI (mLand sl (A 1 (13 + s)) age (mN (A 1 26)) aim lot)) (mOpen ol (mN (A 1 26)) mi hu = true)).toInt) 10)) * (lN (10 ^ ((k + 1) - 1))))]) dX12_roundBy_156 v_X12_356 li_X12_roundOf hA.1 rfl rfl rfl (Nat.le_of_ble_eq_true rfl) (by omega) (hrec (age + 1) (mi + 1) hu kn wo M (by assumption) hK ⟨_, _, _, hA⟩) (fun M hM => ?_)
    obtain ⟨kn, wo, hK, u, v, w, hA⟩ := hM
    refine aj.lmul dX12_roundBy_159 ?_
    refine aj.ladd dX12_roundBy_160 ?_
    refine aj.lstore (lv' := [(9, .long (((lI (isum (fun lot => (mScore (A 1) (nI (mLand sl (A 1 (13 + s)) age (mN (A 1 26)) aim lot)) (mOpen ol (mN (A 1 26)) mi hu = true)).toInt) 10)) * (lN (10 ^ ((k + 1) - 1)))) + ((lN (10 - (zcnt (fun lot => mOpen ol (mN (A 1 26)) mi hu = true ∧ mFar (A 1) (nI (mLand sl (A 1 (13 + s)) age (mN (A 1 26)) aim lot)) = 0) 10))) * (lI (R (age + 1) (mi + 1) hu))))), (8, .int (nI (zcnt (fun lot => mOpen ol (mN (A 1 26)) mi hu = true ∧ mFar (A 1) (nI (mLand sl (A 1 (13 + s)) age (mN (A 1 26)) aim lot)) = 0) 10))), (7, .int (zb (mOpen ol (mN (A 1 26)) mi hu = true))), (6, .int x_aim), (0, .ref b), (1, .int x_s), (2, .int (nI (k + 1))), (3, .int (nI age)), (4, .int (nI mi)), (5, .int (nI hu))]) dX12_roundBy_161 (Nat.le_of_ble_eq_true rfl) rfl ?_
    refine aj.iload dX12_roundBy_163 rfl ?_
    refine aj.if_leN (a := zcnt (fun lot => mOpen ol (mN (A 1 26)) mi hu = true ∧ mFar (A 1) (nI (mLand sl (A 1 (13 + s)) age (mN (A 1 26)) aim lot)) = 0) 10) (tgt := 196) dX12_roundBy_165 rfl (by omega) rfl (fun c165 => ?_) (fun c165 => ?_)
    · refine aj.lload dX12_roundBy_196 rfl ?_
      refine aj.lret rfl dX12_roundBy_198 ⟨?_, kn, wo, hK, u, v, w, hA⟩
      show _ = some (Value.long (lI (mRB (A 1) sl ol R k s age mi hu aim)))
      unfold mRB
      rw [if_neg h21]
      generalize zcnt (fun lot => mOpen ol (mN (A 1 26)) mi hu = true ∧ mFar (A 1) (nI (mLand sl (A 1 (13 + s)) age (mN (A 1 26)) aim lot)) = 0) 10 = t at *
      generalize isum _ 10 = S at *
      rw [show t = 0 by omega, Nat.add_sub_cancel, e10, lI_mul, lI_N (a := 10 - 0) (by omega), lI_mul, lI_add]
      congr 3
      rw [show ((0 : Nat) : Int) = 0 from rfl, Int.zero_mul, Int.add_zero]
      rfl
    · refine aj.lload dX12_roundBy_168 rfl ?_
      refine aj.iload dX12_roundBy_170 rfl ?_
      refine aj.i2lN (a := zcnt (fun lot => mOpen ol (mN (A 1 26)) mi hu = true ∧ mFar (A 1) (nI (mLand sl (A 1 (13 + s)) age (mN (A 1 26)) aim lot)) = 0) 10) dX12_roundBy_172 rfl (by omega) ?_
      refine aj.aload_n dX12_roundBy_173 rfl ?_
      refine aj.iload_n dX12_roundBy_174 rfl ?_
      refine aj.iload_n dX12_roundBy_175 rfl ?_
      refine aj.iconst (v := 1) dX12_roundBy_176 rfl ?_
      refine aj.isubN (a := k + 1) (b := 1) dX12_roundBy_177 rfl rfl (by omega) ?_
      refine aj.iload_n dX12_roundBy_178 rfl ?_
      refine aj.iconst (v := 1) dX12_roundBy_179 rfl ?_
      refine aj.iaddN (a := age) (b := 1) dX12_roundBy_180 rfl rfl ?_
      refine aj.iload dX12_roundBy_181 rfl ?_
      refine aj.iconst (v := 1) dX12_roundBy_183 rfl ?_
      refine aj.iaddN (a := mi) (b := 1) dX12_roundBy_184 rfl rfl ?_
      refine aj.iload dX12_roundBy_185 rfl ?_
      refine aj.iconst (v := 1) dX12_roundBy_187 rfl ?_
      refine aj.iaddN (a := hu) (b := 1) dX12_roundBy_188 rfl rfl ?_
      refine aj.callV1 (d' := d) (As := [.int x_s, .int (nI ((k + 1) - 1)), .int (nI (age + 1)), .int (nI (mi + 1)), .int (nI (hu + 1))]) (rest := [.long (lN (zcnt (fun lot => mOpen ol (mN (A 1 26)) mi hu = true ∧ mFar (A 1) (nI (mLand sl (A 1 (13 + s)) age (mN (A 1 26)) aim lot)) = 0) 10)), .long (((lI (isum (fun lot => (mScore (A 1) (nI (mLand sl (A 1 (13 + s)) age (mN (A 1 26)) aim lot)) (mOpen ol (mN (A 1 26)) mi hu = true)).toInt) 10)) * (lN (10 ^ ((k + 1) - 1)))) + ((lN (10 - (zcnt (fun lot => mOpen ol (mN (A 1 26)) mi hu = true ∧ mFar (A 1) (nI (mLand sl (A 1 (13 + s)) age (mN (A 1 26)) aim lot)) = 0) 10))) * (lI (R (age + 1) (mi + 1) hu))))]) dX12_roundBy_189 v_X12_356 li_X12_roundOf hA.1 rfl rfl rfl (Nat.le_of_ble_eq_true rfl) (by omega) (hrec (age + 1) (mi + 1) (hu + 1) kn wo M (by assumption) hK ⟨_, _, _, hA⟩) (fun M hM => ?_)
      obtain ⟨kn, wo, hK, u, v, w, hA⟩ := hM
      refine aj.lmul dX12_roundBy_192 ?_
      refine aj.ladd dX12_roundBy_193 ?_
      refine aj.lstore (lv' := [(9, .long ((((lI (isum (fun lot => (mScore (A 1) (nI (mLand sl (A 1 (13 + s)) age (mN (A 1 26)) aim lot)) (mOpen ol (mN (A 1 26)) mi hu = true)).toInt) 10)) * (lN (10 ^ ((k + 1) - 1)))) + ((lN (10 - (zcnt (fun lot => mOpen ol (mN (A 1 26)) mi hu = true ∧ mFar (A 1) (nI (mLand sl (A 1 (13 + s)) age (mN (A 1 26)) aim lot)) = 0) 10))) * (lI (R (age + 1) (mi + 1) hu)))) + ((lN (zcnt (fun lot => mOpen ol (mN (A 1 26)) mi hu = true ∧ mFar (A 1) (nI (mLand sl (A 1 (13 + s)) age (mN (A 1 26)) aim lot)) = 0) 10)) * (lI (R (age + 1) (mi + 1) (hu + 1)))))), (8, .int (nI (zcnt (fun lot => mOpen ol (mN (A 1 26)) mi hu = true ∧ mFar (A 1) (nI (mLand sl (A 1 (13 + s)) age (mN (A 1 26)) aim lot)) = 0) 10))), (7, .int (zb (mOpen ol (mN (A 1 26)) mi hu = true))), (6, .int x_aim), (0, .ref b), (1, .int x_s), (2, .int (nI (k + 1))), (3, .int (nI age)), (4, .int (nI mi)), (5, .int (nI hu))]) dX12_roundBy_194 (Nat.le_of_ble_eq_true rfl) rfl ?_
      refine aj.lload dX12_roundBy_196 rfl ?_
      refine aj.lret rfl dX12_roundBy_198 ⟨?_, kn, wo, hK, u, v, w, hA⟩
      show _ = some (Value.long (lI (mRB (A 1) sl ol R k s age mi hu aim)))
      unfold mRB
      rw [if_neg h21]
      generalize zcnt (fun lot => mOpen ol (mN (A 1 26)) mi hu = true ∧ mFar (A 1) (nI (mLand sl (A 1 (13 + s)) age (mN (A 1 26)) aim lot)) = 0) 10 = t at *
      generalize isum _ 10 = S at *
      rw [Nat.add_sub_cancel, e10, lI_mul, lI_N (a := 10 - t) (by omega), lI_mul, lI_add, lI_N (a := t) (by omega), lI_mul, lI_add]
      congr 3
      rw [show ((10 - t : Nat) : Int) = 10 - (t : Int) by omega]
theorem c_roundBy {G : zG} {l : Launch} {b : Nat} {M0 : zM} {I : Nat → Int32} {A : Nat → Nat → Int32} {L : Nat → Nat → Int64} {d : Nat} (hd : 3 ≤ d) (s : Nat) {x_s : Int32} (e_s : x_s = nI s) (k : Nat) (aim : Nat) {x_aim : Int32} (e_aim : x_aim = nI aim) (age mi hu : Nat) (V : Nat → Nat → Nat → Prop) (R : Nat → Nat → Nat → Int) (K : (Nat → Int32) → (Nat → Int64) → Prop) {sl ol : Option (List Nat)} {T : Nat} (hB : mOK (A 1) sl ol T) (hs : s < 4) (haim : aim ≤ 21) (hage : age < 2 ^ 20) (hmi : mi < 2 ^ 29) (hhu : hu < 2 ^ 29) (hk4 : k ≤ 4) (hv0 : V age (mi + 1) hu) (hv1 : V (age + 1) (mi + 1) hu) (hv2 : V (age + 1) (mi + 1) (hu + 1)) (hrec : ∀ (age mi hu : Nat) (kn : Nat → Int32) (wo : Nat → Int64) (M : zM), V age mi hu → K kn wo → mW b M0 M I (va_up A 26 kn) (va_up L 25 wo) → am G l kX12_roundOf d [.ref b, .int x_s, .int (nI k), .int (nI age), .int (nI mi), .int (nI hu)] M 0 0 (zr (.long (lI (R age mi hu))) (fun M' => ∃ (kn : Nat → Int32) (wo : Nat → Int64), K kn wo ∧ mW b M0 M' I (va_up A 26 kn) (va_up L 25 wo)))) (kn : Nat → Int32) (wo : Nat → Int64) (hK : K kn wo) (M : zM) (hM : mW b M0 M I (va_up A 26 kn) (va_up L 25 wo)) : am G l kX12_roundBy (d + 1) [.ref b, .int x_s, .int (nI (k + 1)), .int (nI age), .int (nI mi), .int (nI hu), .int x_aim] M 0 0 (zr (.long (lI (mRB (A 1) sl ol R k s age mi hu aim))) (fun M' => ∃ (kn : Nat → Int32) (wo : Nat → Int64), K kn wo ∧ mW b M0 M' I (va_up A 26 kn) (va_up L 25 wo))) := by
  obtain ⟨u, v, w, hA⟩ := hM
  have hT := hB.2.2.2.2.2.2.2.2.1
  have hN6 := hB.2.2.1.2
  have hN25 := hB.2.2.2.2.2.1.2
  have hN26 := hB.2.2.2.2.2.2.1.2
  have hN27 := hB.2.2.2.2.2.2.2.1.2
  have hN1 := hB.1.1.2
  have hN2 := hB.1.2.1.2
  refine am.of (by decide) (Nat.le_of_ble_eq_true rfl) ?_
  refine aj.iload dX12_roundBy_0 rfl ?_
  refine aj.bipush (v := 21) dX12_roundBy_2 rfl ?_
  refine aj.icmp_neN (a := aim) (b := 21) (tgt := 27) dX12_roundBy_4 e_aim rfl (by omega) (by omega) rfl (fun c4 => ?_) (fun c4 => ?_)
  · refine aj.aload_n dX12_roundBy_27 rfl ?_
    refine aj.iload dX12_roundBy_28 rfl ?_
    refine aj.iload dX12_roundBy_30 rfl ?_
    refine aj.callV1 (d' := 2) (As := [.int (nI mi), .int (nI hu)]) (rest := []) dX12_roundBy_32 v_X12_229 li_X12_isOpen hA.1 rfl rfl rfl (Nat.le_of_ble_eq_true rfl) (by omega) (c_isOpen mi rfl hu rfl ⟨_, _, _, hA⟩ hB (by omega) (by omega)) (fun M hM => ?_)
    obtain ⟨u, v, w, hA⟩ := hM
    refine aj.istore (lv' := [(7, .int (zb (mOpen ol (mN (A 1 26)) mi hu = true))), (0, .ref b), (1, .int x_s), (2, .int (nI (k + 1))), (3, .int (nI age)), (4, .int (nI mi)), (5, .int (nI hu)), (6, .int x_aim)]) dX12_roundBy_35 (Nat.le_of_ble_eq_true rfl) rfl ?_
    refine aj.iconst (v := 0) dX12_roundBy_37 rfl ?_
    refine aj.istore (lv' := [(8, .int 0), (7, .int (zb (mOpen ol (mN (A 1 26)) mi hu = true))), (0, .ref b), (1, .int x_s), (2, .int (nI (k + 1))), (3, .int (nI age)), (4, .int (nI mi)), (5, .int (nI hu)), (6, .int x_aim)]) dX12_roundBy_38 (Nat.le_of_ble_eq_true rfl) rfl ?_
    refine aj.lconst (v := 0) dX12_roundBy_40 rfl ?_
    refine aj.lstore (lv' := [(9, .long 0), (8, .int 0), (7, .int (zb (mOpen ol (mN (A 1 26)) mi hu = true))), (0, .ref b), (1, .int x_s), (2, .int (nI (k + 1))), (3, .int (nI age)), (4, .int (nI mi)), (5, .int (nI hu)), (6, .int x_aim)]) dX12_roundBy_41 (Nat.le_of_ble_eq_true rfl) rfl ?_
    refine aj.iconst (v := 0) dX12_roundBy_43 rfl ?_
    refine aj.istore (lv' := [(11, .int 0), (9, .long 0), (8, .int 0), (7, .int (zb (mOpen ol (mN (A 1 26)) mi hu = true))), (0, .ref b), (1, .int x_s), (2, .int (nI (k + 1))), (3, .int (nI age)), (4, .int (nI mi)), (5, .int (nI hu)), (6, .int x_aim)]) dX12_roundBy_44 (Nat.le_of_ble_eq_true rfl) rfl ?_
    refine aj.pick [0, 1, 2, 3, 10, 4, 5, 6, 7, 8, 9] rfl ?_
    exact roundBy_loop (d := d + 1) (by omega) s e_s (k + 1) rfl age rfl mi rfl hu rfl aim e_aim (mOpen ol (mN (A 1 26)) mi hu = true) kn wo hB hs (by omega) hage (fun M hM => roundBy_end hd s e_s k aim e_aim age mi hu V R K hB hs haim hage hmi hhu hk4 hv0 hv1 hv2 hrec c4 kn wo hK M hM) 10 0 0 0 M (by omega) rfl rfl ⟨_, _, _, hA⟩
  · refine aj.ldc2 dX12_roundBy_7 w1603 ?_
    refine aj.aload_n dX12_roundBy_10 rfl ?_
    refine aj.iload_n dX12_roundBy_11 rfl ?_
    refine aj.iload_n dX12_roundBy_12 rfl ?_
    refine aj.iconst (v := 1) dX12_roundBy_13 rfl ?_
    refine aj.isubN (a := k + 1) (b := 1) dX12_roundBy_14 rfl rfl (by omega) ?_
    refine aj.iload_n dX12_roundBy_15 rfl ?_
    refine aj.iload dX12_roundBy_16 rfl ?_
    refine aj.iconst (v := 1) dX12_roundBy_18 rfl ?_
    refine aj.iaddN (a := mi) (b := 1) dX12_roundBy_19 rfl rfl ?_
    refine aj.iload dX12_roundBy_20 rfl ?_
    refine aj.callV1 (d' := d) (As := [.int x_s, .int (nI ((k + 1) - 1)), .int (nI age), .int (nI (mi + 1)), .int (nI hu)]) (rest := [.long 10]) dX12_roundBy_22 v_X12_356 li_X12_roundOf hA.1 rfl rfl rfl (Nat.le_of_ble_eq_true rfl) (by omega) (hrec age (mi + 1) hu kn wo M (by assumption) hK ⟨_, _, _, hA⟩) (fun M hM => ?_)
    obtain ⟨kn, wo, hK, u, v, w, hA⟩ := hM
    refine aj.lmul dX12_roundBy_25 ?_
    refine aj.lret rfl dX12_roundBy_26 ⟨?_, kn, wo, hK, u, v, w, hA⟩
    show _ = some (Value.long (lI (mRB (A 1) sl ol R k s age mi hu aim)))
    unfold mRB
    rw [if_pos c4, show (10 : Int64) = lI 10 from rfl, lI_mul]
