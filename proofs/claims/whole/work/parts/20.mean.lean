theorem z_gcd_ne {a w : Nat} (hw : 0 < w) : 0 < Nat.gcd a w := Nat.gcd_pos_of_pos_right a hw
theorem lN_ne0 {a : Nat} (h0 : 0 < a) (h : a < 2 ^ 62) : ¬ lN a = 0 := fun q => by
  have := congrArg Int64.toInt q
  rw [pk_lT (by omega), show (0 : Int64).toInt = 0 from rfl] at this
  omega
/-- one number of a fraction in lowest terms -/
def mPart (a w : Int64) (q : Int32) : Int64 := (if q = 0 then a else w) / lN (Nat.gcd a.toInt.natAbs w.toInt.natAbs)
theorem c_part {G : zG} {l : Launch} (M : zM) (a w : Int64) (q : Int32) (h0 : 0 < w.toInt) (hw1 : w.toInt.natAbs < 2 ^ 40) (ha : a.toInt.natAbs < 9223372036854775808) : am G l kX12_part 82 [.long a, .long w, .int q] M 0 0 (zr (.long (mPart a w q)) (fun M' => M' = M)) := by
  have hw2 : w.toInt.natAbs < 9223372036854775808 := by omega
  have hg := z_gcd_ne (a := a.toInt.natAbs) (w := w.toInt.natAbs) (by omega)
  have hg2 : Nat.gcd a.toInt.natAbs w.toInt.natAbs ≤ w.toInt.natAbs := Nat.gcd_le_right _ (by omega)
  refine am.of (by decide) (Nat.le_of_ble_eq_true rfl) ?_
  refine aj.iload dX12_part_0 rfl ?_
  refine aj.if_ne (tgt := 9) dX12_part_2 rfl (fun c2 => ?_) (fun c2 => ?_)
  · refine aj.lload_n dX12_part_9 rfl ?_
    refine aj.lload_n dX12_part_10 rfl ?_
    refine aj.lload_n dX12_part_11 rfl ?_
    refine aj.callS1 (d' := 81) (As := [.long a, .long w]) (rest := [.long w]) dX12_part_12 v_X12_326 w1730 rfl rfl (Nat.le_of_ble_eq_true rfl) (Nat.le_of_ble_eq_true rfl) (c_commonOf _ 40 a w hw1 hw2 ha) (fun M hM => ?_)
    subst hM
    refine aj.ldiv dX12_part_15 (lN_ne0 hg (by omega)) ?_
    exact aj.lret rfl dX12_part_16 ⟨by unfold mPart; rw [if_neg c2], rfl⟩
  · refine aj.lload_n dX12_part_5 rfl ?_
    refine aj.goto (tgt := 10) dX12_part_6 rfl ?_
    refine aj.lload_n dX12_part_10 rfl ?_
    refine aj.lload_n dX12_part_11 rfl ?_
    refine aj.callS1 (d' := 81) (As := [.long a, .long w]) (rest := [.long a]) dX12_part_12 v_X12_326 w1730 rfl rfl (Nat.le_of_ble_eq_true rfl) (Nat.le_of_ble_eq_true rfl) (c_commonOf _ 40 a w hw1 hw2 ha) (fun M hM => ?_)
    subst hM
    refine aj.ldiv dX12_part_15 (lN_ne0 hg (by omega)) ?_
    exact aj.lret rfl dX12_part_16 ⟨by unfold mPart; rw [if_pos c2], rfl⟩
theorem wholeOf_loop {G : zG} {l : Launch} (k : Nat) (hk : k ≤ 8) (M : zM) : ∀ (n i : Nat) (acc : Int64), i + n = k → acc = lN (10 ^ i) → aj G l kX12_wholeOf 0 4 [(3, .int (nI i)), (1, .long acc), (0, .int (nI k))] [] M 0 0 (zr (.long (lN (10 ^ k))) (fun M' => M' = M)) := by
  intro n
  induction n with
  | zero =>
    intro i acc hin hacc
    refine aj.iload_n dX12_wholeOf_4 rfl ?_
    refine aj.iload_n dX12_wholeOf_5 rfl ?_
    refine aj.icmp_geN (a := i) (b := k) (tgt := 21) dX12_wholeOf_6 rfl rfl (by omega) (by omega) rfl (fun c6 => ?_) (fun c6 => ?_)
    · refine aj.lload_n dX12_wholeOf_21 rfl ?_
      exact aj.lret rfl dX12_wholeOf_22 ⟨by rw [hacc, show i = k by omega], rfl⟩
    · exact absurd c6 (by omega)
  | succ n ih =>
    intro i acc hin hacc
    refine aj.iload_n dX12_wholeOf_4 rfl ?_
    refine aj.iload_n dX12_wholeOf_5 rfl ?_
    refine aj.icmp_geN (a := i) (b := k) (tgt := 21) dX12_wholeOf_6 rfl rfl (by omega) (by omega) rfl (fun c6 => ?_) (fun c6 => ?_)
    · exact absurd c6 (by omega)
    · refine aj.lload_n dX12_wholeOf_9 rfl ?_
      refine aj.ldc2 dX12_wholeOf_10 w1603 ?_
      refine aj.lmul dX12_wholeOf_13 ?_
      refine aj.lstore_n (lv' := [(1, .long (acc * 10)), (3, .int (nI i)), (0, .int (nI k))]) dX12_wholeOf_14 (Nat.le_of_ble_eq_true rfl) rfl ?_
      refine aj.iincN (a := i) (c := 1) (lv' := [(3, .int (nI (i + 1))), (1, .long (acc * 10)), (0, .int (nI k))]) dX12_wholeOf_15 rfl (Nat.le_of_ble_eq_true rfl) rfl rfl rfl ?_
      refine aj.goto (tgt := 4) dX12_wholeOf_18 rfl ?_
      refine aj.pick [0, 1, 2] rfl ?_
      exact ih (i + 1) _ (by omega) (by rw [hacc, show (10 : Int64) = lN 10 from rfl, lN_mul, Nat.pow_succ])
theorem c_wholeOf {G : zG} {l : Launch} (M : zM) (k : Nat) {x_k : Int32} (e_k : x_k = nI k) (hk : k ≤ 8) : am G l kX12_wholeOf 0 [.int x_k] M 0 0 (zr (.long (lN (10 ^ k))) (fun M' => M' = M)) := by
  subst e_k
  refine am.of (by decide) (Nat.le_of_ble_eq_true rfl) ?_
  refine aj.lconst (v := 1) dX12_wholeOf_0 rfl ?_
  refine aj.lstore_n (lv' := [(1, .long 1), (0, .int (nI k))]) dX12_wholeOf_1 (Nat.le_of_ble_eq_true rfl) rfl ?_
  refine aj.iconst (v := 0) dX12_wholeOf_2 rfl ?_
  refine aj.istore_n (lv' := [(3, .int 0), (1, .long 1), (0, .int (nI k))]) dX12_wholeOf_3 (Nat.le_of_ble_eq_true rfl) rfl ?_
  refine aj.pick [0, 1, 2] rfl ?_
  exact wholeOf_loop k hk M k 0 1 (by omega) rfl
theorem c_common10 {G : zG} {l : Launch} (M : zM) (x : Int32) (hx : x.toInt.natAbs < 2147483648) : am G l kX12_common 9 [.int x, .int 10] M 0 0 (zr (.int (nI (Nat.gcd x.toInt.natAbs 10))) (fun M' => M' = M)) := c_common M 4 x 10 (by decide) (by decide) hx
def mMean (x q : Int32) : Int32 := (if q = 0 then x else 10) / nI (Nat.gcd x.toInt.natAbs 10)
theorem mSum_bd {B : Nat → Int32} {sl ol : Option (List Nat)} {T s aim age : Nat} (hB : mOK B sl ol T) (op : Prop) [Decidable op] : -990 ≤ (mSum B sl s age op aim 10).toInt ∧ (mSum B sl s age op aim 10).toInt ≤ 990 := by
  have h := zsum_bd (f := fun lot => mScore B (nI (mLand sl (B (13 + s)) age (mN (B 26)) aim lot)) op) (n := 10) (by decide) (fun i hi => by
    obtain ⟨q1, q2, -⟩ := mScore_bd (n := mLand sl (B (13 + s)) age (mN (B 26)) aim i) hB (mLand_le _ _ _ _ _ _) op
    exact ⟨q1, q2⟩)
  exact ⟨h.1, h.2⟩
theorem q_mean {G : zG} {l : Launch} {b : Nat} {M0 M : zM} {I : Nat → Int32} {A : Nat → Nat → Int32} {L : Nat → Nat → Int64} (s : Int32) (aim : Int32) (q : Int32) (hM : mW b M0 M I A L) {sl ol : Option (List Nat)} {T : Nat}  (hB : mOK (A 1) sl ol T) : am G l kX12_mean 10 [.ref b, .int s, .int aim, .int q] M 0 0 (zr (.int (if inR s 0 ((mN (A 1 6) : Int) - 1) ∧ inR aim 0 20 ∧ inR q 0 1 then mMean (mSum (A 1) sl (mN s) (mN (A 1 (21 + mN s))) (mOpen ol (mN (A 1 26)) (mN (A 1 27)) (mN (A 1 25)) = true) (mN aim) 10) q else -99000002)) (fun M' => mW b M0 M' I A L)) := by
  obtain ⟨u, v, w, hA⟩ := hM
  have hT := hB.2.2.2.2.2.2.2.2.1
  have hN6 := hB.2.2.1.2
  have hN25 := hB.2.2.2.2.2.1.2
  have hN26 := hB.2.2.2.2.2.2.1.2
  have hN27 := hB.2.2.2.2.2.2.2.1.2
  have hN1 := hB.1.1.2
  have hN2 := hB.1.2.1.2
  refine am.of (by decide) (Nat.le_of_ble_eq_true rfl) ?_
  refine aj.aload_n dX12_mean_0 rfl ?_
  refine aj.iconst (v := 0) dX12_mean_1 rfl ?_
  refine pM0 rfl dX12_mean_2 hA (fun M hA => ?_)
  refine aj.aload_n dX12_mean_5 rfl ?_
  refine aj.iload_n dX12_mean_6 rfl ?_
  refine aj.i2l dX12_mean_7 ?_
  refine aj.callV1 (d' := 1) (As := [.long (Int32.toInt64 s)]) (rest := []) dX12_mean_8 v_X12_236 li_X12_isShooter hA.1 rfl rfl rfl (Nat.le_of_ble_eq_true rfl) (Nat.le_of_ble_eq_true rfl) (c_isShooter s ⟨_, _, _, hA⟩ hB) (fun M hM => ?_)
  obtain ⟨u, v, w, hA⟩ := hM
  refine aj.if_eqB (tgt := 32) dX12_mean_11 rfl (fun c11 => ?_) (fun c11 => ?_)
  · refine aj.ldc dX12_mean_32 w1500 ?_
    exact aj.iret rfl dX12_mean_34 ⟨by rw [if_neg (fun z => c11 z.1)], ⟨_, _, _, hA⟩⟩
  · have h_s := inR_bdS c11 (by omega)
    have h2_s := h_s.2
    refine aj.iload_n dX12_mean_14 rfl ?_
    refine aj.i2l dX12_mean_15 ?_
    refine aj.callS1 (d' := 1) (As := [.long (Int32.toInt64 aim)]) (rest := []) dX12_mean_16 v_X12_241 w1506 rfl rfl (Nat.le_of_ble_eq_true rfl) (Nat.le_of_ble_eq_true rfl) (c_isPlaceI _ aim) (fun M hM => ?_)
    subst hM
    refine aj.if_eqB (tgt := 32) dX12_mean_19 rfl (fun c19 => ?_) (fun c19 => ?_)
    · refine aj.ldc dX12_mean_32 w1500 ?_
      exact aj.iret rfl dX12_mean_34 ⟨by rw [if_neg (fun z => c19 z.2.1)], ⟨_, _, _, hA⟩⟩
    · have h_aim := inR_bd (n := 20) c19 (by decide)
      have h2_aim := h_aim.2
      refine aj.iload_n dX12_mean_22 rfl ?_
      refine aj.i2l dX12_mean_23 ?_
      refine aj.lconst (v := 0) dX12_mean_24 rfl ?_
      refine aj.lconst (v := 1) dX12_mean_25 rfl ?_
      refine aj.callS1 (d' := 0) (As := [.long (Int32.toInt64 q), .long 0, .long 1]) (rest := []) dX12_mean_26 v_X12_142 w1380 rfl rfl (Nat.le_of_ble_eq_true rfl) (Nat.le_of_ble_eq_true rfl) (c_withinI (a := 0) (c := 1) _ q 0 1 rfl rfl) (fun M hM => ?_)
      subst hM
      refine aj.if_neB (tgt := 35) dX12_mean_29 rfl (fun c29 => ?_) (fun c29 => ?_)
      · have h_q := inR_bd (n := 1) c29 (by decide)
        have h2_q := h_q.2
        have hsm := mSum_bd (s := mN s) (aim := mN aim) (age := mN (A 1 (21 + mN s))) hB (mOpen ol (mN (A 1 26)) (mN (A 1 27)) (mN (A 1 25)) = true)
        have hsm : (mSum (A 1) sl (mN s) (mN (A 1 (21 + mN s))) (mOpen ol (mN (A 1 26)) (mN (A 1 27)) (mN (A 1 25)) = true) (mN aim) 10).toInt.natAbs < 2147483648 := by omega
        have hg := z_gcd_ne (a := (mSum (A 1) sl (mN s) (mN (A 1 (21 + mN s))) (mOpen ol (mN (A 1 26)) (mN (A 1 27)) (mN (A 1 25)) = true) (mN aim) 10).toInt.natAbs) (w := 10) (by decide)
        have hg2 : Nat.gcd (mSum (A 1) sl (mN s) (mN (A 1 (21 + mN s))) (mOpen ol (mN (A 1 26)) (mN (A 1 27)) (mN (A 1 25)) = true) (mN aim) 10).toInt.natAbs 10 ≤ 10 := Nat.gcd_le_right _ (by decide)
        have hag := (hB.2.2.2.2.1 (mN s) (by omega)).2
        refine aj.aload_n dX12_mean_35 rfl ?_
        refine aj.iload_n dX12_mean_36 rfl ?_
        refine aj.iload_n dX12_mean_37 rfl ?_
        refine aj.aload_n dX12_mean_38 rfl ?_
        refine gM1 rfl dX12_mean_39 hA ?_
        refine aj.bipush (v := 21) dX12_mean_42 rfl ?_
        refine aj.iload_n dX12_mean_44 rfl ?_
        refine aj.iaddN (a := 21) (b := mN s) dX12_mean_45 rfl h_s.1 ?_
        refine aM1N (i := 21 + (mN s)) dX12_mean_46 hA rfl (by omega) ?_
        refine aj.aload_n dX12_mean_47 rfl ?_
        refine aj.callV1 (d' := 3) (As := []) (rest := [.int (A 1 (21 + mN s)), .int aim, .int s, .ref b]) dX12_mean_48 v_X12_250 li_X12_isOpenNow hA.1 rfl rfl rfl (Nat.le_of_ble_eq_true rfl) (Nat.le_of_ble_eq_true rfl) (c_isOpenNow ⟨_, _, _, hA⟩ hB) (fun M hM => ?_)
        obtain ⟨u, v, w, hA⟩ := hM
        refine aj.callV1 (d' := 3) (As := [.int s, .int aim, .int (A 1 (21 + mN s)), .int (zb (mOpen ol (mN (A 1 26)) (mN (A 1 27)) (mN (A 1 25)) = true))]) (rest := []) dX12_mean_51 v_X12_315 li_X12_sumOf hA.1 rfl rfl rfl (Nat.le_of_ble_eq_true rfl) (Nat.le_of_ble_eq_true rfl) (c_sumOf (mN s) h_s.1 (mN aim) h_aim.1 (mN (A 1 (21 + mN s))) ((hB.2.2.2.2.1 (mN s) (by omega)).1) (mOpen ol (mN (A 1 26)) (mN (A 1 27)) (mN (A 1 25)) = true) ⟨_, _, _, hA⟩ hB (by omega) (by omega) (by omega)) (fun M hM => ?_)
        obtain ⟨u, v, w, hA⟩ := hM
        refine aj.istore (lv' := [(4, .int (mSum (A 1) sl (mN s) (mN (A 1 (21 + mN s))) (mOpen ol (mN (A 1 26)) (mN (A 1 27)) (mN (A 1 25)) = true) (mN aim) 10)), (0, .ref b), (1, .int s), (2, .int aim), (3, .int q)]) dX12_mean_54 (Nat.le_of_ble_eq_true rfl) rfl ?_
        refine aj.iload_n dX12_mean_56 rfl ?_
        refine aj.if_ne (tgt := 65) dX12_mean_57 rfl (fun c57 => ?_) (fun c57 => ?_)
        · refine aj.bipush (v := 10) dX12_mean_65 rfl ?_
          refine aj.iload dX12_mean_67 rfl ?_
          refine aj.bipush (v := 10) dX12_mean_69 rfl ?_
          refine aj.callS1 (d' := 9) (As := [.int (mSum (A 1) sl (mN s) (mN (A 1 (21 + mN s))) (mOpen ol (mN (A 1 26)) (mN (A 1 27)) (mN (A 1 25)) = true) (mN aim) 10), .int 10]) (rest := [.int 10]) dX12_mean_71 v_X12_323 w1671 rfl rfl (Nat.le_of_ble_eq_true rfl) (Nat.le_of_ble_eq_true rfl) (c_common10 _ (mSum (A 1) sl (mN s) (mN (A 1 (21 + mN s))) (mOpen ol (mN (A 1 26)) (mN (A 1 27)) (mN (A 1 25)) = true) (mN aim) 10) hsm) (fun M hM => ?_)
          subst hM
          refine aj.idiv dX12_mean_74 (nI_ne0 hg (by omega)) ?_
          exact aj.iret rfl dX12_mean_75 ⟨by rw [if_pos ⟨c11, c19, c29⟩]; unfold mMean; rw [if_neg c57], ⟨_, _, _, hA⟩⟩
        · refine aj.iload dX12_mean_60 rfl ?_
          refine aj.goto (tgt := 67) dX12_mean_62 rfl ?_
          refine aj.iload dX12_mean_67 rfl ?_
          refine aj.bipush (v := 10) dX12_mean_69 rfl ?_
          refine aj.callS1 (d' := 9) (As := [.int (mSum (A 1) sl (mN s) (mN (A 1 (21 + mN s))) (mOpen ol (mN (A 1 26)) (mN (A 1 27)) (mN (A 1 25)) = true) (mN aim) 10), .int 10]) (rest := [.int (mSum (A 1) sl (mN s) (mN (A 1 (21 + mN s))) (mOpen ol (mN (A 1 26)) (mN (A 1 27)) (mN (A 1 25)) = true) (mN aim) 10)]) dX12_mean_71 v_X12_323 w1671 rfl rfl (Nat.le_of_ble_eq_true rfl) (Nat.le_of_ble_eq_true rfl) (c_common10 _ (mSum (A 1) sl (mN s) (mN (A 1 (21 + mN s))) (mOpen ol (mN (A 1 26)) (mN (A 1 27)) (mN (A 1 25)) = true) (mN aim) 10) hsm) (fun M hM => ?_)
          subst hM
          refine aj.idiv dX12_mean_74 (nI_ne0 hg (by omega)) ?_
          exact aj.iret rfl dX12_mean_75 ⟨by rw [if_pos ⟨c11, c19, c29⟩]; unfold mMean; rw [if_pos c57], ⟨_, _, _, hA⟩⟩
      · refine aj.ldc dX12_mean_32 w1500 ?_
        exact aj.iret rfl dX12_mean_34 ⟨by rw [if_neg (fun z => c29 z.2.2)], ⟨_, _, _, hA⟩⟩
def ziter (f : Nat → Nat) : Nat → Nat → Nat
  | 0, x => x
  | k + 1, x => f (ziter f k x)
theorem ziter_s (f : Nat → Nat) (k x : Nat) : ziter f (k + 1) x = f (ziter f k x) := rfl
/-- the aim that follows from an aim -/
abbrev mHand (B : Nat → Int32) (sl : Option (List Nat)) (s a : Nat) : Nat := if mSum B sl s (mN (B (21 + s))) True a 10 ≤ mSum B sl s (mN (B (21 + s))) False a 10 then mBest B sl s (mN (B (21 + s))) True 20 else mBest B sl s (mN (B (21 + s))) False 20
theorem mHand_le (B : Nat → Int32) (sl : Option (List Nat)) (s a : Nat) : mHand B sl s a ≤ 20 := by
  unfold mHand
  split
  · exact zmax_le _ 20
  · exact zmax_le _ 20
theorem ziter_le (B : Nat → Int32) (sl : Option (List Nat)) (s : Nat) {aim : Nat} (h : aim ≤ 20) : ∀ k, ziter (mHand B sl s) k aim ≤ 20
  | 0 => h
  | _ + 1 => mHand_le _ _ _ _
theorem expects_loop {G : zG} {l : Launch} {b : Nat} {M0 : zM} {I : Nat → Int32} {A : Nat → Nat → Int32} {L : Nat → Nat → Int64} (s : Nat) {x_s : Int32} (e_s : x_s = nI s) (dd : Nat) {x_dd : Int32} (e_dd : x_dd = nI dd) (aim : Nat) {x_aim : Int32} {sl ol : Option (List Nat)} {T : Nat} (hB : mOK (A 1) sl ol T) (hs : s < 4) (haim : aim ≤ 20) (hdd : dd ≤ 999) : ∀ (n i : Nat) (dp : Nat) (its : Nat) (xi : Int32) (M : zM), i + n = dd / 2 → xi = nI its → dp = 2 + 2 * i → its = ziter (mHand (A 1) sl s) i aim → its ≤ 20 → mW b M0 M I A L → aj G l kX12_expects 6 62 [(7, .int (nI dp)), (6, .int (nI (mBest (A 1) sl s (mN (A 1 (21 + s))) (False) 20))), (5, .int (nI (mBest (A 1) sl s (mN (A 1 (21 + s))) (True) 20))), (4, .int xi), (0, .ref b), (1, .int x_s), (3, .int x_dd)] [] M 0 0 (zr (.int (if dd % 2 = 0 then nI (ziter (mHand (A 1) sl s) (dd / 2) aim) else zb (mSum (A 1) sl s (mN (A 1 (21 + s))) True (ziter (mHand (A 1) sl s) (dd / 2) aim) 10 ≤ mSum (A 1) sl s (mN (A 1 (21 + s))) False (ziter (mHand (A 1) sl s) (dd / 2) aim) 10))) (fun M' => mW b M0 M' I A L)) := by
  have hT := hB.2.2.2.2.2.2.2.2.1
  have hN6 := hB.2.2.1.2
  have hN25 := hB.2.2.2.2.2.1.2
  have hN26 := hB.2.2.2.2.2.2.1.2
  have hN27 := hB.2.2.2.2.2.2.2.1.2
  have hN1 := hB.1.1.2
  have hN2 := hB.1.2.1.2
  have hag := (hB.2.2.2.2.1 s hs).2
  have hbO : mBest (A 1) sl s (mN (A 1 (21 + s))) (True) 20 ≤ 20 := zmax_le _ 20
  have hbS : mBest (A 1) sl s (mN (A 1 (21 + s))) (False) 20 ≤ 20 := zmax_le _ 20
  intro n
  induction n with
  | zero =>
    intro i dp its xi M hin exi hdp hits hi20 hM
    obtain ⟨u, v, w, hA⟩ := hM
    refine aj.iload dX12_expects_62 rfl ?_
    refine aj.iload_n dX12_expects_64 rfl ?_
    refine aj.icmp_gtN (a := dp) (b := dd) (tgt := 93) dX12_expects_65 rfl e_dd (by omega) (by omega) rfl (fun c65 => ?_) (fun c65 => ?_)
    · refine aj.iload_n dX12_expects_93 rfl ?_
      refine aj.iconst (v := 2) dX12_expects_94 rfl ?_
      refine aj.iremN (a := dd) (b := 2) dX12_expects_95 e_dd rfl (by omega) (by omega) (by omega) ?_
      refine aj.if_neN (a := dd % 2) (tgt := 104) dX12_expects_96 rfl (by omega) rfl (fun c96 => ?_) (fun c96 => ?_)
      · refine aj.aload_n dX12_expects_104 rfl ?_
        refine aj.iload_n dX12_expects_105 rfl ?_
        refine aj.iload dX12_expects_106 rfl ?_
        refine aj.callV1 (d' := 4) (As := [.int x_s, .int xi]) (rest := []) dX12_expects_108 v_X12_424 li_X12_isRatherOpen hA.1 rfl rfl rfl (Nat.le_of_ble_eq_true rfl) (Nat.le_of_ble_eq_true rfl) (c_isRatherOpen s e_s its exi ⟨_, _, _, hA⟩ hB (by omega) (by omega)) (fun M hM => ?_)
        obtain ⟨u, v, w, hA⟩ := hM
        refine aj.if_eqB (tgt := 118) dX12_expects_111 rfl (fun c111 => ?_) (fun c111 => ?_)
        · refine aj.iconst (v := 0) dX12_expects_118 rfl ?_
          have hit : its = ziter (mHand (A 1) sl s) (dd / 2) aim := by rw [hits, show i = dd / 2 by omega]
          exact aj.iret rfl dX12_expects_119 ⟨by rw [if_neg c96, ← hit, zb_f c111], _, _, _, hA⟩
        · refine aj.iconst (v := 1) dX12_expects_114 rfl ?_
          refine aj.goto (tgt := 119) dX12_expects_115 rfl ?_
          have hit : its = ziter (mHand (A 1) sl s) (dd / 2) aim := by rw [hits, show i = dd / 2 by omega]
          exact aj.iret rfl dX12_expects_119 ⟨by rw [if_neg c96, ← hit, zb_t c111], _, _, _, hA⟩
      · refine aj.iload dX12_expects_99 rfl ?_
        refine aj.goto (tgt := 119) dX12_expects_101 rfl ?_
        have hit : its = ziter (mHand (A 1) sl s) (dd / 2) aim := by rw [hits, show i = dd / 2 by omega]
        exact aj.iret rfl dX12_expects_119 ⟨by rw [if_pos c96, exi, hit], _, _, _, hA⟩
    · exact absurd c65 (by omega)
  | succ n ih =>
    intro i dp its xi M hin exi hdp hits hi20 hM
    obtain ⟨u, v, w, hA⟩ := hM
    refine aj.iload dX12_expects_62 rfl ?_
    refine aj.iload_n dX12_expects_64 rfl ?_
    refine aj.icmp_gtN (a := dp) (b := dd) (tgt := 93) dX12_expects_65 rfl e_dd (by omega) (by omega) rfl (fun c65 => ?_) (fun c65 => ?_)
    · exact absurd c65 (by omega)
    · refine aj.aload_n dX12_expects_68 rfl ?_
      refine aj.iload_n dX12_expects_69 rfl ?_
      refine aj.iload dX12_expects_70 rfl ?_
      refine aj.callV1 (d' := 4) (As := [.int x_s, .int xi]) (rest := []) dX12_expects_72 v_X12_424 li_X12_isRatherOpen hA.1 rfl rfl rfl (Nat.le_of_ble_eq_true rfl) (Nat.le_of_ble_eq_true rfl) (c_isRatherOpen s e_s its exi ⟨_, _, _, hA⟩ hB (by omega) (by omega)) (fun M hM => ?_)
      obtain ⟨u, v, w, hA⟩ := hM
      refine aj.if_eqB (tgt := 83) dX12_expects_75 rfl (fun c75 => ?_) (fun c75 => ?_)
      · refine aj.iload dX12_expects_83 rfl ?_
        refine aj.istore (lv' := [(4, .int (nI (mBest (A 1) sl s (mN (A 1 (21 + s))) (False) 20))), (7, .int (nI dp)), (6, .int (nI (mBest (A 1) sl s (mN (A 1 (21 + s))) (False) 20))), (5, .int (nI (mBest (A 1) sl s (mN (A 1 (21 + s))) (True) 20))), (0, .ref b), (1, .int x_s), (3, .int x_dd)]) dX12_expects_85 (Nat.le_of_ble_eq_true rfl) rfl ?_
        refine aj.iincN (a := dp) (c := 2) (lv' := [(7, .int (nI (dp + 2))), (4, .int (nI (mBest (A 1) sl s (mN (A 1 (21 + s))) (False) 20))), (6, .int (nI (mBest (A 1) sl s (mN (A 1 (21 + s))) (False) 20))), (5, .int (nI (mBest (A 1) sl s (mN (A 1 (21 + s))) (True) 20))), (0, .ref b), (1, .int x_s), (3, .int x_dd)]) dX12_expects_87 rfl (Nat.le_of_ble_eq_true rfl) rfl rfl rfl ?_
        refine aj.goto (tgt := 62) dX12_expects_90 rfl ?_
        refine aj.pick [0, 2, 3, 1, 4, 5, 6] rfl ?_
        exact ih (i + 1) _ _ _ M (by omega) rfl (by omega) (by rw [ziter_s, ← hits]; exact (if_neg c75).symm) (by omega) ⟨_, _, _, hA⟩
      · refine aj.iload dX12_expects_78 rfl ?_
        refine aj.goto (tgt := 85) dX12_expects_80 rfl ?_
        refine aj.istore (lv' := [(4, .int (nI (mBest (A 1) sl s (mN (A 1 (21 + s))) (True) 20))), (7, .int (nI dp)), (6, .int (nI (mBest (A 1) sl s (mN (A 1 (21 + s))) (False) 20))), (5, .int (nI (mBest (A 1) sl s (mN (A 1 (21 + s))) (True) 20))), (0, .ref b), (1, .int x_s), (3, .int x_dd)]) dX12_expects_85 (Nat.le_of_ble_eq_true rfl) rfl ?_
        refine aj.iincN (a := dp) (c := 2) (lv' := [(7, .int (nI (dp + 2))), (4, .int (nI (mBest (A 1) sl s (mN (A 1 (21 + s))) (True) 20))), (6, .int (nI (mBest (A 1) sl s (mN (A 1 (21 + s))) (False) 20))), (5, .int (nI (mBest (A 1) sl s (mN (A 1 (21 + s))) (True) 20))), (0, .ref b), (1, .int x_s), (3, .int x_dd)]) dX12_expects_87 rfl (Nat.le_of_ble_eq_true rfl) rfl rfl rfl ?_
        refine aj.goto (tgt := 62) dX12_expects_90 rfl ?_
        refine aj.pick [0, 2, 3, 1, 4, 5, 6] rfl ?_
        exact ih (i + 1) _ _ _ M (by omega) rfl (by omega) (by rw [ziter_s, ← hits]; exact (if_pos c75).symm) (by omega) ⟨_, _, _, hA⟩
theorem q_expects {G : zG} {l : Launch} {b : Nat} {M0 M : zM} {I : Nat → Int32} {A : Nat → Nat → Int32} {L : Nat → Nat → Int64} (s : Int32) (aim : Int32) (q : Int32) (hM : mW b M0 M I A L) {sl ol : Option (List Nat)} {T : Nat}  (hB : mOK (A 1) sl ol T) : am G l kX12_expects 6 [.ref b, .int s, .int aim, .int q] M 0 0 (zr (.int (if inR s 0 ((mN (A 1 6) : Int) - 1) ∧ inR aim 0 20 then (if inR q 0 999 then (if mN q % 2 = 0 then nI (ziter (mHand (A 1) sl (mN s)) (mN q / 2) (mN aim)) else zb (mSum (A 1) sl (mN s) (mN (A 1 (21 + mN s))) True (ziter (mHand (A 1) sl (mN s)) (mN q / 2) (mN aim)) 10 ≤ mSum (A 1) sl (mN s) (mN (A 1 (21 + mN s))) False (ziter (mHand (A 1) sl (mN s)) (mN q / 2) (mN aim)) 10)) else -3) else -2)) (fun M' => mW b M0 M' I A L)) := by
  obtain ⟨u, v, w, hA⟩ := hM
  have hT := hB.2.2.2.2.2.2.2.2.1
  have hN6 := hB.2.2.1.2
  have hN25 := hB.2.2.2.2.2.1.2
  have hN26 := hB.2.2.2.2.2.2.1.2
  have hN27 := hB.2.2.2.2.2.2.2.1.2
  have hN1 := hB.1.1.2
  have hN2 := hB.1.2.1.2
  refine am.of (by decide) (Nat.le_of_ble_eq_true rfl) ?_
  refine aj.aload_n dX12_expects_0 rfl ?_
  refine aj.iconst (v := 0) dX12_expects_1 rfl ?_
  refine pM0 rfl dX12_expects_2 hA (fun M hA => ?_)
  refine aj.aload_n dX12_expects_5 rfl ?_
  refine aj.iload_n dX12_expects_6 rfl ?_
  refine aj.i2l dX12_expects_7 ?_
  refine aj.callV1 (d' := 1) (As := [.long (Int32.toInt64 s)]) (rest := []) dX12_expects_8 v_X12_236 li_X12_isShooter hA.1 rfl rfl rfl (Nat.le_of_ble_eq_true rfl) (Nat.le_of_ble_eq_true rfl) (c_isShooter s ⟨_, _, _, hA⟩ hB) (fun M hM => ?_)
  obtain ⟨u, v, w, hA⟩ := hM
  refine aj.if_eqB (tgt := 22) dX12_expects_11 rfl (fun c11 => ?_) (fun c11 => ?_)
  · refine aj.bipush (v := (-2)) dX12_expects_22 rfl ?_
    exact aj.iret rfl dX12_expects_24 ⟨by rw [if_neg (fun z => c11 z.1)], ⟨_, _, _, hA⟩⟩
  · have h_s := inR_bdS c11 (by omega)
    have h2_s := h_s.2
    refine aj.iload_n dX12_expects_14 rfl ?_
    refine aj.i2l dX12_expects_15 ?_
    refine aj.callS1 (d' := 1) (As := [.long (Int32.toInt64 aim)]) (rest := []) dX12_expects_16 v_X12_241 w1506 rfl rfl (Nat.le_of_ble_eq_true rfl) (Nat.le_of_ble_eq_true rfl) (c_isPlaceI _ aim) (fun M hM => ?_)
    subst hM
    refine aj.if_neB (tgt := 25) dX12_expects_19 rfl (fun c19 => ?_) (fun c19 => ?_)
    · have h_aim := inR_bd (n := 20) c19 (by decide)
      have h2_aim := h_aim.2
      refine aj.iload_n dX12_expects_25 rfl ?_
      refine aj.i2l dX12_expects_26 ?_
      refine aj.lconst (v := 0) dX12_expects_27 rfl ?_
      refine aj.ldc2 dX12_expects_28 w1801 ?_
      refine aj.callS1 (d' := 0) (As := [.long (Int32.toInt64 q), .long 0, .long 999]) (rest := []) dX12_expects_31 v_X12_142 w1380 rfl rfl (Nat.le_of_ble_eq_true rfl) (Nat.le_of_ble_eq_true rfl) (c_withinI (a := 0) (c := 999) _ q 0 999 rfl rfl) (fun M hM => ?_)
      subst hM
      refine aj.if_neB (tgt := 40) dX12_expects_34 rfl (fun c34 => ?_) (fun c34 => ?_)
      · have h_q := inR_bd (n := 999) c34 (by decide)
        have h2_q := h_q.2
        refine aj.iload_n dX12_expects_40 rfl ?_
        refine aj.istore (lv' := [(4, .int aim), (0, .ref b), (1, .int s), (2, .int aim), (3, .int q)]) dX12_expects_41 (Nat.le_of_ble_eq_true rfl) rfl ?_
        refine aj.aload_n dX12_expects_43 rfl ?_
        refine aj.iload_n dX12_expects_44 rfl ?_
        refine aj.iconst (v := 1) dX12_expects_45 rfl ?_
        refine aj.callV1 (d' := 5) (As := [.int s, .int 1]) (rest := []) dX12_expects_46 v_X12_333 li_X12_bestNow hA.1 rfl rfl rfl (Nat.le_of_ble_eq_true rfl) (Nat.le_of_ble_eq_true rfl) (c_bestNow (mN s) h_s.1 (True) ⟨_, _, _, hA⟩ hB (by omega)) (fun M hM => ?_)
        obtain ⟨u, v, w, hA⟩ := hM
        refine aj.istore (lv' := [(5, .int (nI (mBest (A 1) sl (mN s) (mN (A 1 (21 + (mN s)))) (True) 20))), (4, .int aim), (0, .ref b), (1, .int s), (2, .int aim), (3, .int q)]) dX12_expects_49 (Nat.le_of_ble_eq_true rfl) rfl ?_
        refine aj.aload_n dX12_expects_51 rfl ?_
        refine aj.iload_n dX12_expects_52 rfl ?_
        refine aj.iconst (v := 0) dX12_expects_53 rfl ?_
        refine aj.callV1 (d' := 5) (As := [.int s, .int 0]) (rest := []) dX12_expects_54 v_X12_333 li_X12_bestNow hA.1 rfl rfl rfl (Nat.le_of_ble_eq_true rfl) (Nat.le_of_ble_eq_true rfl) (c_bestNow (mN s) h_s.1 (False) ⟨_, _, _, hA⟩ hB (by omega)) (fun M hM => ?_)
        obtain ⟨u, v, w, hA⟩ := hM
        refine aj.istore (lv' := [(6, .int (nI (mBest (A 1) sl (mN s) (mN (A 1 (21 + (mN s)))) (False) 20))), (5, .int (nI (mBest (A 1) sl (mN s) (mN (A 1 (21 + (mN s)))) (True) 20))), (4, .int aim), (0, .ref b), (1, .int s), (2, .int aim), (3, .int q)]) dX12_expects_57 (Nat.le_of_ble_eq_true rfl) rfl ?_
        refine aj.iconst (v := 2) dX12_expects_59 rfl ?_
        refine aj.istore (lv' := [(7, .int 2), (6, .int (nI (mBest (A 1) sl (mN s) (mN (A 1 (21 + (mN s)))) (False) 20))), (5, .int (nI (mBest (A 1) sl (mN s) (mN (A 1 (21 + (mN s)))) (True) 20))), (4, .int aim), (0, .ref b), (1, .int s), (2, .int aim), (3, .int q)]) dX12_expects_60 (Nat.le_of_ble_eq_true rfl) rfl ?_
        refine aj.pick [0, 1, 2, 3, 4, 5, 7] rfl ?_
        rw [if_pos (⟨c11, c19⟩ : _ ∧ _), if_pos c34]
        exact expects_loop (mN s) h_s.1 (mN q) h_q.1 (mN aim) (x_aim := aim) hB (by omega) h2_aim h2_q (mN q / 2) 0 2 (mN aim) aim M (by omega) h_aim.1 rfl rfl h2_aim ⟨_, _, _, hA⟩
      · refine aj.bipush (v := (-3)) dX12_expects_37 rfl ?_
        exact aj.iret rfl dX12_expects_39 ⟨by rw [if_pos ⟨c11, c19⟩, if_neg c34], ⟨_, _, _, hA⟩⟩
    · refine aj.bipush (v := (-2)) dX12_expects_22 rfl ?_
      exact aj.iret rfl dX12_expects_24 ⟨by rw [if_neg (fun z => c19 z.2)], ⟨_, _, _, hA⟩⟩
