theorem lN_rem {p q : Nat} (hp : p < 9223372036854775808) (hq : q < 9223372036854775808) (h0 : 0 < q) : lN p - lN p / lN q * lN q = lN (p % q) := by
  have e1 : (lN p).toInt = p := pk_lT (by omega)
  have e2 : (lN q).toInt = q := pk_lT (by omega)
  apply i64_nat
  rw [i64_rem _ _ (by omega), e1, e2]
  rw [Int.tmod_eq_emod_of_nonneg (by omega)]
  exact (Int.natCast_emod p q).symm
theorem low_step {G : zG} {l : Launch} {M : zM} {x y : Int64} {w : Int32} {g : Nat} (hg0 : 0 < g) {p q i : Nat} (hi : i < 200) (hp : p < 9223372036854775808) (hq : q < 9223372036854775808) (hg : Nat.gcd p q = g) (h : 0 < q → aj G l kX11_lowest 1 12 [(9, .int (nI (i + 1))), (5, .long (lN q)), (7, .long (lN (p % q))), (0, .long x), (2, .long y), (4, .int w)] [] M 0 0 (zr (.long ((if w = 0 then x else y) / lN g)) (fun M' => M' = M))) : aj G l kX11_lowest 1 12 [(9, .int (nI i)), (5, .long (lN p)), (7, .long (lN q)), (0, .long x), (2, .long y), (4, .int w)] [] M 0 0 (zr (.long ((if w = 0 then x else y) / lN g)) (fun M' => M' = M)) := by
  refine aj.iload dX11_lowest_12 rfl ?_
  refine aj.sipush (v := 200) dX11_lowest_14 rfl ?_
  refine aj.icmp_geN (a := i) (b := 200) (tgt := 48) dX11_lowest_17 rfl rfl (by omega) (by omega) rfl (fun c17 => ?_) (fun c17 => ?_)
  · exact absurd c17 (by omega)
  · refine aj.lload dX11_lowest_20 rfl ?_
    refine aj.lconst (v := 0) dX11_lowest_22 rfl ?_
    refine aj.lif_eq (tgt := 48) dX11_lowest_23 dX11_lowest_24 rfl (fun c23 => ?_) (fun c23 => ?_)
    · have hq0 : q = 0 := by
        have := congrArg Int64.toInt c23
        rw [pk_lT (by omega)] at this
        have e0 : (0 : Int64).toInt = 0 := rfl
        omega
      have hpg : p = g := by rw [← hg, hq0, Nat.gcd_zero_right]
      have hp0 : lN p ≠ 0 := fun z => by
        have := congrArg Int64.toInt z
        rw [pk_lT (by omega)] at this
        have e0 : (0 : Int64).toInt = 0 := rfl
        omega
      rw [← hpg]
      refine aj.iload dX11_lowest_48 rfl ?_
      refine aj.if_ne (tgt := 57) dX11_lowest_50 rfl (fun c50 => ?_) (fun c50 => ?_)
      · refine aj.lload_n dX11_lowest_57 rfl ?_
        refine aj.lstore (lv' := [(9, .long y), (5, .long (lN p)), (7, .long (lN q)), (0, .long x), (2, .long y), (4, .int w)]) dX11_lowest_58 (Nat.le_of_ble_eq_true rfl) rfl ?_
        refine aj.lload dX11_lowest_60 rfl ?_
        refine aj.lconst (v := 0) dX11_lowest_62 rfl ?_
        refine aj.lif_ne (tgt := 72) dX11_lowest_63 dX11_lowest_64 rfl (fun c63 => ?_) (fun c63 => ?_)
        · refine aj.lload dX11_lowest_72 rfl ?_
          refine aj.lload dX11_lowest_74 rfl ?_
          refine aj.ldiv dX11_lowest_76 (hp0) ?_
          exact aj.lret rfl dX11_lowest_77 ⟨by rw [if_neg c50], rfl⟩
        · exact absurd c63 hp0
      · refine aj.lload_n dX11_lowest_53 rfl ?_
        refine aj.goto (tgt := 58) dX11_lowest_54 rfl ?_
        refine aj.lstore (lv' := [(9, .long x), (5, .long (lN p)), (7, .long (lN q)), (0, .long x), (2, .long y), (4, .int w)]) dX11_lowest_58 (Nat.le_of_ble_eq_true rfl) rfl ?_
        refine aj.lload dX11_lowest_60 rfl ?_
        refine aj.lconst (v := 0) dX11_lowest_62 rfl ?_
        refine aj.lif_ne (tgt := 72) dX11_lowest_63 dX11_lowest_64 rfl (fun c63 => ?_) (fun c63 => ?_)
        · refine aj.lload dX11_lowest_72 rfl ?_
          refine aj.lload dX11_lowest_74 rfl ?_
          refine aj.ldiv dX11_lowest_76 (hp0) ?_
          exact aj.lret rfl dX11_lowest_77 ⟨by rw [if_pos c50], rfl⟩
        · exact absurd c63 hp0
    · have hq0 : 0 < q := by
        rcases Nat.eq_zero_or_pos q with e | e
        · exact absurd (by rw [e]; rfl) c23
        · exact e
      refine aj.lload dX11_lowest_27 rfl ?_
      refine aj.lload dX11_lowest_29 rfl ?_
      refine aj.lrem dX11_lowest_31 (fun z => c23 z) ?_
      refine aj.lstore (lv' := [(10, .long ((lN p) - (lN p) / (lN q) * (lN q))), (9, .int (nI i)), (5, .long (lN p)), (7, .long (lN q)), (0, .long x), (2, .long y), (4, .int w)]) dX11_lowest_32 (Nat.le_of_ble_eq_true rfl) rfl ?_
      refine aj.lload dX11_lowest_34 rfl ?_
      refine aj.lstore (lv' := [(5, .long (lN q)), (10, .long ((lN p) - (lN p) / (lN q) * (lN q))), (9, .int (nI i)), (7, .long (lN q)), (0, .long x), (2, .long y), (4, .int w)]) dX11_lowest_36 (Nat.le_of_ble_eq_true rfl) rfl ?_
      refine aj.lload dX11_lowest_38 rfl ?_
      refine aj.lstore (lv' := [(7, .long ((lN p) - (lN p) / (lN q) * (lN q))), (5, .long (lN q)), (10, .long ((lN p) - (lN p) / (lN q) * (lN q))), (9, .int (nI i)), (0, .long x), (2, .long y), (4, .int w)]) dX11_lowest_40 (Nat.le_of_ble_eq_true rfl) rfl ?_
      refine aj.iincN (a := i) (c := 1) (lv' := [(9, .int (nI (i + 1))), (7, .long ((lN p) - (lN p) / (lN q) * (lN q))), (5, .long (lN q)), (10, .long ((lN p) - (lN p) / (lN q) * (lN q))), (0, .long x), (2, .long y), (4, .int w)]) dX11_lowest_42 rfl (Nat.le_of_ble_eq_true rfl) rfl rfl rfl ?_
      refine aj.goto (tgt := 12) dX11_lowest_45 rfl ?_
      refine aj.pick [0, 2, 1, 4, 5, 6] rfl ?_
      rw [lN_rem hp hq hq0]
      exact h hq0
theorem low_loop {G : zG} {l : Launch} {M : zM} {x y : Int64} {w : Int32} {g : Nat} (hg0 : 0 < g) : ∀ (k p q i : Nat), q < 2 ^ k → i + 2 * k + 1 ≤ 200 → p < 9223372036854775808 → q < 9223372036854775808 → Nat.gcd p q = g → aj G l kX11_lowest 1 12 [(9, .int (nI i)), (5, .long (lN p)), (7, .long (lN q)), (0, .long x), (2, .long y), (4, .int w)] [] M 0 0 (zr (.long ((if w = 0 then x else y) / lN g)) (fun M' => M' = M)) := by
  intro k
  induction k with
  | zero => exact fun p q i hq hi hp hq2 hg => low_step hg0 (by omega) hp hq2 hg (fun h => absurd h (by omega))
  | succ k ih =>
    intro p q i hq hi hp hq2 hg
    refine low_step hg0 (by omega) hp hq2 hg (fun h0 => ?_)
    have l1 := Nat.mod_lt p h0
    refine low_step hg0 (by omega) hq2 (by omega) (by rw [Nat.gcd_comm, ← Nat.gcd_rec, Nat.gcd_comm]; exact hg) (fun h1 => ?_)
    have hg1 : Nat.gcd q (p % q) = g := by rw [Nat.gcd_comm, ← Nat.gcd_rec, Nat.gcd_comm]; exact hg
    generalize p % q = r at *
    have l2 := Nat.mod_lt q h1
    have l3 : q % r + r ≤ q := by
      have q1 := Nat.div_add_mod q r
      have q2 : 0 < q / r := Nat.div_pos (by omega) (by omega)
      have q3 : r * 1 ≤ r * (q / r) := Nat.mul_le_mul_left _ q2
      omega
    rw [Nat.pow_succ] at hq
    refine ih r (q % r) (i + 1 + 1) (by omega) (by omega) (by omega) (by omega) ?_
    rw [Nat.gcd_comm, ← Nat.gcd_rec, Nat.gcd_comm]; exact hg1
theorem lAbs_N (x : Int64) (h : x.toInt.natAbs < 9223372036854775808) : lAbs x = lN x.toInt.natAbs := by
  apply i64_nat
  unfold lAbs
  by_cases q : (0 : Int64) < x
  · rw [if_pos q]
    rw [Int64.lt_iff_toInt_lt] at q
    have e0 : (0 : Int64).toInt = 0 := rfl
    omega
  · rw [if_neg q, Int64.toInt_neg]
    rw [Int64.lt_iff_toInt_lt] at q
    have e0 : (0 : Int64).toInt = 0 := rfl
    exact (Int.bmod_eq_of_le (by omega) (by omega)).trans (by omega)
theorem k_lowest {G : zG} {l : Launch} (M : zM) (x y : Int64) (w : Int32) (h0 : 0 < y.toInt) (hx : x.toInt.natAbs < 9223372036854775808) : am G l kX11_lowest 1 [.long x, .long y, .int w] M 0 0 (zr (.long (mPart x y w)) (fun M' => M' = M)) := by
  refine am.of (by decide) (Nat.le_of_ble_eq_true rfl) ?_
  refine aj.lload_n dX11_lowest_0 rfl ?_
  refine aj.mabs dX11_lowest_1 w955 (Nat.le_of_ble_eq_true rfl) (Nat.le_of_ble_eq_true rfl) ?_
  refine aj.lstore (lv' := [(5, .long (lAbs x)), (0, .long x), (2, .long y), (4, .int w)]) dX11_lowest_4 (Nat.le_of_ble_eq_true rfl) rfl ?_
  refine aj.lload_n dX11_lowest_6 rfl ?_
  refine aj.lstore (lv' := [(7, .long y), (5, .long (lAbs x)), (0, .long x), (2, .long y), (4, .int w)]) dX11_lowest_7 (Nat.le_of_ble_eq_true rfl) rfl ?_
  refine aj.iconst (v := 0) dX11_lowest_9 rfl ?_
  refine aj.istore (lv' := [(9, .int 0), (7, .long y), (5, .long (lAbs x)), (0, .long x), (2, .long y), (4, .int w)]) dX11_lowest_10 (Nat.le_of_ble_eq_true rfl) rfl ?_
  have hy1 : y.toInt.natAbs < 9223372036854775808 := by have := y.toInt_lt; omega
  have ey : y = lN y.toInt.natAbs := i64_nat (by omega)
  refine aj.pick [0, 2, 1, 3, 4, 5] rfl ?_
  rw [lAbs_N x hx]
  have key := low_loop (G := G) (l := l) (M := M) (x := x) (y := y) (w := w) (g := Nat.gcd x.toInt.natAbs y.toInt.natAbs) (Nat.gcd_pos_of_pos_right _ (by omega)) 63 x.toInt.natAbs y.toInt.natAbs 0 (by omega) (by decide) hx hy1 rfl
  unfold mPart
  rw [← ey] at key
  exact key
theorem tb_sum {B : Nat → Int32} {sl : Option (List Nat)} {sh : Int32} {age wd o : Nat} {V : Nat → Nat → Int32} (hF : tbF B sl sh age wd V o) (op : Prop) [Decidable op] {aim : Nat} (ha : aim ≤ 20) : tS V o (if op then B 5 else 0) aim = zsum (fun lot => mScore B (nI (mLand sl sh age wd aim lot)) op) 10 := by
  obtain ⟨-, h2, h3⟩ := hF aim (by omega)
  unfold tS
  by_cases h : op
  · rw [if_pos h, h2, h3]
    have := sum_cost B (B 5) (fun lot => nI (mLand sl sh age wd aim lot)) 10
    rw [upd_self] at this
    rw [← this]
    congr 1
    funext q
    unfold mScore
    simp only [h, if_true]
  · rw [if_neg h, h3, Int32.zero_mul]
    rw [Int32.sub_eq_add_neg, Int32.neg_zero, Int32.add_zero]
    congr 1
    funext q
    unfold mScore
    simp only [h, if_false]
theorem tb_sumF {B : Nat → Int32} {sl : Option (List Nat)} {sh : Int32} {age wd o : Nat} {V : Nat → Nat → Int32} (hF : tbF B sl sh age wd V o) {aim : Nat} (ha : aim ≤ 20) : tS V o 0 aim = zsum (fun lot => mScore B (nI (mLand sl sh age wd aim lot)) False) 10 := by
  have := tb_sum hF False ha
  rw [if_neg (fun z => z)] at this
  exact this
theorem tb_sumT {B : Nat → Int32} {sl : Option (List Nat)} {sh : Int32} {age wd o : Nat} {V : Nat → Nat → Int32} (hF : tbF B sl sh age wd V o) {aim : Nat} (ha : aim ≤ 20) : tS V o (B 5) aim = zsum (fun lot => mScore B (nI (mLand sl sh age wd aim lot)) True) 10 := by
  have := tb_sum hF True ha
  rw [if_pos trivial] at this
  exact this
theorem tb_best {B : Nat → Int32} {sl : Option (List Nat)} {sh : Int32} {age wd o : Nat} {V : Nat → Nat → Int32} (hF : tbF B sl sh age wd V o) (op : Prop) [Decidable op] : zmax (tS V o (if op then B 5 else 0)) 20 = zmax (fun aim => zsum (fun lot => mScore B (nI (mLand sl sh age wd aim lot)) op) 10) 20 := zmax_congr (fun k hk => tb_sum hF op hk)
theorem tb_bestF {B : Nat → Int32} {sl : Option (List Nat)} {sh : Int32} {age wd o : Nat} {V : Nat → Nat → Int32} (hF : tbF B sl sh age wd V o) : zmax (tS V o 0) 20 = zmax (fun aim => zsum (fun lot => mScore B (nI (mLand sl sh age wd aim lot)) False) 10) 20 := zmax_congr (fun k hk => tb_sumF hF hk)
theorem tb_bestT {B : Nat → Int32} {sl : Option (List Nat)} {sh : Int32} {age wd o : Nat} {V : Nat → Nat → Int32} (hF : tbF B sl sh age wd V o) : zmax (tS V o (B 5)) 20 = zmax (fun aim => zsum (fun lot => mScore B (nI (mLand sl sh age wd aim lot)) True) 10) 20 := zmax_congr (fun k hk => tb_sumT hF hk)
theorem tb_tch {B : Nat → Int32} {sl : Option (List Nat)} {sh : Int32} {age wd o : Nat} {V : Nat → Nat → Int32} (hF : tbF B sl sh age wd V o) {aim : Nat} (ha : aim ≤ 20) : V (o + 2) aim = nI (zcnt (fun lot => mFar B (nI (mLand sl sh age wd aim lot)) = 0) 10) := (hF aim (by omega)).2.1
theorem p_touches {G : zG} {l : Launch} {a : Nat} {M0 M : zM} {V0 : Nat → Nat → Int32} {W0 : Nat → Nat → Int64} {R : Nat → Nat → Option Nat} {T : Nat} {B : Nat → Int32} {sl ol : Option (List Nat)} {Tm : Nat} (s : Int32) (aim : Int32) (hM : kW a M0 M V0 W0 R) (hH : cH a M0 V0 R T B sl ol Tm)  : am G l kX11_touches 6 [.ref a, .int s, .int aim] M 0 0 (zr (.int (if inR s 0 ((mN (B 6) : Int) - 1) ∧ inR aim 0 20 then nI (mTch B sl (mN s) (mN aim) 10) else -2)) (fun M' => kW a M0 M' V0 W0 R)) := by
  obtain ⟨V, W, hA, hv, hw⟩ := hM
  obtain ⟨hT, hb, hS, hB⟩ := id hH
  have hd0 := (dLaw_of hB).1
  have hd1 := (dLaw_of hB).2
  have h25 := hB.2.2.2.2.2.1
  have h26 := hB.2.2.2.2.2.2.1
  have h27 := hB.2.2.2.2.2.2.2.1
  have h6 := hB.2.2.1
  have hag := hB.2.2.2.2.1
  have hTm := hB.2.2.2.2.2.2.2.2.1
  have h25b := h25.2
  have h26b := h26.2
  have h27b := h27.2
  have h6b := h6.2
  refine am.of (by decide) (Nat.le_of_ble_eq_true rfl) ?_
  refine aj.aload_n dX11_touches_0 rfl ?_
  refine aj.iload_n dX11_touches_1 rfl ?_
  refine aj.callE1 (d' := 0) (As := [.int s]) (rest := []) dX11_touches_2 v_X11_124 li_X11_isShooter ⟨_, hA.ob (i := 0) rfl (by decide)⟩ rfl rfl rfl (Nat.le_of_ble_eq_true rfl) (Nat.le_of_ble_eq_true rfl) (k_isShooter s hH hA) (fun M hM => ?_)
  subst hM
  refine aj.if_eqB (tgt := 16) dX11_touches_5 rfl (fun c5 => ?_) (fun c5 => ?_)
  · refine aj.bipush (v := (-2)) dX11_touches_16 rfl ?_
    exact aj.iret rfl dX11_touches_18 ⟨by rw [if_neg (fun z => c5 z.1)], ⟨_, _, hA, hv, hw⟩⟩
  · have h_s := inR_bdS c5 (by omega)
    have h2_s := h_s.2
    refine aj.iload_n dX11_touches_8 rfl ?_
    refine aj.i2l dX11_touches_9 ?_
    refine aj.callS1 (d' := 0) (As := [.long (Int32.toInt64 aim)]) (rest := []) dX11_touches_10 v_X11_150 w748 rfl rfl (Nat.le_of_ble_eq_true rfl) (Nat.le_of_ble_eq_true rfl) (k_isPlaceI _ aim) (fun M hM => ?_)
    subst hM
    refine aj.if_neB (tgt := 19) dX11_touches_13 rfl (fun c13 => ?_) (fun c13 => ?_)
    · have h_aim := inR_bd (n := 20) c13 (by decide)
      have h2_aim := h_aim.2
      refine aj.aload_n dX11_touches_19 rfl ?_
      refine aj.iload_n dX11_touches_20 rfl ?_
      refine aj.callE1 (d' := 5) (As := [.int s]) (rest := []) dX11_touches_21 v_X11_220 li_X11_tableNow ⟨_, hA.ob (i := 0) rfl (by decide)⟩ rfl rfl rfl (Nat.le_of_ble_eq_true rfl) (Nat.le_of_ble_eq_true rfl) (k_tableNow (mN s) h_s.1 (by omega) hH hv hA) (fun M hM => ?_)
      obtain ⟨V, hA, hE, hF⟩ := hM
      have hv := k_tbv hE (by decide) hv
      refine aj.iload_n dX11_touches_24 rfl ?_
      refine aj.callE1 (d' := 1) (As := [.int aim]) (rest := []) dX11_touches_25 v_X11_224 li_X8_touchCount ⟨_, hA.ob (i := 71) rfl (by decide)⟩ rfl rfl rfl (Nat.le_of_ble_eq_true rfl) (Nat.le_of_ble_eq_true rfl) (k_touchCount (o := 71) ⟨rfl, rfl, rfl, rfl⟩ (mN aim) h_aim.1 (by omega) hA) (fun M hM => ?_)
      subst hM
      exact aj.iret rfl dX11_touches_28 ⟨by rw [if_pos (⟨c5, c13⟩ : _ ∧ _)]; exact congrArg (fun z => some (Value.int z)) (tb_tch hF h2_aim), ⟨_, _, hA, hv, hw⟩⟩
    · refine aj.bipush (v := (-2)) dX11_touches_16 rfl ?_
      exact aj.iret rfl dX11_touches_18 ⟨by rw [if_neg (fun z => c13 z.2)], ⟨_, _, hA, hv, hw⟩⟩
theorem p_bestAim {G : zG} {l : Launch} {a : Nat} {M0 M : zM} {V0 : Nat → Nat → Int32} {W0 : Nat → Nat → Int64} {R : Nat → Nat → Option Nat} {T : Nat} {B : Nat → Int32} {sl ol : Option (List Nat)} {Tm : Nat} (s : Int32) (hM : kW a M0 M V0 W0 R) (hH : cH a M0 V0 R T B sl ol Tm)  : am G l kX11_bestAim 6 [.ref a, .int s] M 0 0 (zr (.int (if inR s 0 ((mN (B 6) : Int) - 1) then nI (mBest B sl (mN s) (mN (B (21 + mN s))) (mOpen ol (mN (B 26)) (mN (B 27)) (mN (B 25)) = true) 20) else -2)) (fun M' => kW a M0 M' V0 W0 R)) := by
  obtain ⟨V, W, hA, hv, hw⟩ := hM
  obtain ⟨hT, hb, hS, hB⟩ := id hH
  have hd0 := (dLaw_of hB).1
  have hd1 := (dLaw_of hB).2
  have h25 := hB.2.2.2.2.2.1
  have h26 := hB.2.2.2.2.2.2.1
  have h27 := hB.2.2.2.2.2.2.2.1
  have h6 := hB.2.2.1
  have hag := hB.2.2.2.2.1
  have hTm := hB.2.2.2.2.2.2.2.2.1
  have h25b := h25.2
  have h26b := h26.2
  have h27b := h27.2
  have h6b := h6.2
  refine am.of (by decide) (Nat.le_of_ble_eq_true rfl) ?_
  refine aj.aload_n dX11_bestAim_0 rfl ?_
  refine aj.iload_n dX11_bestAim_1 rfl ?_
  refine aj.callE1 (d' := 0) (As := [.int s]) (rest := []) dX11_bestAim_2 v_X11_124 li_X11_isShooter ⟨_, hA.ob (i := 0) rfl (by decide)⟩ rfl rfl rfl (Nat.le_of_ble_eq_true rfl) (Nat.le_of_ble_eq_true rfl) (k_isShooter s hH hA) (fun M hM => ?_)
  subst hM
  refine aj.if_eqB (tgt := 23) dX11_bestAim_5 rfl (fun c5 => ?_) (fun c5 => ?_)
  · refine aj.bipush (v := (-2)) dX11_bestAim_23 rfl ?_
    exact aj.iret rfl dX11_bestAim_25 ⟨by rw [if_neg c5], ⟨_, _, hA, hv, hw⟩⟩
  · have h_s := inR_bdS c5 (by omega)
    have h2_s := h_s.2
    refine aj.aload_n dX11_bestAim_8 rfl ?_
    refine aj.iload_n dX11_bestAim_9 rfl ?_
    refine aj.callE1 (d' := 5) (As := [.int s]) (rest := []) dX11_bestAim_10 v_X11_220 li_X11_tableNow ⟨_, hA.ob (i := 0) rfl (by decide)⟩ rfl rfl rfl (Nat.le_of_ble_eq_true rfl) (Nat.le_of_ble_eq_true rfl) (k_tableNow (mN s) h_s.1 (by omega) hH hv hA) (fun M hM => ?_)
    obtain ⟨V, hA, hE, hF⟩ := hM
    have hv := k_tbv hE (by decide) hv
    refine aj.aload_n dX11_bestAim_13 rfl ?_
    refine aj.callE1 (d' := 5) (As := []) (rest := [.ref (a + 71)]) dX11_bestAim_14 v_X11_227 li_X11_costNow ⟨_, hA.ob (i := 0) rfl (by decide)⟩ rfl rfl rfl (Nat.le_of_ble_eq_true rfl) (Nat.le_of_ble_eq_true rfl) (k_costNow hH hv hA) (fun M hM => ?_)
    obtain ⟨v1, v2, hA⟩ := hM
    obtain ⟨V, hN, hA, hv⟩ := k_norm hA hv
    have hF := tbF_N hF hN (by decide)
    refine aj.callE1 (d' := 2) (As := [.int (if mOpen ol (mN (B 26)) (mN (B 27)) (mN (B 25)) = true then B 5 else 0)]) (rest := []) dX11_bestAim_17 v_X11_240 li_X8_best ⟨_, hA.ob (i := 71) rfl (by decide)⟩ rfl rfl rfl (Nat.le_of_ble_eq_true rfl) (Nat.le_of_ble_eq_true rfl) (k_best (o := 71) ⟨rfl, rfl, rfl, rfl⟩ (if mOpen ol (mN (B 26)) (mN (B 27)) (mN (B 25)) = true then B 5 else 0) hA) (fun M hM => ?_)
    subst hM
    have hz17 := zmax_le (tS V 71 (if mOpen ol (mN (B 26)) (mN (B 27)) (mN (B 25)) = true then B 5 else 0)) 20
    refine aj.goto (tgt := 25) dX11_bestAim_20 rfl ?_
    exact aj.iret rfl dX11_bestAim_25 ⟨by rw [if_pos c5, tb_best hF], ⟨_, _, hA, hv, hw⟩⟩
theorem mean_of {x q : Int32} (hx : -990 ≤ x.toInt ∧ x.toInt ≤ 990) : (mPart x.toInt64 10 q).toInt32 = mMean x q := by
  unfold mPart mMean
  have e1 : x.toInt64.toInt = x.toInt := z_i64 x
  have e10 : (10 : Int64).toInt.natAbs = 10 := rfl
  rw [e1, e10]
  have hg0 : 0 < Nat.gcd x.toInt.natAbs 10 := Nat.gcd_pos_of_pos_right _ (by decide)
  have hg1 : Nat.gcd x.toInt.natAbs 10 ≤ 10 := Nat.gcd_le_right _ (by decide)
  generalize Nat.gcd x.toInt.natAbs 10 = g at *
  have el : (lN g).toInt = g := pk_lT (by omega)
  have ei : (nI g).toInt = g := nI_toInt (by omega)
  have key : ∀ (y : Int32), -990 ≤ y.toInt → y.toInt ≤ 990 → (y.toInt64 / lN g).toInt32 = y / nI g := by
    intro y h1 h2
    apply Int32.toInt_inj.mp
    have h3 : (y.toInt.tdiv g).natAbs ≤ y.toInt.natAbs := by rw [Int.natAbs_tdiv]; exact Nat.div_le_self _ _
    rw [Int32.toInt_div, ei, Int64.toInt_toInt32, Int64.toInt_div, el, z_i64]
    have e64 : (y.toInt.tdiv (g : Int)).bmod (2 ^ 64) = y.toInt.tdiv (g : Int) := Int.bmod_eq_of_le (by omega) (by omega)
    rw [e64]
  by_cases h : q = 0
  · rw [if_pos h, if_pos h]; exact key x hx.1 hx.2
  · rw [if_neg h, if_neg h]; exact key 10 (by decide) (by decide)
theorem p_mean {G : zG} {l : Launch} {a : Nat} {M0 M : zM} {V0 : Nat → Nat → Int32} {W0 : Nat → Nat → Int64} {R : Nat → Nat → Option Nat} {T : Nat} {B : Nat → Int32} {sl ol : Option (List Nat)} {Tm : Nat} (s : Int32) (aim : Int32) (q : Int32) (hM : kW a M0 M V0 W0 R) (hH : cH a M0 V0 R T B sl ol Tm)  : am G l kX11_mean 6 [.ref a, .int s, .int aim, .int q] M 0 0 (zr (.int (if inR s 0 ((mN (B 6) : Int) - 1) ∧ inR aim 0 20 ∧ inR q 0 1 then mMean (mSum B sl (mN s) (mN (B (21 + mN s))) (mOpen ol (mN (B 26)) (mN (B 27)) (mN (B 25)) = true) (mN aim) 10) q else -99000002)) (fun M' => kW a M0 M' V0 W0 R)) := by
  obtain ⟨V, W, hA, hv, hw⟩ := hM
  obtain ⟨hT, hb, hS, hB⟩ := id hH
  have hd0 := (dLaw_of hB).1
  have hd1 := (dLaw_of hB).2
  have h25 := hB.2.2.2.2.2.1
  have h26 := hB.2.2.2.2.2.2.1
  have h27 := hB.2.2.2.2.2.2.2.1
  have h6 := hB.2.2.1
  have hag := hB.2.2.2.2.1
  have hTm := hB.2.2.2.2.2.2.2.2.1
  have h25b := h25.2
  have h26b := h26.2
  have h27b := h27.2
  have h6b := h6.2
  refine am.of (by decide) (Nat.le_of_ble_eq_true rfl) ?_
  refine aj.aload_n dX11_mean_0 rfl ?_
  refine aj.iload_n dX11_mean_1 rfl ?_
  refine aj.callE1 (d' := 0) (As := [.int s]) (rest := []) dX11_mean_2 v_X11_124 li_X11_isShooter ⟨_, hA.ob (i := 0) rfl (by decide)⟩ rfl rfl rfl (Nat.le_of_ble_eq_true rfl) (Nat.le_of_ble_eq_true rfl) (k_isShooter s hH hA) (fun M hM => ?_)
  subst hM
  refine aj.if_eqB (tgt := 23) dX11_mean_5 rfl (fun c5 => ?_) (fun c5 => ?_)
  · refine aj.ldc dX11_mean_23 w738 ?_
    exact aj.iret rfl dX11_mean_25 ⟨by rw [if_neg (fun z => c5 z.1)], ⟨_, _, hA, hv, hw⟩⟩
  · have h_s := inR_bdS c5 (by omega)
    have h2_s := h_s.2
    refine aj.iload_n dX11_mean_8 rfl ?_
    refine aj.i2l dX11_mean_9 ?_
    refine aj.callS1 (d' := 0) (As := [.long (Int32.toInt64 aim)]) (rest := []) dX11_mean_10 v_X11_150 w748 rfl rfl (Nat.le_of_ble_eq_true rfl) (Nat.le_of_ble_eq_true rfl) (k_isPlaceI _ aim) (fun M hM => ?_)
    subst hM
    refine aj.if_eqB (tgt := 23) dX11_mean_13 rfl (fun c13 => ?_) (fun c13 => ?_)
    · refine aj.ldc dX11_mean_23 w738 ?_
      exact aj.iret rfl dX11_mean_25 ⟨by rw [if_neg (fun z => c13 z.2.1)], ⟨_, _, hA, hv, hw⟩⟩
    · have h_aim := inR_bd (n := 20) c13 (by decide)
      have h2_aim := h_aim.2
      refine aj.iload_n dX11_mean_16 rfl ?_
      refine aj.callS1 (d' := 0) (As := [.int q]) (rest := []) dX11_mean_17 v_X11_128 w720 rfl rfl (Nat.le_of_ble_eq_true rfl) (Nat.le_of_ble_eq_true rfl) (k_isHalf _ q) (fun M hM => ?_)
      subst hM
      refine aj.if_neB (tgt := 26) dX11_mean_20 rfl (fun c20 => ?_) (fun c20 => ?_)
      · have h_q := inR_bd (n := 1) c20 (by decide)
        have h2_q := h_q.2
        refine aj.aload_n dX11_mean_26 rfl ?_
        refine aj.iload_n dX11_mean_27 rfl ?_
        refine aj.callE1 (d' := 5) (As := [.int s]) (rest := []) dX11_mean_28 v_X11_220 li_X11_tableNow ⟨_, hA.ob (i := 0) rfl (by decide)⟩ rfl rfl rfl (Nat.le_of_ble_eq_true rfl) (Nat.le_of_ble_eq_true rfl) (k_tableNow (mN s) h_s.1 (by omega) hH hv hA) (fun M hM => ?_)
        obtain ⟨V, hA, hE, hF⟩ := hM
        have hv := k_tbv hE (by decide) hv
        refine aj.iload_n dX11_mean_31 rfl ?_
        refine aj.aload_n dX11_mean_32 rfl ?_
        refine aj.callE1 (d' := 5) (As := []) (rest := [.int aim, .ref (a + 71)]) dX11_mean_33 v_X11_227 li_X11_costNow ⟨_, hA.ob (i := 0) rfl (by decide)⟩ rfl rfl rfl (Nat.le_of_ble_eq_true rfl) (Nat.le_of_ble_eq_true rfl) (k_costNow hH hv hA) (fun M hM => ?_)
        obtain ⟨v1, v2, hA⟩ := hM
        obtain ⟨V, hN, hA, hv⟩ := k_norm hA hv
        have hF := tbF_N hF hN (by decide)
        refine aj.callE1 (d' := 1) (As := [.int aim, .int (if mOpen ol (mN (B 26)) (mN (B 27)) (mN (B 25)) = true then B 5 else 0)]) (rest := []) dX11_mean_36 v_X11_230 li_X8_sum ⟨_, hA.ob (i := 71) rfl (by decide)⟩ rfl rfl rfl (Nat.le_of_ble_eq_true rfl) (Nat.le_of_ble_eq_true rfl) (k_sum (o := 71) ⟨rfl, rfl, rfl, rfl⟩ (mN aim) h_aim.1 (if mOpen ol (mN (B 26)) (mN (B 27)) (mN (B 25)) = true then B 5 else 0) (by omega) hA) (fun M hM => ?_)
        subst hM
        refine aj.istore (lv' := [(4, .int (V 74 (mN aim) - (if mOpen ol (mN (B 26)) (mN (B 27)) (mN (B 25)) = true then B 5 else 0) * V 73 (mN aim))), (0, .ref a), (1, .int s), (2, .int aim), (3, .int q)]) dX11_mean_39 (Nat.le_of_ble_eq_true rfl) rfl ?_
        have e9 := tb_sum hF (mOpen ol (mN (B 26)) (mN (B 27)) (mN (B 25)) = true) h2_aim
        have hbd : -990 ≤ (zsum (fun lot => mScore B (nI (mLand sl (B (13 + mN s)) (mN (B (21 + mN s))) (mN (B 26)) (mN aim) lot)) (mOpen ol (mN (B 26)) (mN (B 27)) (mN (B 25)) = true)) 10).toInt ∧ (zsum (fun lot => mScore B (nI (mLand sl (B (13 + mN s)) (mN (B (21 + mN s))) (mN (B 26)) (mN aim) lot)) (mOpen ol (mN (B 26)) (mN (B 27)) (mN (B 25)) = true)) 10).toInt ≤ 990 := mSum_bd (s := mN s) (aim := mN aim) (age := mN (B (21 + mN s))) hB (mOpen ol (mN (B 26)) (mN (B 27)) (mN (B 25)) = true)
        unfold tS at e9
        refine aj.iload dX11_mean_41 rfl ?_
        refine aj.i2l dX11_mean_43 ?_
        refine aj.ldc2 dX11_mean_44 w754 ?_
        refine aj.iload_n dX11_mean_47 rfl ?_
        refine aj.callS1 (d' := 1) (As := [.long (Int32.toInt64 (V 74 (mN aim) - (if mOpen ol (mN (B 26)) (mN (B 27)) (mN (B 25)) = true then B 5 else 0) * V 73 (mN aim))), .long 10, .int q]) (rest := []) dX11_mean_48 v_X11_236 w953 rfl rfl (Nat.le_of_ble_eq_true rfl) (Nat.le_of_ble_eq_true rfl) (k_lowest _ (Int32.toInt64 (V 74 (mN aim) - (if mOpen ol (mN (B 26)) (mN (B 27)) (mN (B 25)) = true then B 5 else 0) * V 73 (mN aim))) 10 q (by decide) (by rw [z_i64, e9]; omega)) (fun M hM => ?_)
        subst hM
        refine aj.l2i dX11_mean_51 ?_
        exact aj.iret rfl dX11_mean_52 ⟨by rw [if_pos (⟨c5, c13, c20⟩ : _ ∧ _ ∧ _), e9, mean_of hbd], ⟨_, _, hA, hv, hw⟩⟩
      · refine aj.ldc dX11_mean_23 w738 ?_
        exact aj.iret rfl dX11_mean_25 ⟨by rw [if_neg (fun z => c20 z.2.2)], ⟨_, _, hA, hv, hw⟩⟩
theorem careful_lp {G : zG} {l : Launch} {a : Nat} {M0 M : zM} {V : Nat → Nat → Int32} {W : Nat → Nat → Int64} {R : Nat → Nat → Option Nat} {B : Nat → Int32} {sl : Option (List Nat)} {s : Nat} {xs : Int32} (hF : tbF B sl (B (13 + s)) (mN (B (21 + s))) (mN (B 26)) V 71) (hA : kA a M0 M V W R) : ∀ (n i : Nat) (z : Int32), i + n = 21 → z = zbits (fun a => mTch B sl s a 10 = 0) i → aj G l kX11_careful 6 22 [(4, .int (nI i)), (3, .int z), (0, .ref a), (1, .int xs), (2, .ref (a + 71))] [] M 0 0 (zr (.int (zbits (fun a => mTch B sl s a 10 = 0) 21)) (fun M' => M' = M)) := by
  intro n
  induction n with
  | zero =>
    intro i z hin hz
    refine aj.iload dX11_careful_22 rfl ?_
    refine aj.bipush (v := 21) dX11_careful_24 rfl ?_
    refine aj.icmp_geN (a := i) (b := 21) (tgt := 51) dX11_careful_26 rfl rfl (by omega) (by omega) rfl (fun c26 => ?_) (fun c26 => ?_)
    · refine aj.iload_n dX11_careful_51 rfl ?_
      exact aj.iret rfl dX11_careful_52 ⟨by rw [hz, show i = 21 by omega], rfl⟩
    · exact absurd c26 (by omega)
  | succ n ih =>
    intro i z hin hz
    have ht := tb_tch hF (aim := i) (by omega)
    have hzl := zcnt_le (fun lot => mFar B (nI (mLand sl (B (13 + s)) (mN (B (21 + s))) (mN (B 26)) i lot)) = 0) 10
    refine aj.iload dX11_careful_22 rfl ?_
    refine aj.bipush (v := 21) dX11_careful_24 rfl ?_
    refine aj.icmp_geN (a := i) (b := 21) (tgt := 51) dX11_careful_26 rfl rfl (by omega) (by omega) rfl (fun c26 => ?_) (fun c26 => ?_)
    · exact absurd c26 (by omega)
    · refine aj.aload_n dX11_careful_29 rfl ?_
      refine aj.iload dX11_careful_30 rfl ?_
      refine aj.callE1 (d' := 1) (As := [.int (nI i)]) (rest := []) dX11_careful_32 v_X11_224 li_X8_touchCount ⟨_, hA.ob (i := 71) rfl (by decide)⟩ rfl rfl rfl (Nat.le_of_ble_eq_true rfl) (Nat.le_of_ble_eq_true rfl) (k_touchCount (o := 71) ⟨rfl, rfl, rfl, rfl⟩ i rfl (by omega) hA) (fun M hM => ?_)
      subst hM
      refine aj.if_neN (a := zcnt (fun lot => mFar B (nI (mLand sl (B (13 + s)) (mN (B (21 + s))) (mN (B 26)) i lot)) = 0) 10) (tgt := 45) dX11_careful_35 ht (by omega) rfl (fun c35 => ?_) (fun c35 => ?_)
      · refine aj.iincN (a := i) (c := 1) (lv' := [(4, .int (nI (i + 1))), (3, .int z), (0, .ref a), (1, .int xs), (2, .ref (a + 71))]) dX11_careful_45 rfl (Nat.le_of_ble_eq_true rfl) rfl rfl rfl ?_
        refine aj.goto (tgt := 22) dX11_careful_48 rfl ?_
        refine aj.pick [0, 1, 2, 3, 4] rfl ?_
        exact ih (i + 1) _ (by omega) (by rw [hz, zbits_s, if_neg c35])
      · refine aj.iload_n dX11_careful_38 rfl ?_
        refine aj.iconst (v := 1) dX11_careful_39 rfl ?_
        refine aj.iload dX11_careful_40 rfl ?_
        refine aj.ishl dX11_careful_42 ?_
        refine aj.ior dX11_careful_43 ?_
        refine aj.istore_n (lv' := [(3, .int (z ||| (1 <<< ((nI i) &&& 31)))), (4, .int (nI i)), (0, .ref a), (1, .int xs), (2, .ref (a + 71))]) dX11_careful_44 (Nat.le_of_ble_eq_true rfl) rfl ?_
        refine aj.iincN (a := i) (c := 1) (lv' := [(4, .int (nI (i + 1))), (3, .int (z ||| (1 <<< ((nI i) &&& 31)))), (0, .ref a), (1, .int xs), (2, .ref (a + 71))]) dX11_careful_45 rfl (Nat.le_of_ble_eq_true rfl) rfl rfl rfl ?_
        refine aj.goto (tgt := 22) dX11_careful_48 rfl ?_
        refine aj.pick [0, 1, 2, 3, 4] rfl ?_
        exact ih (i + 1) _ (by omega) (by rw [hz, zbits_s, if_pos c35])
theorem p_careful {G : zG} {l : Launch} {a : Nat} {M0 M : zM} {V0 : Nat → Nat → Int32} {W0 : Nat → Nat → Int64} {R : Nat → Nat → Option Nat} {T : Nat} {B : Nat → Int32} {sl ol : Option (List Nat)} {Tm : Nat} (s : Int32) (hM : kW a M0 M V0 W0 R) (hH : cH a M0 V0 R T B sl ol Tm)  : am G l kX11_careful 6 [.ref a, .int s] M 0 0 (zr (.int (if inR s 0 ((mN (B 6) : Int) - 1) then zbits (fun a => mTch B sl (mN s) a 10 = 0) 21 else -2)) (fun M' => kW a M0 M' V0 W0 R)) := by
  obtain ⟨V, W, hA, hv, hw⟩ := hM
  obtain ⟨hT, hb, hS, hB⟩ := id hH
  have hd0 := (dLaw_of hB).1
  have hd1 := (dLaw_of hB).2
  have h25 := hB.2.2.2.2.2.1
  have h26 := hB.2.2.2.2.2.2.1
  have h27 := hB.2.2.2.2.2.2.2.1
  have h6 := hB.2.2.1
  have hag := hB.2.2.2.2.1
  have hTm := hB.2.2.2.2.2.2.2.2.1
  have h25b := h25.2
  have h26b := h26.2
  have h27b := h27.2
  have h6b := h6.2
  refine am.of (by decide) (Nat.le_of_ble_eq_true rfl) ?_
  refine aj.aload_n dX11_careful_0 rfl ?_
  refine aj.iload_n dX11_careful_1 rfl ?_
  refine aj.callE1 (d' := 0) (As := [.int s]) (rest := []) dX11_careful_2 v_X11_124 li_X11_isShooter ⟨_, hA.ob (i := 0) rfl (by decide)⟩ rfl rfl rfl (Nat.le_of_ble_eq_true rfl) (Nat.le_of_ble_eq_true rfl) (k_isShooter s hH hA) (fun M hM => ?_)
  subst hM
  refine aj.if_neB (tgt := 11) dX11_careful_5 rfl (fun c5 => ?_) (fun c5 => ?_)
  · have h_s := inR_bdS c5 (by omega)
    have h2_s := h_s.2
    refine aj.aload_n dX11_careful_11 rfl ?_
    refine aj.iload_n dX11_careful_12 rfl ?_
    refine aj.callE1 (d' := 5) (As := [.int s]) (rest := []) dX11_careful_13 v_X11_220 li_X11_tableNow ⟨_, hA.ob (i := 0) rfl (by decide)⟩ rfl rfl rfl (Nat.le_of_ble_eq_true rfl) (Nat.le_of_ble_eq_true rfl) (k_tableNow (mN s) h_s.1 (by omega) hH hv hA) (fun M hM => ?_)
    obtain ⟨V, hA, hE, hF⟩ := hM
    have hv := k_tbv hE (by decide) hv
    refine aj.astore_n (lv' := [(2, .ref (a + 71)), (0, .ref a), (1, .int s)]) dX11_careful_16 (Nat.le_of_ble_eq_true rfl) rfl ?_
    refine aj.iconst (v := 0) dX11_careful_17 rfl ?_
    refine aj.istore_n (lv' := [(3, .int 0), (2, .ref (a + 71)), (0, .ref a), (1, .int s)]) dX11_careful_18 (Nat.le_of_ble_eq_true rfl) rfl ?_
    refine aj.iconst (v := 0) dX11_careful_19 rfl ?_
    refine aj.istore (lv' := [(4, .int 0), (3, .int 0), (2, .ref (a + 71)), (0, .ref a), (1, .int s)]) dX11_careful_20 (Nat.le_of_ble_eq_true rfl) rfl ?_
    refine aj.pick [0, 1, 3, 4, 2] rfl ?_
    refine aj.mono (careful_lp (s := mN s) hF hA 21 0 _ (by omega) rfl) (fun r M' hq => ⟨hq.1.trans (by rw [if_pos c5]), ?_⟩)
    rw [hq.2]
    exact ⟨_, _, hA, hv, hw⟩
  · refine aj.bipush (v := (-2)) dX11_careful_8 rfl ?_
    exact aj.iret rfl dX11_careful_10 ⟨by rw [if_neg c5], ⟨_, _, hA, hv, hw⟩⟩
theorem iMin_least (x y : Int32) : iMin x y = if x < y then x else y := by
  unfold iMin
  by_cases h : x < y
  · rw [if_pos h, if_neg (by simp only [Int32.lt_iff_toInt_lt] at *; omega)]
  · rw [if_neg h]
    by_cases h2 : y < x
    · rw [if_pos h2]
    · rw [if_neg h2]; exact Int32.toInt_inj.mp (by simp only [Int32.lt_iff_toInt_lt] at *; omega)
theorem guards_lp {G : zG} {l : Launch} {a : Nat} {M0 M : zM} {V : Nat → Nat → Int32} {W : Nat → Nat → Int64} {R : Nat → Nat → Option Nat} {T : Nat} {B : Nat → Int32} {sl ol : Option (List Nat)} {xs : Int32} (hT : R 0 0 = some T) (hb : bW a M0 T B sl ol) (hA : kA a M0 M V W R) : ∀ (n i f : Nat) (m : Int32), i + n = 20 → f = zmax (fun a => iMin (tS V 71 (B 5) a) (tS V 71 0 a)) i → m = iMin (tS V 71 (B 5) f) (tS V 71 0 f) → aj G l kX11_guards 6 36 [(5, .int (nI (i + 1))), (3, .int (nI f)), (4, .int m), (0, .ref a), (1, .int xs), (2, .ref (a + 71))] [] M 0 0 (zr (.int (nI (zmax (fun a => iMin (tS V 71 (B 5) a) (tS V 71 0 a)) 20))) (fun M' => M' = M)) := by
  intro n
  induction n with
  | zero =>
    intro i f m hin hf hm
    have hfl := zmax_le (fun a => iMin (tS V 71 (B 5) a) (tS V 71 0 a)) i
    refine aj.iload dX11_guards_36 rfl ?_
    refine aj.bipush (v := 21) dX11_guards_38 rfl ?_
    refine aj.icmp_geN (a := i + 1) (b := 21) (tgt := 78) dX11_guards_40 rfl rfl (by omega) (by omega) rfl (fun c40 => ?_) (fun c40 => ?_)
    · refine aj.iload_n dX11_guards_78 rfl ?_
      exact aj.iret rfl dX11_guards_79 ⟨by rw [hf, show i = 20 by omega], rfl⟩
    · exact absurd c40 (by omega)
  | succ n ih =>
    intro i f m hin hf hm
    have hfl := zmax_le (fun a => iMin (tS V 71 (B 5) a) (tS V 71 0 a)) i
    refine aj.iload dX11_guards_36 rfl ?_
    refine aj.bipush (v := 21) dX11_guards_38 rfl ?_
    refine aj.icmp_geN (a := i + 1) (b := 21) (tgt := 78) dX11_guards_40 rfl rfl (by omega) (by omega) rfl (fun c40 => ?_) (fun c40 => ?_)
    · exact absurd c40 (by omega)
    · refine aj.aload_n dX11_guards_43 rfl ?_
      refine aj.iload dX11_guards_44 rfl ?_
      refine aj.aload_n dX11_guards_46 rfl ?_
      refine gT hT hA w378 dX11_guards_47 ?_
      refine gB_cost (hA.bw hb) w217 dX11_guards_50 ?_
      refine aj.callE1 (d' := 2) (As := [.int (nI (i + 1)), .int (B 5)]) (rest := []) dX11_guards_53 v_X11_339 li_X8_lesser ⟨_, hA.ob (i := 71) rfl (by decide)⟩ rfl rfl rfl (Nat.le_of_ble_eq_true rfl) (Nat.le_of_ble_eq_true rfl) (k_lesser (o := 71) ⟨rfl, rfl, rfl, rfl⟩ (i + 1) rfl (B 5) (by omega) hA) (fun M hM => ?_)
      subst hM
      refine aj.istore (lv' := [(6, .int (iMin (tS V 71 (B 5) (i + 1)) (tS V 71 0 (i + 1)))), (5, .int (nI (i + 1))), (3, .int (nI f)), (4, .int m), (0, .ref a), (1, .int xs), (2, .ref (a + 71))]) dX11_guards_56 (Nat.le_of_ble_eq_true rfl) rfl ?_
      refine aj.iload dX11_guards_58 rfl ?_
      refine aj.iload dX11_guards_60 rfl ?_
      refine aj.icmp_le (tgt := 72) dX11_guards_62 rfl (fun c62 => ?_) (fun c62 => ?_)
      · refine aj.iincN (a := i + 1) (c := 1) (lv' := [(5, .int (nI (i + 1 + 1))), (6, .int (iMin (tS V 71 (B 5) (i + 1)) (tS V 71 0 (i + 1)))), (3, .int (nI f)), (4, .int m), (0, .ref a), (1, .int xs), (2, .ref (a + 71))]) dX11_guards_72 rfl (Nat.le_of_ble_eq_true rfl) rfl rfl rfl ?_
        refine aj.goto (tgt := 36) dX11_guards_75 rfl ?_
        refine aj.pick [0, 2, 3, 4, 5, 6] rfl ?_
        exact ih (i + 1) f m (by omega) (by rw [zmax_s, ← hf, ← hm, if_pos c62]) hm
      · refine aj.iload dX11_guards_65 rfl ?_
        refine aj.istore_n (lv' := [(3, .int (nI (i + 1))), (6, .int (iMin (tS V 71 (B 5) (i + 1)) (tS V 71 0 (i + 1)))), (5, .int (nI (i + 1))), (4, .int m), (0, .ref a), (1, .int xs), (2, .ref (a + 71))]) dX11_guards_67 (Nat.le_of_ble_eq_true rfl) rfl ?_
        refine aj.iload dX11_guards_68 rfl ?_
        refine aj.istore (lv' := [(4, .int (iMin (tS V 71 (B 5) (i + 1)) (tS V 71 0 (i + 1)))), (3, .int (nI (i + 1))), (6, .int (iMin (tS V 71 (B 5) (i + 1)) (tS V 71 0 (i + 1)))), (5, .int (nI (i + 1))), (0, .ref a), (1, .int xs), (2, .ref (a + 71))]) dX11_guards_70 (Nat.le_of_ble_eq_true rfl) rfl ?_
        refine aj.iincN (a := i + 1) (c := 1) (lv' := [(5, .int (nI (i + 1 + 1))), (4, .int (iMin (tS V 71 (B 5) (i + 1)) (tS V 71 0 (i + 1)))), (3, .int (nI (i + 1))), (6, .int (iMin (tS V 71 (B 5) (i + 1)) (tS V 71 0 (i + 1)))), (0, .ref a), (1, .int xs), (2, .ref (a + 71))]) dX11_guards_72 rfl (Nat.le_of_ble_eq_true rfl) rfl rfl rfl ?_
        refine aj.goto (tgt := 36) dX11_guards_75 rfl ?_
        refine aj.pick [0, 2, 1, 4, 5, 6] rfl ?_
        exact ih (i + 1) (i + 1) _ (by omega) (by rw [zmax_s, ← hf, ← hm, if_neg c62]) rfl
theorem p_guards {G : zG} {l : Launch} {a : Nat} {M0 M : zM} {V0 : Nat → Nat → Int32} {W0 : Nat → Nat → Int64} {R : Nat → Nat → Option Nat} {T : Nat} {B : Nat → Int32} {sl ol : Option (List Nat)} {Tm : Nat} (s : Int32) (hM : kW a M0 M V0 W0 R) (hH : cH a M0 V0 R T B sl ol Tm)  : am G l kX11_guards 6 [.ref a, .int s] M 0 0 (zr (.int (if inR s 0 ((mN (B 6) : Int) - 1) then nI (zmax (fun a => mLeast B sl (mN s) a) 20) else -2)) (fun M' => kW a M0 M' V0 W0 R)) := by
  obtain ⟨V, W, hA, hv, hw⟩ := hM
  obtain ⟨hT, hb, hS, hB⟩ := id hH
  have hd0 := (dLaw_of hB).1
  have hd1 := (dLaw_of hB).2
  have h25 := hB.2.2.2.2.2.1
  have h26 := hB.2.2.2.2.2.2.1
  have h27 := hB.2.2.2.2.2.2.2.1
  have h6 := hB.2.2.1
  have hag := hB.2.2.2.2.1
  have hTm := hB.2.2.2.2.2.2.2.2.1
  have h25b := h25.2
  have h26b := h26.2
  have h27b := h27.2
  have h6b := h6.2
  refine am.of (by decide) (Nat.le_of_ble_eq_true rfl) ?_
  refine aj.aload_n dX11_guards_0 rfl ?_
  refine aj.iload_n dX11_guards_1 rfl ?_
  refine aj.callE1 (d' := 0) (As := [.int s]) (rest := []) dX11_guards_2 v_X11_124 li_X11_isShooter ⟨_, hA.ob (i := 0) rfl (by decide)⟩ rfl rfl rfl (Nat.le_of_ble_eq_true rfl) (Nat.le_of_ble_eq_true rfl) (k_isShooter s hH hA) (fun M hM => ?_)
  subst hM
  refine aj.if_neB (tgt := 11) dX11_guards_5 rfl (fun c5 => ?_) (fun c5 => ?_)
  · have h_s := inR_bdS c5 (by omega)
    have h2_s := h_s.2
    refine aj.aload_n dX11_guards_11 rfl ?_
    refine aj.iload_n dX11_guards_12 rfl ?_
    refine aj.callE1 (d' := 5) (As := [.int s]) (rest := []) dX11_guards_13 v_X11_220 li_X11_tableNow ⟨_, hA.ob (i := 0) rfl (by decide)⟩ rfl rfl rfl (Nat.le_of_ble_eq_true rfl) (Nat.le_of_ble_eq_true rfl) (k_tableNow (mN s) h_s.1 (by omega) hH hv hA) (fun M hM => ?_)
    obtain ⟨V, hA, hE, hF⟩ := hM
    have hv := k_tbv hE (by decide) hv
    refine aj.astore_n (lv' := [(2, .ref (a + 71)), (0, .ref a), (1, .int s)]) dX11_guards_16 (Nat.le_of_ble_eq_true rfl) rfl ?_
    refine aj.iconst (v := 0) dX11_guards_17 rfl ?_
    refine aj.istore_n (lv' := [(3, .int 0), (2, .ref (a + 71)), (0, .ref a), (1, .int s)]) dX11_guards_18 (Nat.le_of_ble_eq_true rfl) rfl ?_
    refine aj.aload_n dX11_guards_19 rfl ?_
    refine aj.iconst (v := 0) dX11_guards_20 rfl ?_
    refine aj.aload_n dX11_guards_21 rfl ?_
    refine gT hT hA w378 dX11_guards_22 ?_
    refine gB_cost (hA.bw hb) w217 dX11_guards_25 ?_
    refine aj.callE1 (d' := 2) (As := [.int 0, .int (B 5)]) (rest := []) dX11_guards_28 v_X11_339 li_X8_lesser ⟨_, hA.ob (i := 71) rfl (by decide)⟩ rfl rfl rfl (Nat.le_of_ble_eq_true rfl) (Nat.le_of_ble_eq_true rfl) (k_lesser (o := 71) ⟨rfl, rfl, rfl, rfl⟩ 0 rfl (B 5) (by omega) hA) (fun M hM => ?_)
    subst hM
    refine aj.istore (lv' := [(4, .int (iMin (tS V 71 (B 5) 0) (tS V 71 0 0))), (3, .int 0), (2, .ref (a + 71)), (0, .ref a), (1, .int s)]) dX11_guards_31 (Nat.le_of_ble_eq_true rfl) rfl ?_
    refine aj.iconst (v := 1) dX11_guards_33 rfl ?_
    refine aj.istore (lv' := [(5, .int 1), (4, .int (iMin (tS V 71 (B 5) 0) (tS V 71 0 0))), (3, .int 0), (2, .ref (a + 71)), (0, .ref a), (1, .int s)]) dX11_guards_34 (Nat.le_of_ble_eq_true rfl) rfl ?_
    refine aj.pick [0, 2, 1, 4, 5, 3] rfl ?_
    refine aj.mono (guards_lp hT hb hA 20 0 0 _ (by omega) rfl rfl) (fun r M' hq => ⟨hq.1.trans (by rw [if_pos c5]; congr 3; exact zmax_congr (fun k hk => by rw [tb_sumT hF hk, tb_sumF hF hk, iMin_least])), ?_⟩)
    rw [hq.2]
    exact ⟨_, _, hA, hv, hw⟩
  · refine aj.bipush (v := (-2)) dX11_guards_8 rfl ?_
    exact aj.iret rfl dX11_guards_10 ⟨by rw [if_neg c5], ⟨_, _, hA, hv, hw⟩⟩
