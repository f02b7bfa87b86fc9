/-- within bounds -/
abbrev inR (x : Int32) (lo hi : Int) : Prop := lo ≤ x.toInt ∧ x.toInt ≤ hi
theorem inR_bd {x : Int32} {n : Nat} (h : inR x 0 n) (hn : n < 2 ^ 31) : bd x n := bd_of h.1 h.2 hn
theorem inR_bdS {x : Int32} {n : Nat} (h : inR x 0 ((n : Int) - 1)) (hn : n < 2 ^ 31) : x = nI (mN x) ∧ mN x < n := by
  have h1 := h.1
  have h2 := h.2
  have := bd_of (n := n - 1) h.1 (by omega) (by omega)
  exact ⟨this.1, by have := this.2; omega⟩
theorem inR_64 {x : Int32} {lo hi : Int64} : (lo ≤ x.toInt64 ∧ x.toInt64 ≤ hi) ↔ inR x lo.toInt hi.toInt := by
  unfold inR
  rw [Int64.le_iff_toInt_le, Int64.le_iff_toInt_le, z_i64]
theorem c_withinI {G : zG} {l : Launch} (M : zM) (x : Int32) (lo hi : Int64) {a c : Int} (ha : lo.toInt = a) (hc : hi.toInt = c) : am G l kX12_within 0 [.long x.toInt64, .long lo, .long hi] M 0 0 (zr (.int (zb (inR x a c))) (fun M' => M' = M)) := by
  rw [← zb_iff (inR_64 (x := x) (lo := lo) (hi := hi) |>.trans (by rw [ha, hc]))]
  exact c_within M x.toInt64 lo hi
theorem c_isPlaceI {G : zG} {l : Launch} (M : zM) (x : Int32) : am G l kX12_isPlace 1 [.long x.toInt64] M 0 0 (zr (.int (zb (inR x 0 20))) (fun M' => M' = M)) := by
  have h := c_isPlace (G := G) (l := l) M x.toInt64
  rw [zb_iff (inR_64 (x := x) (lo := 0) (hi := 20))] at h
  exact h
theorem c_isLotI {G : zG} {l : Launch} (M : zM) (x : Int32) : am G l kX12_isLot 1 [.long x.toInt64] M 0 0 (zr (.int (zb (inR x 0 9))) (fun M' => M' = M)) := by
  have h := c_isLot (G := G) (l := l) M x.toInt64
  rw [zb_iff (inR_64 (x := x) (lo := 0) (hi := 9))] at h
  exact h
theorem c_isShooter {G : zG} {l : Launch} {b : Nat} {M0 M : zM} {I : Nat → Int32} {A : Nat → Nat → Int32} {L : Nat → Nat → Int64} (s : Int32) {sl ol : Option (List Nat)} {T : Nat} (hM : mW b M0 M I A L) (hB : mOK (A 1) sl ol T) : am G l kX12_isShooter 1 [.ref b, .long s.toInt64] M 0 0 (zr (.int (zb (inR s 0 ((mN (A 1 6) : Int) - 1)))) (fun M' => mW b M0 M' I A L)) := by
  obtain ⟨u, v, w, hA⟩ := hM
  have hS6 : (A 1 6 - 1).toInt64.toInt = (mN (A 1 6) : Int) - 1 := by
    have h1 := hB.2.2.1
    rw [z_i64]
    have h2 := h1.2
    rw [h1.1, show (1 : Int32) = nI 1 from rfl, pk_sub_toInt (by omega) (by decide)]
    rw [← h1.1]
    rfl
  refine am.of (by decide) (Nat.le_of_ble_eq_true rfl) ?_
  refine aj.lload_n dX12_isShooter_0 rfl ?_
  refine aj.lconst (v := 0) dX12_isShooter_1 rfl ?_
  refine aj.aload_n dX12_isShooter_2 rfl ?_
  refine gM1 rfl dX12_isShooter_3 hA ?_
  refine aj.bipush (v := 6) dX12_isShooter_6 rfl ?_
  refine aM1N (i := 6) dX12_isShooter_8 hA rfl (by omega) ?_
  refine aj.iconst (v := 1) dX12_isShooter_9 rfl ?_
  refine aj.isub dX12_isShooter_10 ?_
  refine aj.i2l dX12_isShooter_11 ?_
  refine aj.callS1 (d' := 0) (As := [.long (Int32.toInt64 s), .long 0, .long (Int32.toInt64 ((A 1 6) - 1))]) (rest := []) dX12_isShooter_12 v_X12_142 w1380 rfl rfl (Nat.le_of_ble_eq_true rfl) (Nat.le_of_ble_eq_true rfl) (c_withinI _ s 0 _ rfl hS6) (fun M hM => ?_)
  subst hM
  exact aj.zret (ty := .boolean) rfl (zb_nar _) dX12_isShooter_15 ⟨rfl, ⟨_, _, _, hA⟩⟩
theorem c_isOpen {G : zG} {l : Launch} {b : Nat} {M0 M : zM} {I : Nat → Int32} {A : Nat → Nat → Int32} {L : Nat → Nat → Int64} (mi : Nat) {x_mi : Int32} (e_mi : x_mi = nI mi) (hu : Nat) {x_hu : Int32} (e_hu : x_hu = nI hu) {sl ol : Option (List Nat)} {T : Nat} (hM : mW b M0 M I A L) (hB : mOK (A 1) sl ol T) (hmi : mi < 2 ^ 30) (hhu : hu < 2 ^ 30) :
    am G l kX12_isOpen 2 [.ref b, .int x_mi, .int x_hu] M 0 0 (zr (.int (zb (mOpen ol (mN (A 1 26)) mi hu = true))) (fun M' => mW b M0 M' I A L)) := by
  have hol := hB.2.2.2.2.2.2.2.2.2.2
  have hwd := hB.2.2.2.2.2.2.1
  cases ol with
  | none => exact c_isOpen_none mi e_mi hu e_hu hM hwd hmi hhu hol
  | some cs => exact c_isOpen_some mi e_mi hu e_hu cs hM hwd hmi hhu hol
theorem c_isOpenNow {G : zG} {l : Launch} {b : Nat} {M0 M : zM} {I : Nat → Int32} {A : Nat → Nat → Int32} {L : Nat → Nat → Int64} {sl ol : Option (List Nat)} {T : Nat}  (hM : mW b M0 M I A L) (hB : mOK (A 1) sl ol T) : am G l kX12_isOpenNow 3 [.ref b] M 0 0 (zr (.int (zb (mOpen ol (mN (A 1 26)) (mN (A 1 27)) (mN (A 1 25)) = true))) (fun M' => mW b M0 M' I A L)) := by
  obtain ⟨u, v, w, hA⟩ := hM
  have hT := hB.2.2.2.2.2.2.2.2.1
  have hN6 := hB.2.2.1.2
  have hN25 := hB.2.2.2.2.2.1.2
  have hN26 := hB.2.2.2.2.2.2.1.2
  have hN27 := hB.2.2.2.2.2.2.2.1.2
  have hN1 := hB.1.1.2
  have hN2 := hB.1.2.1.2
  refine am.of (by decide) (Nat.le_of_ble_eq_true rfl) ?_
  refine aj.aload_n dX12_isOpenNow_0 rfl ?_
  refine aj.aload_n dX12_isOpenNow_1 rfl ?_
  refine gM1 rfl dX12_isOpenNow_2 hA ?_
  refine aj.bipush (v := 27) dX12_isOpenNow_5 rfl ?_
  refine aM1N (i := 27) dX12_isOpenNow_7 hA rfl (by omega) ?_
  refine aj.aload_n dX12_isOpenNow_8 rfl ?_
  refine gM1 rfl dX12_isOpenNow_9 hA ?_
  refine aj.bipush (v := 25) dX12_isOpenNow_12 rfl ?_
  refine aM1N (i := 25) dX12_isOpenNow_14 hA rfl (by omega) ?_
  refine aj.callV1 (d' := 2) (As := [.int (A 1 27), .int (A 1 25)]) (rest := []) dX12_isOpenNow_15 v_X12_229 li_X12_isOpen hA.1 rfl rfl rfl (Nat.le_of_ble_eq_true rfl) (Nat.le_of_ble_eq_true rfl) (c_isOpen (mN (A 1 27)) hB.2.2.2.2.2.2.2.1.1 (mN (A 1 25)) hB.2.2.2.2.2.1.1 ⟨_, _, _, hA⟩ hB (by omega) (by omega)) (fun M hM => ?_)
  obtain ⟨u, v, w, hA⟩ := hM
  exact aj.zret (ty := .boolean) rfl (zb_nar _) dX12_isOpenNow_18 ⟨rfl, ⟨_, _, _, hA⟩⟩
theorem q_far {G : zG} {l : Launch} {b : Nat} {M0 M : zM} {I : Nat → Int32} {A : Nat → Nat → Int32} {L : Nat → Nat → Int64} (p : Int32) (hM : mW b M0 M I A L) {sl ol : Option (List Nat)} {T : Nat}  (hB : mOK (A 1) sl ol T) : am G l kX12_far 2 [.ref b, .int p] M 0 0 (zr (.int (if inR p 0 20 then mFar (A 1) p else -2)) (fun M' => mW b M0 M' I A L)) := by
  obtain ⟨u, v, w, hA⟩ := hM
  have hT := hB.2.2.2.2.2.2.2.2.1
  have hN6 := hB.2.2.1.2
  have hN25 := hB.2.2.2.2.2.1.2
  have hN26 := hB.2.2.2.2.2.2.1.2
  have hN27 := hB.2.2.2.2.2.2.2.1.2
  have hN1 := hB.1.1.2
  have hN2 := hB.1.2.1.2
  refine am.of (by decide) (Nat.le_of_ble_eq_true rfl) ?_
  refine aj.aload_n dX12_far_0 rfl ?_
  refine aj.iconst (v := 0) dX12_far_1 rfl ?_
  refine pM0 rfl dX12_far_2 hA (fun M hA => ?_)
  refine aj.iload_n dX12_far_5 rfl ?_
  refine aj.i2l dX12_far_6 ?_
  refine aj.callS1 (d' := 1) (As := [.long (Int32.toInt64 p)]) (rest := []) dX12_far_7 v_X12_241 w1506 rfl rfl (Nat.le_of_ble_eq_true rfl) (Nat.le_of_ble_eq_true rfl) (c_isPlaceI _ p) (fun M hM => ?_)
  subst hM
  refine aj.if_eqB (tgt := 21) dX12_far_10 rfl (fun c10 => ?_) (fun c10 => ?_)
  · refine aj.bipush (v := (-2)) dX12_far_21 rfl ?_
    exact aj.iret rfl dX12_far_23 ⟨by rw [if_neg c10], ⟨_, _, _, hA⟩⟩
  · have h_p := inR_bd (n := 20) c10 (by decide)
    have h2_p := h_p.2
    refine aj.aload_n dX12_far_13 rfl ?_
    refine aj.iload_n dX12_far_14 rfl ?_
    refine aj.callV1 (d' := 0) (As := [.int p]) (rest := []) dX12_far_15 v_X12_233 li_X12_farOf hA.1 rfl rfl rfl (Nat.le_of_ble_eq_true rfl) (Nat.le_of_ble_eq_true rfl) (c_farOf p ⟨_, _, _, hA⟩) (fun M hM => ?_)
    obtain ⟨u, v, w, hA⟩ := hM
    refine aj.goto (tgt := 23) dX12_far_18 rfl ?_
    exact aj.iret rfl dX12_far_23 ⟨by rw [if_pos c10], ⟨_, _, _, hA⟩⟩
theorem q_points {G : zG} {l : Launch} {b : Nat} {M0 M : zM} {I : Nat → Int32} {A : Nat → Nat → Int32} {L : Nat → Nat → Int64} (s : Int32) (hM : mW b M0 M I A L) {sl ol : Option (List Nat)} {T : Nat}  (hB : mOK (A 1) sl ol T) : am G l kX12_points 2 [.ref b, .int s] M 0 0 (zr (.int (if inR s 0 ((mN (A 1 6) : Int) - 1) then A 1 (17 + mN s) else -99000002)) (fun M' => mW b M0 M' I A L)) := by
  obtain ⟨u, v, w, hA⟩ := hM
  have hT := hB.2.2.2.2.2.2.2.2.1
  have hN6 := hB.2.2.1.2
  have hN25 := hB.2.2.2.2.2.1.2
  have hN26 := hB.2.2.2.2.2.2.1.2
  have hN27 := hB.2.2.2.2.2.2.2.1.2
  have hN1 := hB.1.1.2
  have hN2 := hB.1.2.1.2
  refine am.of (by decide) (Nat.le_of_ble_eq_true rfl) ?_
  refine aj.aload_n dX12_points_0 rfl ?_
  refine aj.iconst (v := 0) dX12_points_1 rfl ?_
  refine pM0 rfl dX12_points_2 hA (fun M hA => ?_)
  refine aj.aload_n dX12_points_5 rfl ?_
  refine aj.iload_n dX12_points_6 rfl ?_
  refine aj.i2l dX12_points_7 ?_
  refine aj.callV1 (d' := 1) (As := [.long (Int32.toInt64 s)]) (rest := []) dX12_points_8 v_X12_236 li_X12_isShooter hA.1 rfl rfl rfl (Nat.le_of_ble_eq_true rfl) (Nat.le_of_ble_eq_true rfl) (c_isShooter s ⟨_, _, _, hA⟩ hB) (fun M hM => ?_)
  obtain ⟨u, v, w, hA⟩ := hM
  refine aj.if_eqB (tgt := 26) dX12_points_11 rfl (fun c11 => ?_) (fun c11 => ?_)
  · refine aj.ldc dX12_points_26 w1500 ?_
    exact aj.iret rfl dX12_points_28 ⟨by rw [if_neg c11], ⟨_, _, _, hA⟩⟩
  · have h_s := inR_bdS c11 (by omega)
    have h2_s := h_s.2
    refine aj.aload_n dX12_points_14 rfl ?_
    refine gM1 rfl dX12_points_15 hA ?_
    refine aj.bipush (v := 17) dX12_points_18 rfl ?_
    refine aj.iload_n dX12_points_20 rfl ?_
    refine aj.iaddN (a := 17) (b := mN s) dX12_points_21 rfl h_s.1 ?_
    refine aM1N (i := 17 + (mN s)) dX12_points_22 hA rfl (by omega) ?_
    refine aj.goto (tgt := 28) dX12_points_23 rfl ?_
    exact aj.iret rfl dX12_points_28 ⟨by rw [if_pos c11], ⟨_, _, _, hA⟩⟩
theorem q_shooter {G : zG} {l : Launch} {b : Nat} {M0 M : zM} {I : Nat → Int32} {A : Nat → Nat → Int32} {L : Nat → Nat → Int64} (s : Int32) (q : Int32) (hM : mW b M0 M I A L) {sl ol : Option (List Nat)} {T : Nat}  (hB : mOK (A 1) sl ol T) : am G l kX12_shooter 2 [.ref b, .int s, .int q] M 0 0 (zr (.int (if inR s 0 ((mN (A 1 6) : Int) - 1) then (if q = 0 then A 1 (13 + mN s) else if q = 1 then A 1 (21 + mN s) else -2) else -2)) (fun M' => mW b M0 M' I A L)) := by
  obtain ⟨u, v, w, hA⟩ := hM
  have hT := hB.2.2.2.2.2.2.2.2.1
  have hN6 := hB.2.2.1.2
  have hN25 := hB.2.2.2.2.2.1.2
  have hN26 := hB.2.2.2.2.2.2.1.2
  have hN27 := hB.2.2.2.2.2.2.2.1.2
  have hN1 := hB.1.1.2
  have hN2 := hB.1.2.1.2
  refine am.of (by decide) (Nat.le_of_ble_eq_true rfl) ?_
  refine aj.aload_n dX12_shooter_0 rfl ?_
  refine aj.iconst (v := 0) dX12_shooter_1 rfl ?_
  refine pM0 rfl dX12_shooter_2 hA (fun M hA => ?_)
  refine aj.aload_n dX12_shooter_5 rfl ?_
  refine aj.iload_n dX12_shooter_6 rfl ?_
  refine aj.i2l dX12_shooter_7 ?_
  refine aj.callV1 (d' := 1) (As := [.long (Int32.toInt64 s)]) (rest := []) dX12_shooter_8 v_X12_236 li_X12_isShooter hA.1 rfl rfl rfl (Nat.le_of_ble_eq_true rfl) (Nat.le_of_ble_eq_true rfl) (c_isShooter s ⟨_, _, _, hA⟩ hB) (fun M hM => ?_)
  obtain ⟨u, v, w, hA⟩ := hM
  refine aj.if_neB (tgt := 17) dX12_shooter_11 rfl (fun c11 => ?_) (fun c11 => ?_)
  · have h_s := inR_bdS c11 (by omega)
    have h2_s := h_s.2
    refine aj.iload_n dX12_shooter_17 rfl ?_
    refine aj.if_ne (tgt := 33) dX12_shooter_18 rfl (fun c18 => ?_) (fun c18 => ?_)
    · refine aj.iload_n dX12_shooter_33 rfl ?_
      refine aj.iconst (v := 1) dX12_shooter_34 rfl ?_
      refine aj.icmp_ne (tgt := 50) dX12_shooter_35 rfl (fun c35 => ?_) (fun c35 => ?_)
      · refine aj.bipush (v := (-2)) dX12_shooter_50 rfl ?_
        exact aj.iret rfl dX12_shooter_52 ⟨by rw [if_pos c11, if_neg c18, if_neg c35], ⟨_, _, _, hA⟩⟩
      · refine aj.aload_n dX12_shooter_38 rfl ?_
        refine gM1 rfl dX12_shooter_39 hA ?_
        refine aj.bipush (v := 21) dX12_shooter_42 rfl ?_
        refine aj.iload_n dX12_shooter_44 rfl ?_
        refine aj.iaddN (a := 21) (b := mN s) dX12_shooter_45 rfl h_s.1 ?_
        refine aM1N (i := 21 + (mN s)) dX12_shooter_46 hA rfl (by omega) ?_
        refine aj.goto (tgt := 52) dX12_shooter_47 rfl ?_
        exact aj.iret rfl dX12_shooter_52 ⟨by rw [if_pos c11, if_neg c18, if_pos c35], ⟨_, _, _, hA⟩⟩
    · refine aj.aload_n dX12_shooter_21 rfl ?_
      refine gM1 rfl dX12_shooter_22 hA ?_
      refine aj.bipush (v := 13) dX12_shooter_25 rfl ?_
      refine aj.iload_n dX12_shooter_27 rfl ?_
      refine aj.iaddN (a := 13) (b := mN s) dX12_shooter_28 rfl h_s.1 ?_
      refine aM1N (i := 13 + (mN s)) dX12_shooter_29 hA rfl (by omega) ?_
      refine aj.goto (tgt := 52) dX12_shooter_30 rfl ?_
      exact aj.iret rfl dX12_shooter_52 ⟨by rw [if_pos c11, if_pos c18], ⟨_, _, _, hA⟩⟩
  · refine aj.bipush (v := (-2)) dX12_shooter_14 rfl ?_
    exact aj.iret rfl dX12_shooter_16 ⟨by rw [if_neg c11], ⟨_, _, _, hA⟩⟩
theorem q_lands {G : zG} {l : Launch} {b : Nat} {M0 M : zM} {I : Nat → Int32} {A : Nat → Nat → Int32} {L : Nat → Nat → Int64} (s : Int32) (aim : Int32) (lot : Int32) (hM : mW b M0 M I A L) {sl ol : Option (List Nat)} {T : Nat}  (hB : mOK (A 1) sl ol T) : am G l kX12_lands 4 [.ref b, .int s, .int aim, .int lot] M 0 0 (zr (.int (if inR s 0 ((mN (A 1 6) : Int) - 1) ∧ inR aim 0 20 ∧ inR lot 0 9 then nI (mLand sl (A 1 (13 + mN s)) (mN (A 1 (21 + mN s))) (mN (A 1 26)) (mN aim) (mN lot)) else -2)) (fun M' => mW b M0 M' I A L)) := by
  obtain ⟨u, v, w, hA⟩ := hM
  have hT := hB.2.2.2.2.2.2.2.2.1
  have hN6 := hB.2.2.1.2
  have hN25 := hB.2.2.2.2.2.1.2
  have hN26 := hB.2.2.2.2.2.2.1.2
  have hN27 := hB.2.2.2.2.2.2.2.1.2
  have hN1 := hB.1.1.2
  have hN2 := hB.1.2.1.2
  refine am.of (by decide) (Nat.le_of_ble_eq_true rfl) ?_
  refine aj.aload_n dX12_lands_0 rfl ?_
  refine aj.iconst (v := 0) dX12_lands_1 rfl ?_
  refine pM0 rfl dX12_lands_2 hA (fun M hA => ?_)
  refine aj.aload_n dX12_lands_5 rfl ?_
  refine aj.iload_n dX12_lands_6 rfl ?_
  refine aj.i2l dX12_lands_7 ?_
  refine aj.callV1 (d' := 1) (As := [.long (Int32.toInt64 s)]) (rest := []) dX12_lands_8 v_X12_236 li_X12_isShooter hA.1 rfl rfl rfl (Nat.le_of_ble_eq_true rfl) (Nat.le_of_ble_eq_true rfl) (c_isShooter s ⟨_, _, _, hA⟩ hB) (fun M hM => ?_)
  obtain ⟨u, v, w, hA⟩ := hM
  refine aj.if_eqB (tgt := 40) dX12_lands_11 rfl (fun c11 => ?_) (fun c11 => ?_)
  · refine aj.bipush (v := (-2)) dX12_lands_40 rfl ?_
    exact aj.iret rfl dX12_lands_42 ⟨by rw [if_neg (fun q => c11 q.1)], ⟨_, _, _, hA⟩⟩
  · have h_s := inR_bdS c11 (by omega)
    have h2_s := h_s.2
    refine aj.iload_n dX12_lands_14 rfl ?_
    refine aj.i2l dX12_lands_15 ?_
    refine aj.callS1 (d' := 1) (As := [.long (Int32.toInt64 aim)]) (rest := []) dX12_lands_16 v_X12_241 w1506 rfl rfl (Nat.le_of_ble_eq_true rfl) (Nat.le_of_ble_eq_true rfl) (c_isPlaceI _ aim) (fun M hM => ?_)
    subst hM
    refine aj.if_eqB (tgt := 40) dX12_lands_19 rfl (fun c19 => ?_) (fun c19 => ?_)
    · refine aj.bipush (v := (-2)) dX12_lands_40 rfl ?_
      exact aj.iret rfl dX12_lands_42 ⟨by rw [if_neg (fun q => c19 q.2.1)], ⟨_, _, _, hA⟩⟩
    · have h_aim := inR_bd (n := 20) c19 (by decide)
      have h2_aim := h_aim.2
      refine aj.iload_n dX12_lands_22 rfl ?_
      refine aj.i2l dX12_lands_23 ?_
      refine aj.callS1 (d' := 1) (As := [.long (Int32.toInt64 lot)]) (rest := []) dX12_lands_24 v_X12_244 w1510 rfl rfl (Nat.le_of_ble_eq_true rfl) (Nat.le_of_ble_eq_true rfl) (c_isLotI _ lot) (fun M hM => ?_)
      subst hM
      refine aj.if_eqB (tgt := 40) dX12_lands_27 rfl (fun c27 => ?_) (fun c27 => ?_)
      · refine aj.bipush (v := (-2)) dX12_lands_40 rfl ?_
        exact aj.iret rfl dX12_lands_42 ⟨by rw [if_neg (fun q => c27 q.2.2)], ⟨_, _, _, hA⟩⟩
      · have h_lot := inR_bd (n := 9) c27 (by decide)
        have h2_lot := h_lot.2
        refine aj.aload_n dX12_lands_30 rfl ?_
        refine aj.iload_n dX12_lands_31 rfl ?_
        refine aj.iload_n dX12_lands_32 rfl ?_
        refine aj.iload_n dX12_lands_33 rfl ?_
        refine aj.callV1 (d' := 3) (As := [.int s, .int aim, .int lot]) (rest := []) dX12_lands_34 v_X12_247 li_X12_landsNow hA.1 rfl rfl rfl (Nat.le_of_ble_eq_true rfl) (Nat.le_of_ble_eq_true rfl) (c_landsNow (mN s) h_s.1 (mN aim) h_aim.1 (mN lot) h_lot.1 ⟨_, _, _, hA⟩ hB (by omega) (by omega) (by omega)) (fun M hM => ?_)
        obtain ⟨u, v, w, hA⟩ := hM
        refine aj.goto (tgt := 42) dX12_lands_37 rfl ?_
        exact aj.iret rfl dX12_lands_42 ⟨by rw [if_pos ⟨c11, c19, c27⟩], ⟨_, _, _, hA⟩⟩
theorem q_scores {G : zG} {l : Launch} {b : Nat} {M0 M : zM} {I : Nat → Int32} {A : Nat → Nat → Int32} {L : Nat → Nat → Int64} (p : Int32) (hM : mW b M0 M I A L) {sl ol : Option (List Nat)} {T : Nat}  (hB : mOK (A 1) sl ol T) : am G l kX12_scores 4 [.ref b, .int p] M 0 0 (zr (.int (if inR p 0 20 then mScore (A 1) p (mOpen ol (mN (A 1 26)) (mN (A 1 27)) (mN (A 1 25)) = true) else -99000002)) (fun M' => mW b M0 M' I A L)) := by
  obtain ⟨u, v, w, hA⟩ := hM
  have hT := hB.2.2.2.2.2.2.2.2.1
  have hN6 := hB.2.2.1.2
  have hN25 := hB.2.2.2.2.2.1.2
  have hN26 := hB.2.2.2.2.2.2.1.2
  have hN27 := hB.2.2.2.2.2.2.2.1.2
  have hN1 := hB.1.1.2
  have hN2 := hB.1.2.1.2
  refine am.of (by decide) (Nat.le_of_ble_eq_true rfl) ?_
  refine aj.aload_n dX12_scores_0 rfl ?_
  refine aj.iconst (v := 0) dX12_scores_1 rfl ?_
  refine pM0 rfl dX12_scores_2 hA (fun M hA => ?_)
  refine aj.iload_n dX12_scores_5 rfl ?_
  refine aj.i2l dX12_scores_6 ?_
  refine aj.callS1 (d' := 1) (As := [.long (Int32.toInt64 p)]) (rest := []) dX12_scores_7 v_X12_241 w1506 rfl rfl (Nat.le_of_ble_eq_true rfl) (Nat.le_of_ble_eq_true rfl) (c_isPlaceI _ p) (fun M hM => ?_)
  subst hM
  refine aj.if_eqB (tgt := 25) dX12_scores_10 rfl (fun c10 => ?_) (fun c10 => ?_)
  · refine aj.ldc dX12_scores_25 w1500 ?_
    exact aj.iret rfl dX12_scores_27 ⟨by rw [if_neg c10], ⟨_, _, _, hA⟩⟩
  · have h_p := inR_bd (n := 20) c10 (by decide)
    have h2_p := h_p.2
    refine aj.aload_n dX12_scores_13 rfl ?_
    refine aj.iload_n dX12_scores_14 rfl ?_
    refine aj.aload_n dX12_scores_15 rfl ?_
    refine aj.callV1 (d' := 3) (As := []) (rest := [.int p, .ref b]) dX12_scores_16 v_X12_250 li_X12_isOpenNow hA.1 rfl rfl rfl (Nat.le_of_ble_eq_true rfl) (Nat.le_of_ble_eq_true rfl) (c_isOpenNow ⟨_, _, _, hA⟩ hB) (fun M hM => ?_)
    obtain ⟨u, v, w, hA⟩ := hM
    refine aj.callV1 (d' := 1) (As := [.int p, .int (zb (mOpen ol (mN (A 1 26)) (mN (A 1 27)) (mN (A 1 25)) = true))]) (rest := []) dX12_scores_19 v_X12_254 li_X12_scoresAt hA.1 rfl rfl rfl (Nat.le_of_ble_eq_true rfl) (Nat.le_of_ble_eq_true rfl) (c_scoresAt p (mOpen ol (mN (A 1 26)) (mN (A 1 27)) (mN (A 1 25)) = true) ⟨_, _, _, hA⟩) (fun M hM => ?_)
    obtain ⟨u, v, w, hA⟩ := hM
    refine aj.goto (tgt := 27) dX12_scores_22 rfl ?_
    exact aj.iret rfl dX12_scores_27 ⟨by rw [if_pos c10], ⟨_, _, _, hA⟩⟩
theorem q_open {G : zG} {l : Launch} {b : Nat} {M0 M : zM} {I : Nat → Int32} {A : Nat → Nat → Int32} {L : Nat → Nat → Int64} (n : Int32) (hM : mW b M0 M I A L) {sl ol : Option (List Nat)} {T : Nat}  (hB : mOK (A 1) sl ol T) : am G l kX12_open 3 [.ref b, .int n] M 0 0 (zr (.int (if inR n 0 99 then zb (mOpen ol (mN (A 1 26)) (mN (A 1 27) + mN n) (mN (A 1 25)) = true) else -3)) (fun M' => mW b M0 M' I A L)) := by
  obtain ⟨u, v, w, hA⟩ := hM
  have hT := hB.2.2.2.2.2.2.2.2.1
  have hN6 := hB.2.2.1.2
  have hN25 := hB.2.2.2.2.2.1.2
  have hN26 := hB.2.2.2.2.2.2.1.2
  have hN27 := hB.2.2.2.2.2.2.2.1.2
  have hN1 := hB.1.1.2
  have hN2 := hB.1.2.1.2
  refine am.of (by decide) (Nat.le_of_ble_eq_true rfl) ?_
  refine aj.aload_n dX12_open_0 rfl ?_
  refine aj.iconst (v := 0) dX12_open_1 rfl ?_
  refine pM0 rfl dX12_open_2 hA (fun M hA => ?_)
  refine aj.iload_n dX12_open_5 rfl ?_
  refine aj.i2l dX12_open_6 ?_
  refine aj.lconst (v := 0) dX12_open_7 rfl ?_
  refine aj.ldc2 dX12_open_8 w1561 ?_
  refine aj.callS1 (d' := 0) (As := [.long (Int32.toInt64 n), .long 0, .long 99]) (rest := []) dX12_open_11 v_X12_142 w1380 rfl rfl (Nat.le_of_ble_eq_true rfl) (Nat.le_of_ble_eq_true rfl) (c_withinI (a := 0) (c := 99) _ n 0 99 rfl rfl) (fun M hM => ?_)
  subst hM
  refine aj.if_neB (tgt := 20) dX12_open_14 rfl (fun c14 => ?_) (fun c14 => ?_)
  · have h_n := inR_bd (n := 99) c14 (by decide)
    have h2_n := h_n.2
    refine aj.aload_n dX12_open_20 rfl ?_
    refine aj.aload_n dX12_open_21 rfl ?_
    refine gM1 rfl dX12_open_22 hA ?_
    refine aj.bipush (v := 27) dX12_open_25 rfl ?_
    refine aM1N (i := 27) dX12_open_27 hA rfl (by omega) ?_
    refine aj.iload_n dX12_open_28 rfl ?_
    refine aj.iaddN (a := mN (A 1 27)) (b := mN n) dX12_open_29 hB.2.2.2.2.2.2.2.1.1 h_n.1 ?_
    refine aj.aload_n dX12_open_30 rfl ?_
    refine gM1 rfl dX12_open_31 hA ?_
    refine aj.bipush (v := 25) dX12_open_34 rfl ?_
    refine aM1N (i := 25) dX12_open_36 hA rfl (by omega) ?_
    refine aj.callV1 (d' := 2) (As := [.int (nI ((mN (A 1 27)) + (mN n))), .int (A 1 25)]) (rest := []) dX12_open_37 v_X12_229 li_X12_isOpen hA.1 rfl rfl rfl (Nat.le_of_ble_eq_true rfl) (Nat.le_of_ble_eq_true rfl) (c_isOpen ((mN (A 1 27)) + (mN n)) rfl (mN (A 1 25)) hB.2.2.2.2.2.1.1 ⟨_, _, _, hA⟩ hB (by omega) (by omega)) (fun M hM => ?_)
    obtain ⟨u, v, w, hA⟩ := hM
    refine aj.if_eqB (tgt := 47) dX12_open_40 rfl (fun c40 => ?_) (fun c40 => ?_)
    · refine aj.iconst (v := 0) dX12_open_47 rfl ?_
      exact aj.iret rfl dX12_open_48 ⟨by rw [if_pos c14, zb_f c40], ⟨_, _, _, hA⟩⟩
    · refine aj.iconst (v := 1) dX12_open_43 rfl ?_
      refine aj.goto (tgt := 48) dX12_open_44 rfl ?_
      exact aj.iret rfl dX12_open_48 ⟨by rw [if_pos c14, zb_t c40], ⟨_, _, _, hA⟩⟩
  · refine aj.bipush (v := (-3)) dX12_open_17 rfl ?_
    exact aj.iret rfl dX12_open_19 ⟨by rw [if_neg c14], ⟨_, _, _, hA⟩⟩
