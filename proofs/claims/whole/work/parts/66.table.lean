theorem k_isPlaceN {G : zG} {l : Launch} (M : zM) (q : Nat) (h : q ≤ 20) : am G l kX11_isPlace 0 [.long (lN q)] M 0 0 (zr (.int 1) (fun M' => M' = M)) := by
  have h1 := k_isPlace (G := G) (l := l) M (lN q)
  rw [zb_t ⟨by rw [show (0 : Int64) = lN 0 from rfl, lN_le (by decide) (by omega)]; omega, by rw [show (20 : Int64) = lN 20 from rfl, lN_le (by omega) (by decide)]; omega⟩] at h1
  exact h1
theorem k_isLotN {G : zG} {l : Launch} (M : zM) (q : Nat) (h : q ≤ 9) : am G l kX11_isLot 0 [.long (lN q)] M 0 0 (zr (.int 1) (fun M' => M' = M)) := by
  have h1 := k_isLot (G := G) (l := l) M (lN q)
  rw [zb_t ⟨by rw [show (0 : Int64) = lN 0 from rfl, lN_le (by decide) (by omega)]; omega, by rw [show (9 : Int64) = lN 9 from rfl, lN_le (by omega) (by decide)]; omega⟩] at h1
  exact h1
theorem k_touchCount {G : zG} {l : Launch} {a : Nat} {M0 M : zM} {V : Nat → Nat → Int32} {W : Nat → Nat → Int64} {R : Nat → Nat → Option Nat} {o : Nat} (hk : kTb o) (aim : Nat) {x_aim : Int32} (e_aim : x_aim = nI aim) (ha : aim ≤ 20) (hA : kA a M0 M V W R) : am G l kX8_touchCount 1 [.ref (a + o), .int x_aim] M 0 0 (zr (.int (V (o + 2) aim)) (fun M' => M' = M)) := by
  refine am.of (by decide) (Nat.le_of_ble_eq_true rfl) ?_
  refine aj.iload_n dX8_touchCount_0 rfl ?_
  refine aj.i2lN (a := aim) dX8_touchCount_1 e_aim (by omega) ?_
  refine aj.callSN1 (d' := 0) (As := [.long (lN aim)]) (rest := []) dX8_touchCount_2 v_X8_57 w748 rfl rfl (Nat.le_of_ble_eq_true rfl) (Nat.le_of_ble_eq_true rfl) (k_isPlaceN _ aim (by omega)) (fun M hM => ?_)
  subst hM
  refine aj.if_eqN (a := 1) (tgt := 17) dX8_touchCount_5 rfl (by omega) rfl (fun c5 => ?_) (fun c5 => ?_)
  · exact absurd c5 (by decide)
  · refine aj.aload_n dX8_touchCount_8 rfl ?_
    refine gX8_touched (i := o) hk.1 hA w366 dX8_touchCount_9 ?_
    refine aj.iload_n dX8_touchCount_12 rfl ?_
    refine aj.kL (i := (o + 2)) (j := aim) hk.2.2.1 dX8_touchCount_13 hA e_aim (by omega) (by decide) ?_
    refine aj.goto (tgt := 18) dX8_touchCount_14 rfl ?_
    exact aj.iret rfl dX8_touchCount_18 ⟨rfl, rfl⟩
theorem k_sum {G : zG} {l : Launch} {a : Nat} {M0 M : zM} {V : Nat → Nat → Int32} {W : Nat → Nat → Int64} {R : Nat → Nat → Option Nat} {o : Nat} (hk : kTb o) (aim : Nat) {x_aim : Int32} (e_aim : x_aim = nI aim) (x : Int32) (ha : aim ≤ 20) (hA : kA a M0 M V W R) : am G l kX8_sum 1 [.ref (a + o), .int x_aim, .int x] M 0 0 (zr (.int (V (o + 3) aim - x * V (o + 2) aim)) (fun M' => M' = M)) := by
  refine am.of (by decide) (Nat.le_of_ble_eq_true rfl) ?_
  refine aj.iload_n dX8_sum_0 rfl ?_
  refine aj.i2lN (a := aim) dX8_sum_1 e_aim (by omega) ?_
  refine aj.callSN1 (d' := 0) (As := [.long (lN aim)]) (rest := []) dX8_sum_2 v_X8_57 w748 rfl rfl (Nat.le_of_ble_eq_true rfl) (Nat.le_of_ble_eq_true rfl) (k_isPlaceN _ aim (by omega)) (fun M hM => ?_)
  subst hM
  refine aj.if_eqN (a := 1) (tgt := 26) dX8_sum_5 rfl (by omega) rfl (fun c5 => ?_) (fun c5 => ?_)
  · exact absurd c5 (by decide)
  · refine aj.aload_n dX8_sum_8 rfl ?_
    refine gX8_missed (i := o) hk.1 hA w367 dX8_sum_9 ?_
    refine aj.iload_n dX8_sum_12 rfl ?_
    refine aj.kL (i := (o + 3)) (j := aim) hk.2.2.2 dX8_sum_13 hA e_aim (by omega) (by decide) ?_
    refine aj.iload_n dX8_sum_14 rfl ?_
    refine aj.aload_n dX8_sum_15 rfl ?_
    refine gX8_touched (i := o) hk.1 hA w366 dX8_sum_16 ?_
    refine aj.iload_n dX8_sum_19 rfl ?_
    refine aj.kL (i := (o + 2)) (j := aim) hk.2.2.1 dX8_sum_20 hA e_aim (by omega) (by decide) ?_
    refine aj.imul dX8_sum_21 ?_
    refine aj.isub dX8_sum_22 ?_
    refine aj.goto (tgt := 27) dX8_sum_23 rfl ?_
    exact aj.iret rfl dX8_sum_27 ⟨rfl, rfl⟩
theorem k_landingAt {G : zG} {l : Launch} {a : Nat} {M0 M : zM} {V : Nat → Nat → Int32} {W : Nat → Nat → Int64} {R : Nat → Nat → Option Nat} {o : Nat} (hk : kTb o) (aim : Nat) {x_aim : Int32} (e_aim : x_aim = nI aim) (lot : Nat) {x_lot : Int32} (e_lot : x_lot = nI lot) (ha : aim ≤ 20) (hl : lot ≤ 9) (hA : kA a M0 M V W R) : am G l kX8_landingAt 1 [.ref (a + o), .int x_aim, .int x_lot] M 0 0 (zr (.int (V (o + 1) (aim * 10 + lot))) (fun M' => M' = M)) := by
  refine am.of (by decide) (Nat.le_of_ble_eq_true rfl) ?_
  refine aj.iload_n dX8_landingAt_0 rfl ?_
  refine aj.i2lN (a := aim) dX8_landingAt_1 e_aim (by omega) ?_
  refine aj.callSN1 (d' := 0) (As := [.long (lN aim)]) (rest := []) dX8_landingAt_2 v_X8_57 w748 rfl rfl (Nat.le_of_ble_eq_true rfl) (Nat.le_of_ble_eq_true rfl) (k_isPlaceN _ aim (by omega)) (fun M hM => ?_)
  subst hM
  refine aj.if_eqN (a := 1) (tgt := 30) dX8_landingAt_5 rfl (by omega) rfl (fun c5 => ?_) (fun c5 => ?_)
  · exact absurd c5 (by decide)
  · refine aj.iload_n dX8_landingAt_8 rfl ?_
    refine aj.i2lN (a := lot) dX8_landingAt_9 e_lot (by omega) ?_
    refine aj.callSN1 (d' := 0) (As := [.long (lN lot)]) (rest := []) dX8_landingAt_10 v_X8_61 w752 rfl rfl (Nat.le_of_ble_eq_true rfl) (Nat.le_of_ble_eq_true rfl) (k_isLotN _ lot (by omega)) (fun M hM => ?_)
    subst hM
    refine aj.if_eqN (a := 1) (tgt := 30) dX8_landingAt_13 rfl (by omega) rfl (fun c13 => ?_) (fun c13 => ?_)
    · exact absurd c13 (by decide)
    · refine aj.aload_n dX8_landingAt_16 rfl ?_
      refine gX8_landings (i := o) hk.1 hA w365 dX8_landingAt_17 ?_
      refine aj.iload_n dX8_landingAt_20 rfl ?_
      refine aj.bipush (v := 10) dX8_landingAt_21 rfl ?_
      refine aj.imulN (a := aim) (b := 10) dX8_landingAt_23 e_aim rfl ?_
      refine aj.iload_n dX8_landingAt_24 rfl ?_
      refine aj.iaddN (a := aim * 10) (b := lot) dX8_landingAt_25 rfl e_lot ?_
      refine aj.kL (i := (o + 1)) (j := (aim * 10) + lot) hk.2.1 dX8_landingAt_26 hA rfl (by omega) (by decide) ?_
      refine aj.goto (tgt := 31) dX8_landingAt_27 rfl ?_
      exact aj.iret rfl dX8_landingAt_31 ⟨rfl, rfl⟩
theorem k_lesser {G : zG} {l : Launch} {a : Nat} {M0 M : zM} {V : Nat → Nat → Int32} {W : Nat → Nat → Int64} {R : Nat → Nat → Option Nat} {o : Nat} (hk : kTb o) (aim : Nat) {x_aim : Int32} (e_aim : x_aim = nI aim) (x : Int32) (ha : aim ≤ 20) (hA : kA a M0 M V W R) : am G l kX8_lesser 2 [.ref (a + o), .int x_aim, .int x] M 0 0 (zr (.int (iMin (V (o + 3) aim - x * V (o + 2) aim) (V (o + 3) aim - 0 * V (o + 2) aim))) (fun M' => M' = M)) := by
  refine am.of (by decide) (Nat.le_of_ble_eq_true rfl) ?_
  refine aj.aload_n dX8_lesser_0 rfl ?_
  refine aj.iload_n dX8_lesser_1 rfl ?_
  refine aj.iload_n dX8_lesser_2 rfl ?_
  refine aj.callE1 (d' := 1) (As := [.int x_aim, .int x]) (rest := []) dX8_lesser_3 v_X8_64 li_X8_sum ⟨_, hA.ob (i := o) hk.1 (by decide)⟩ rfl rfl rfl (Nat.le_of_ble_eq_true rfl) (Nat.le_of_ble_eq_true rfl) (k_sum (o := o) hk aim e_aim x (by omega) hA) (fun M hM => ?_)
  subst hM
  refine aj.aload_n dX8_lesser_6 rfl ?_
  refine aj.iload_n dX8_lesser_7 rfl ?_
  refine aj.iconst (v := 0) dX8_lesser_8 rfl ?_
  refine aj.callE1 (d' := 1) (As := [.int x_aim, .int 0]) (rest := [.int (V (o + 3) aim - x * V (o + 2) aim)]) dX8_lesser_9 v_X8_64 li_X8_sum ⟨_, hA.ob (i := o) hk.1 (by decide)⟩ rfl rfl rfl (Nat.le_of_ble_eq_true rfl) (Nat.le_of_ble_eq_true rfl) (k_sum (o := o) hk aim e_aim 0 (by omega) hA) (fun M hM => ?_)
  subst hM
  refine aj.mmin dX8_lesser_12 w1209 (Nat.le_of_ble_eq_true rfl) (Nat.le_of_ble_eq_true rfl) ?_
  exact aj.iret rfl dX8_lesser_15 ⟨rfl, rfl⟩
/-- what a table tells of an aim, a touch costing so much -/
def tS (V : Nat → Nat → Int32) (o : Nat) (x : Int32) (aim : Nat) : Int32 := V (o + 3) aim - x * V (o + 2) aim
theorem best_loop {G : zG} {l : Launch} {a : Nat} {M0 M : zM} {V : Nat → Nat → Int32} {W : Nat → Nat → Int64} {R : Nat → Nat → Option Nat} {o : Nat} (hk : kTb o) {x : Int32} (hA : kA a M0 M V W R) : ∀ (n i f : Nat) (m : Int32), i + n = 20 → f = zmax (tS V o x) i → m = tS V o x f → aj G l kX8_best 2 12 [(4, .int (nI (i + 1))), (2, .int (nI f)), (3, .int m), (0, .ref (a + o)), (1, .int x)] [] M 0 0 (zr (.int (nI (zmax (tS V o x) 20))) (fun M' => M' = M)) := by
  intro n
  induction n with
  | zero =>
    intro i f m hin hf hm
    have hfl := zmax_le (tS V o x) i
    refine aj.iload dX8_best_12 rfl ?_
    refine aj.bipush (v := 21) dX8_best_14 rfl ?_
    refine aj.icmp_geN (a := i + 1) (b := 21) (tgt := 46) dX8_best_16 rfl rfl (by omega) (by omega) rfl (fun c16 => ?_) (fun c16 => ?_)
    · refine aj.iload_n dX8_best_46 rfl ?_
      exact aj.iret rfl dX8_best_47 ⟨by rw [hf, show i = 20 by omega], rfl⟩
    · exact absurd c16 (by omega)
  | succ n ih =>
    intro i f m hin hf hm
    have hfl := zmax_le (tS V o x) i
    refine aj.iload dX8_best_12 rfl ?_
    refine aj.bipush (v := 21) dX8_best_14 rfl ?_
    refine aj.icmp_geN (a := i + 1) (b := 21) (tgt := 46) dX8_best_16 rfl rfl (by omega) (by omega) rfl (fun c16 => ?_) (fun c16 => ?_)
    · exact absurd c16 (by omega)
    · refine aj.aload_n dX8_best_19 rfl ?_
      refine aj.iload dX8_best_20 rfl ?_
      refine aj.iload_n dX8_best_22 rfl ?_
      refine aj.callE1 (d' := 1) (As := [.int (nI (i + 1)), .int x]) (rest := []) dX8_best_23 v_X8_64 li_X8_sum ⟨_, hA.ob (i := o) hk.1 (by decide)⟩ rfl rfl rfl (Nat.le_of_ble_eq_true rfl) (Nat.le_of_ble_eq_true rfl) (k_sum (o := o) hk (i + 1) rfl x (by omega) hA) (fun M hM => ?_)
      subst hM
      refine aj.istore (lv' := [(5, .int (V (o + 3) (i + 1) - x * V (o + 2) (i + 1))), (4, .int (nI (i + 1))), (2, .int (nI f)), (3, .int m), (0, .ref (a + o)), (1, .int x)]) dX8_best_26 (Nat.le_of_ble_eq_true rfl) rfl ?_
      refine aj.iload dX8_best_28 rfl ?_
      refine aj.iload_n dX8_best_30 rfl ?_
      refine aj.icmp_le (tgt := 40) dX8_best_31 rfl (fun c31 => ?_) (fun c31 => ?_)
      · refine aj.iincN (a := i + 1) (c := 1) (lv' := [(4, .int (nI (i + 1 + 1))), (5, .int (V (o + 3) (i + 1) - x * V (o + 2) (i + 1))), (2, .int (nI f)), (3, .int m), (0, .ref (a + o)), (1, .int x)]) dX8_best_40 rfl (Nat.le_of_ble_eq_true rfl) rfl rfl rfl ?_
        refine aj.goto (tgt := 12) dX8_best_43 rfl ?_
        refine aj.pick [0, 2, 3, 4, 5] rfl ?_
        exact ih (i + 1) f m (by omega) (by rw [zmax_s, ← hf, ← hm, if_pos (show tS V o x (i + 1) ≤ m from c31)]) hm
      · refine aj.iload dX8_best_34 rfl ?_
        refine aj.istore_n (lv' := [(2, .int (nI (i + 1))), (5, .int (V (o + 3) (i + 1) - x * V (o + 2) (i + 1))), (4, .int (nI (i + 1))), (3, .int m), (0, .ref (a + o)), (1, .int x)]) dX8_best_36 (Nat.le_of_ble_eq_true rfl) rfl ?_
        refine aj.iload dX8_best_37 rfl ?_
        refine aj.istore_n (lv' := [(3, .int (V (o + 3) (i + 1) - x * V (o + 2) (i + 1))), (2, .int (nI (i + 1))), (5, .int (V (o + 3) (i + 1) - x * V (o + 2) (i + 1))), (4, .int (nI (i + 1))), (0, .ref (a + o)), (1, .int x)]) dX8_best_39 (Nat.le_of_ble_eq_true rfl) rfl ?_
        refine aj.iincN (a := i + 1) (c := 1) (lv' := [(4, .int (nI (i + 1 + 1))), (3, .int (V (o + 3) (i + 1) - x * V (o + 2) (i + 1))), (2, .int (nI (i + 1))), (5, .int (V (o + 3) (i + 1) - x * V (o + 2) (i + 1))), (0, .ref (a + o)), (1, .int x)]) dX8_best_40 rfl (Nat.le_of_ble_eq_true rfl) rfl rfl rfl ?_
        refine aj.goto (tgt := 12) dX8_best_43 rfl ?_
        refine aj.pick [0, 2, 1, 4, 5] rfl ?_
        exact ih (i + 1) (i + 1) _ (by omega) (by rw [zmax_s, ← hf, ← hm, if_neg (show ¬ tS V o x (i + 1) ≤ m from c31)]) rfl
theorem k_best {G : zG} {l : Launch} {a : Nat} {M0 M : zM} {V : Nat → Nat → Int32} {W : Nat → Nat → Int64} {R : Nat → Nat → Option Nat} {o : Nat} (hk : kTb o) (x : Int32) (hA : kA a M0 M V W R) : am G l kX8_best 2 [.ref (a + o), .int x] M 0 0 (zr (.int (nI (zmax (tS V o x) 20))) (fun M' => M' = M)) := by
  refine am.of (by decide) (Nat.le_of_ble_eq_true rfl) ?_
  refine aj.iconst (v := 0) dX8_best_0 rfl ?_
  refine aj.istore_n (lv' := [(2, .int 0), (0, .ref (a + o)), (1, .int x)]) dX8_best_1 (Nat.le_of_ble_eq_true rfl) rfl ?_
  refine aj.aload_n dX8_best_2 rfl ?_
  refine aj.iconst (v := 0) dX8_best_3 rfl ?_
  refine aj.iload_n dX8_best_4 rfl ?_
  refine aj.callE1 (d' := 1) (As := [.int 0, .int x]) (rest := []) dX8_best_5 v_X8_64 li_X8_sum ⟨_, hA.ob (i := o) hk.1 (by decide)⟩ rfl rfl rfl (Nat.le_of_ble_eq_true rfl) (Nat.le_of_ble_eq_true rfl) (k_sum (o := o) hk 0 rfl x (by omega) hA) (fun M hM => ?_)
  subst hM
  refine aj.istore_n (lv' := [(3, .int (V (o + 3) 0 - x * V (o + 2) 0)), (2, .int 0), (0, .ref (a + o)), (1, .int x)]) dX8_best_8 (Nat.le_of_ble_eq_true rfl) rfl ?_
  refine aj.iconst (v := 1) dX8_best_9 rfl ?_
  refine aj.istore (lv' := [(4, .int 1), (3, .int (V (o + 3) 0 - x * V (o + 2) 0)), (2, .int 0), (0, .ref (a + o)), (1, .int x)]) dX8_best_10 (Nat.le_of_ble_eq_true rfl) rfl ?_
  refine aj.pick [0, 2, 1, 3, 4] rfl ?_
  exact best_loop hk hA 20 0 0 _ (by omega) rfl rfl
/-- bits of the places of a row -/
def tR (f : Nat → Int32) : Nat → Int32
  | 0 => 0
  | n + 1 => tR f n ||| ((1 : Int32) <<< (f n &&& 31))
theorem reached_loop {G : zG} {l : Launch} {a : Nat} {M0 M : zM} {V : Nat → Nat → Int32} {W : Nat → Nat → Int64} {R : Nat → Nat → Option Nat} {o : Nat} (hk : kTb o) (aim : Nat) {x_aim : Int32} (e_aim : x_aim = nI aim) (ha : aim ≤ 20) (hA : kA a M0 M V W R) : ∀ (n i : Nat) (z : Int32), i + n = 10 → z = tR (fun lot => V (o + 1) (aim * 10 + lot)) i → aj G l kX8_reached 2 4 [(3, .int (nI i)), (2, .int z), (0, .ref (a + o)), (1, .int x_aim)] [] M 0 0 (zr (.int (tR (fun lot => V (o + 1) (aim * 10 + lot)) 10)) (fun M' => M' = M)) := by
  intro n
  induction n with
  | zero =>
    intro i z hin hz
    refine aj.iload_n dX8_reached_4 rfl ?_
    refine aj.bipush (v := 10) dX8_reached_5 rfl ?_
    refine aj.icmp_geN (a := i) (b := 10) (tgt := 27) dX8_reached_7 rfl rfl (by omega) (by omega) rfl (fun c7 => ?_) (fun c7 => ?_)
    · refine aj.iload_n dX8_reached_27 rfl ?_
      exact aj.iret rfl dX8_reached_28 ⟨by rw [hz, show i = 10 by omega], rfl⟩
    · exact absurd c7 (by omega)
  | succ n ih =>
    intro i z hin hz
    refine aj.iload_n dX8_reached_4 rfl ?_
    refine aj.bipush (v := 10) dX8_reached_5 rfl ?_
    refine aj.icmp_geN (a := i) (b := 10) (tgt := 27) dX8_reached_7 rfl rfl (by omega) (by omega) rfl (fun c7 => ?_) (fun c7 => ?_)
    · exact absurd c7 (by omega)
    · refine aj.iload_n dX8_reached_10 rfl ?_
      refine aj.iconst (v := 1) dX8_reached_11 rfl ?_
      refine aj.aload_n dX8_reached_12 rfl ?_
      refine aj.iload_n dX8_reached_13 rfl ?_
      refine aj.iload_n dX8_reached_14 rfl ?_
      refine aj.callE1 (d' := 1) (As := [.int x_aim, .int (nI i)]) (rest := [.int 1, .int z]) dX8_reached_15 v_X8_72 li_X8_landingAt ⟨_, hA.ob (i := o) hk.1 (by decide)⟩ rfl rfl rfl (Nat.le_of_ble_eq_true rfl) (Nat.le_of_ble_eq_true rfl) (k_landingAt (o := o) hk aim e_aim i rfl (by omega) (by omega) hA) (fun M hM => ?_)
      subst hM
      refine aj.ishl dX8_reached_18 ?_
      refine aj.ior dX8_reached_19 ?_
      refine aj.istore_n (lv' := [(2, .int (z ||| (1 <<< ((V (o + 1) (aim * 10 + i)) &&& 31)))), (3, .int (nI i)), (0, .ref (a + o)), (1, .int x_aim)]) dX8_reached_20 (Nat.le_of_ble_eq_true rfl) rfl ?_
      refine aj.iincN (a := i) (c := 1) (lv' := [(3, .int (nI (i + 1))), (2, .int (z ||| (1 <<< ((V (o + 1) (aim * 10 + i)) &&& 31)))), (0, .ref (a + o)), (1, .int x_aim)]) dX8_reached_21 rfl (Nat.le_of_ble_eq_true rfl) rfl rfl rfl ?_
      refine aj.goto (tgt := 4) dX8_reached_24 rfl ?_
      refine aj.pick [0, 1, 2, 3] rfl ?_
      exact ih (i + 1) _ (by omega) (by rw [hz]; rfl)
theorem k_reached {G : zG} {l : Launch} {a : Nat} {M0 M : zM} {V : Nat → Nat → Int32} {W : Nat → Nat → Int64} {R : Nat → Nat → Option Nat} {o : Nat} (hk : kTb o) (aim : Nat) {x_aim : Int32} (e_aim : x_aim = nI aim) (ha : aim ≤ 20) (hA : kA a M0 M V W R) : am G l kX8_reached 2 [.ref (a + o), .int x_aim] M 0 0 (zr (.int (tR (fun lot => V (o + 1) (aim * 10 + lot)) 10)) (fun M' => M' = M)) := by
  refine am.of (by decide) (Nat.le_of_ble_eq_true rfl) ?_
  refine aj.iconst (v := 0) dX8_reached_0 rfl ?_
  refine aj.istore_n (lv' := [(2, .int 0), (0, .ref (a + o)), (1, .int x_aim)]) dX8_reached_1 (Nat.le_of_ble_eq_true rfl) rfl ?_
  refine aj.iconst (v := 0) dX8_reached_2 rfl ?_
  refine aj.istore_n (lv' := [(3, .int 0), (2, .int 0), (0, .ref (a + o)), (1, .int x_aim)]) dX8_reached_3 (Nat.le_of_ble_eq_true rfl) rfl ?_
  refine aj.pick [0, 1, 2, 3] rfl ?_
  exact reached_loop hk aim e_aim ha hA 10 0 _ (by omega) rfl
theorem mFar_5 (B : Nat → Int32) (x p : Int32) : mFar (upd B 5 x) p = mFar B p := rfl
theorem sum_cost (B : Nat → Int32) (x : Int32) (f : Nat → Int32) : ∀ n, zsum (fun q => mScore (upd B 5 x) (f q) True) n = zsum (fun q => mScore B (f q) False) n - x * nI (zcnt (fun q => mFar B (f q) = 0) n)
  | 0 => by show (0 : Int32) = 0 - x * 0; rw [Int32.mul_zero]; rfl
  | n + 1 => by
    rw [zsum_s, zsum_s, zcnt_s, sum_cost B x f n]
    have e1 : mScore (upd B 5 x) (f n) True = if mFar B (f n) = 0 then -x else mScore B (f n) False := by
      unfold mScore
      rw [mFar_5]
      by_cases h : mFar B (f n) = 0
      · rw [if_pos h, if_pos trivial, if_pos h]; rfl
      · rw [if_neg h, if_neg h, if_neg h]; rfl
    by_cases h : mFar B (f n) = 0
    · have e2 : mScore B (f n) False = 0 := by unfold mScore; rw [if_pos h, if_neg (fun z => z)]
      rw [e1, if_pos h, if_pos h, e2, ← nI_add, show nI 1 = (1 : Int32) from rfl, Int32.mul_add, Int32.mul_one, Int32.add_zero]
      rw [Int32.sub_eq_add_neg, Int32.sub_eq_add_neg, Int32.neg_add, Int32.add_assoc, Int32.sub_eq_add_neg]
    · rw [e1, if_neg h, if_neg h, Nat.add_zero]
      rw [Int32.sub_eq_add_neg, Int32.sub_eq_add_neg, Int32.add_assoc, Int32.add_assoc, Int32.add_comm (-(x * _))]
