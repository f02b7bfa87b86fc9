/-- a state's object as the reference has it -/
def stR (V : Nat → Nat → Int32) (o : Nat) (B : Nat → Int32) : Prop := (∀ j, j < 4 → V (o + 1) j = B (17 + j)) ∧ (∀ j, j < 4 → V (o + 2) j = B (21 + j)) ∧ V o 0 = B 25 ∧ V o 1 = B 26 ∧ V o 2 = B 27
/-- butt and state of the class's object as the reference has them -/
def cH (a : Nat) (M0 : zM) (V0 : Nat → Nat → Int32) (R : Nat → Nat → Option Nat) (T : Nat) (B : Nat → Int32) (sl ol : Option (List Nat)) (Tm : Nat) : Prop := R 0 0 = some T ∧ bW a M0 T B sl ol ∧ stR V0 8 B ∧ mOK B sl ol Tm
section N67
variable {a : Nat} {M0 M : zM} {V V0 : Nat → Nat → Int32} {W : Nat → Nat → Int64} {R : Nat → Nat → Option Nat}
theorem k_norm {v v' : Nat → Int32} (hA : kA a M0 M (va_up (va_up V 50 v) 51 v') W R) (hv : ∀ i, ¬ sc i → V i = V0 i) : ∃ V', (∀ q, q ≠ 50 → q ≠ 51 → V' q = V q) ∧ kA a M0 M V' W R ∧ ∀ i, ¬ sc i → V' i = V0 i := ⟨_, fun q h0 h1 => by rw [va_up_ne _ _ h1, va_up_ne _ _ h0], hA, fun i hi => by rw [va_up_ne _ _ (fun e => hi (by subst e; decide)), va_up_ne _ _ (fun e => hi (by subst e; decide))]; exact hv i hi⟩
theorem tbF_N {B : Nat → Int32} {sl : Option (List Nat)} {sh : Int32} {age wd o : Nat} {V' : Nat → Nat → Int32} (h : tbF B sl sh age wd V o) (hN : ∀ q, q ≠ 50 → q ≠ 51 → V' q = V q) (ho : 71 ≤ o) : tbF B sl sh age wd V' o := by
  unfold tbF
  rw [hN (o + 1) (by omega) (by omega), hN (o + 2) (by omega) (by omega), hN (o + 3) (by omega) (by omega)]
  exact h
theorem tbF_E {B : Nat → Int32} {sl : Option (List Nat)} {sh : Int32} {age wd o o' : Nat} {V' : Nat → Nat → Int32} (h : tbF B sl sh age wd V o) (hE : tbE V V' o') (ho : 71 ≤ o ∧ (o + 4 ≤ o' ∨ o' + 4 ≤ o)) : tbF B sl sh age wd V' o := by
  unfold tbF
  rw [hE (o + 1) (by omega) (by omega) (by omega) (by omega) (by omega), hE (o + 2) (by omega) (by omega) (by omega) (by omega) (by omega), hE (o + 3) (by omega) (by omega) (by omega) (by omega) (by omega)]
  exact h
theorem k_tbv {V' : Nat → Nat → Int32} {o : Nat} (hE : tbE V V' o) (ho : 71 ≤ o) (hv : ∀ i, ¬ sc i → V i = V0 i) : ∀ i, ¬ sc i → V' i = V0 i := fun i hi => by
  rw [hE i (fun e => hi (by subst e; decide)) (fun e => hi (by subst e; decide)) (fun e => hi (by unfold sc; omega)) (fun e => hi (by unfold sc; omega)) (fun e => hi (by unfold sc; omega))]
  exact hv i hi
end N67
theorem k_isShooter {G : zG} {l : Launch} {a : Nat} {M0 M : zM} {V : Nat → Nat → Int32} {W : Nat → Nat → Int64} {R : Nat → Nat → Option Nat} {V0 : Nat → Nat → Int32} {T : Nat} {B : Nat → Int32} {sl ol : Option (List Nat)} {Tm : Nat} (x : Int32) (hH : cH a M0 V0 R T B sl ol Tm) (hA : kA a M0 M V W R) : am G l kX11_isShooter 0 [.ref a, .int x] M 0 0 (zr (.int (zb (inR x 0 ((mN (B 6) : Int) - 1)))) (fun M' => M' = M)) := by
  obtain ⟨hT, hb, hS, hB⟩ := hH
  have h6 := hB.2.2.1
  have h6b := h6.2
  have h6t : (B 6).toInt = (mN (B 6) : Int) := by rw [h6.1]; rw [nI_toInt (by omega), mN_nI (by omega)]
  refine am.of (by decide) (Nat.le_of_ble_eq_true rfl) ?_
  refine aj.iload_n dX11_isShooter_0 rfl ?_
  refine aj.if_lt (tgt := 24) dX11_isShooter_1 rfl (fun c1 => ?_) (fun c1 => ?_)
  · refine aj.iconst (v := 0) dX11_isShooter_24 rfl ?_
    exact aj.zret (ty := .boolean) rfl rfl dX11_isShooter_25 ⟨by rw [zb_f (by simp only [Int32.lt_iff_toInt_lt, Int32.le_iff_toInt_le] at *; have e0 : (0 : Int32).toInt = 0 := rfl; have e4 : (4 : Int32).toInt = 4 := rfl; have e2 : (2 : Int32).toInt = 2 := rfl; unfold inR; omega)], rfl⟩
  · refine aj.iload_n dX11_isShooter_4 rfl ?_
    refine aj.aload_n dX11_isShooter_5 rfl ?_
    refine gT hT hA w378 dX11_isShooter_6 ?_
    refine gB_shooterCount (hA.bw hb) w226 dX11_isShooter_9 ?_
    refine aj.icmp_ge (tgt := 24) dX11_isShooter_12 rfl (fun c12 => ?_) (fun c12 => ?_)
    · refine aj.iconst (v := 0) dX11_isShooter_24 rfl ?_
      exact aj.zret (ty := .boolean) rfl rfl dX11_isShooter_25 ⟨by rw [zb_f (by simp only [Int32.lt_iff_toInt_lt, Int32.le_iff_toInt_le] at *; have e0 : (0 : Int32).toInt = 0 := rfl; have e4 : (4 : Int32).toInt = 4 := rfl; have e2 : (2 : Int32).toInt = 2 := rfl; unfold inR; omega)], rfl⟩
    · refine aj.iload_n dX11_isShooter_15 rfl ?_
      refine aj.iconst (v := 4) dX11_isShooter_16 rfl ?_
      refine aj.icmp_ge (tgt := 24) dX11_isShooter_17 rfl (fun c17 => ?_) (fun c17 => ?_)
      · refine aj.iconst (v := 0) dX11_isShooter_24 rfl ?_
        exact aj.zret (ty := .boolean) rfl rfl dX11_isShooter_25 ⟨by rw [zb_f (by simp only [Int32.lt_iff_toInt_lt, Int32.le_iff_toInt_le] at *; have e0 : (0 : Int32).toInt = 0 := rfl; have e4 : (4 : Int32).toInt = 4 := rfl; have e2 : (2 : Int32).toInt = 2 := rfl; unfold inR; omega)], rfl⟩
      · refine aj.iconst (v := 1) dX11_isShooter_20 rfl ?_
        refine aj.goto (tgt := 25) dX11_isShooter_21 rfl ?_
        exact aj.zret (ty := .boolean) rfl rfl dX11_isShooter_25 ⟨by rw [zb_t (by simp only [Int32.lt_iff_toInt_lt, Int32.le_iff_toInt_le] at *; have e0 : (0 : Int32).toInt = 0 := rfl; have e4 : (4 : Int32).toInt = 4 := rfl; have e2 : (2 : Int32).toInt = 2 := rfl; unfold inR; omega)], rfl⟩
theorem k_isShot {G : zG} {l : Launch} {a : Nat} {M0 M : zM} {V : Nat → Nat → Int32} {W : Nat → Nat → Int64} {R : Nat → Nat → Option Nat} {V0 : Nat → Nat → Int32} {T : Nat} {B : Nat → Int32} {sl ol : Option (List Nat)} {Tm : Nat} (x y z : Int32) (hH : cH a M0 V0 R T B sl ol Tm) (hA : kA a M0 M V W R) : am G l kX11_isShot 1 [.ref a, .int x, .int y, .int z] M 0 0 (zr (.int (zb (inR x 0 ((mN (B 6) : Int) - 1) ∧ inR y 0 20 ∧ inR z 0 9))) (fun M' => M' = M)) := by
  obtain ⟨hT, hb, hS, hB⟩ := id hH
  have h6 := hB.2.2.1
  have h6b := h6.2
  refine am.of (by decide) (Nat.le_of_ble_eq_true rfl) ?_
  refine aj.aload_n dX11_isShot_0 rfl ?_
  refine aj.iload_n dX11_isShot_1 rfl ?_
  refine aj.callE1 (d' := 0) (As := [.int x]) (rest := []) dX11_isShot_2 v_X11_124 li_X11_isShooter ⟨_, hA.ob (i := 0) rfl (by decide)⟩ rfl rfl rfl (Nat.le_of_ble_eq_true rfl) (Nat.le_of_ble_eq_true rfl) (k_isShooter x hH hA) (fun M hM => ?_)
  subst hM
  refine aj.if_eqB (tgt := 28) dX11_isShot_5 rfl (fun c5 => ?_) (fun c5 => ?_)
  · refine aj.iconst (v := 0) dX11_isShot_28 rfl ?_
    exact aj.zret (ty := .boolean) rfl rfl dX11_isShot_29 ⟨by rw [zb_f (fun q => c5 q.1)], rfl⟩
  · have h_x := inR_bdS c5 (by omega)
    have h2_x := h_x.2
    refine aj.iload_n dX11_isShot_8 rfl ?_
    refine aj.i2l dX11_isShot_9 ?_
    refine aj.callS1 (d' := 0) (As := [.long (Int32.toInt64 y)]) (rest := []) dX11_isShot_10 v_X11_150 w748 rfl rfl (Nat.le_of_ble_eq_true rfl) (Nat.le_of_ble_eq_true rfl) (k_isPlaceI _ y) (fun M hM => ?_)
    subst hM
    refine aj.if_eqB (tgt := 28) dX11_isShot_13 rfl (fun c13 => ?_) (fun c13 => ?_)
    · refine aj.iconst (v := 0) dX11_isShot_28 rfl ?_
      exact aj.zret (ty := .boolean) rfl rfl dX11_isShot_29 ⟨by rw [zb_f (fun q => c13 q.2.1)], rfl⟩
    · have h_y := inR_bd (n := 20) c13 (by decide)
      have h2_y := h_y.2
      refine aj.iload_n dX11_isShot_16 rfl ?_
      refine aj.i2l dX11_isShot_17 ?_
      refine aj.callS1 (d' := 0) (As := [.long (Int32.toInt64 z)]) (rest := []) dX11_isShot_18 v_X11_374 w752 rfl rfl (Nat.le_of_ble_eq_true rfl) (Nat.le_of_ble_eq_true rfl) (k_isLotI _ z) (fun M hM => ?_)
      subst hM
      refine aj.if_eqB (tgt := 28) dX11_isShot_21 rfl (fun c21 => ?_) (fun c21 => ?_)
      · refine aj.iconst (v := 0) dX11_isShot_28 rfl ?_
        exact aj.zret (ty := .boolean) rfl rfl dX11_isShot_29 ⟨by rw [zb_f (fun q => c21 q.2.2)], rfl⟩
      · have h_z := inR_bd (n := 9) c21 (by decide)
        have h2_z := h_z.2
        refine aj.iconst (v := 1) dX11_isShot_24 rfl ?_
        refine aj.goto (tgt := 29) dX11_isShot_25 rfl ?_
        exact aj.zret (ty := .boolean) rfl rfl dX11_isShot_29 ⟨by rw [zb_t (⟨c5, c13, c21⟩ : _ ∧ _ ∧ _)], rfl⟩
theorem k_isTray {G : zG} {l : Launch} {a : Nat} {M0 M : zM} {V : Nat → Nat → Int32} {W : Nat → Nat → Int64} {R : Nat → Nat → Option Nat} (x : Int32) (hA : kA a M0 M V W R) : am G l kX11_isTray 0 [.ref a, .int x] M 0 0 (zr (.int (zb (inR x 0 3))) (fun M' => M' = M)) := by
  refine am.of (by decide) (Nat.le_of_ble_eq_true rfl) ?_
  refine aj.iload_n dX11_isTray_0 rfl ?_
  refine aj.if_lt (tgt := 17) dX11_isTray_1 rfl (fun c1 => ?_) (fun c1 => ?_)
  · refine aj.iconst (v := 0) dX11_isTray_17 rfl ?_
    exact aj.zret (ty := .boolean) rfl rfl dX11_isTray_18 ⟨by rw [zb_f (by simp only [Int32.lt_iff_toInt_lt, Int32.le_iff_toInt_le] at *; have e0 : (0 : Int32).toInt = 0 := rfl; have e4 : (4 : Int32).toInt = 4 := rfl; have e2 : (2 : Int32).toInt = 2 := rfl; unfold inR; omega)], rfl⟩
  · refine aj.iload_n dX11_isTray_4 rfl ?_
    refine aj.aload_n dX11_isTray_5 rfl ?_
    refine gX11_trays (i := 0) rfl hA w382 dX11_isTray_6 ?_
    refine aj.kN (i := 46) (n := 4) (v := nI 4) rfl (by decide) (by decide) dX11_isTray_9 hA rfl ?_
    refine aj.icmp_ge (tgt := 17) dX11_isTray_10 rfl (fun c10 => ?_) (fun c10 => ?_)
    · refine aj.iconst (v := 0) dX11_isTray_17 rfl ?_
      exact aj.zret (ty := .boolean) rfl rfl dX11_isTray_18 ⟨by rw [show nI 4 = (4 : Int32) from rfl] at *; rw [zb_f (by simp only [Int32.lt_iff_toInt_lt, Int32.le_iff_toInt_le] at *; have e0 : (0 : Int32).toInt = 0 := rfl; have e4 : (4 : Int32).toInt = 4 := rfl; have e2 : (2 : Int32).toInt = 2 := rfl; unfold inR; omega)], rfl⟩
    · refine aj.iconst (v := 1) dX11_isTray_13 rfl ?_
      refine aj.goto (tgt := 18) dX11_isTray_14 rfl ?_
      exact aj.zret (ty := .boolean) rfl rfl dX11_isTray_18 ⟨by rw [show nI 4 = (4 : Int32) from rfl] at *; rw [zb_t (by simp only [Int32.lt_iff_toInt_lt, Int32.le_iff_toInt_le] at *; have e0 : (0 : Int32).toInt = 0 := rfl; have e4 : (4 : Int32).toInt = 4 := rfl; have e2 : (2 : Int32).toInt = 2 := rfl; unfold inR; omega)], rfl⟩
theorem k_isImage {G : zG} {l : Launch} {a : Nat} (M : zM) (x : Int32) : am G l kX11_isImage 0 [.ref a, .int x] M 0 0 (zr (.int (zb (inR x 0 1))) (fun M' => M' = M)) := by
  refine am.of (by decide) (Nat.le_of_ble_eq_true rfl) ?_
  refine aj.iload_n dX11_isImage_0 rfl ?_
  refine aj.if_lt (tgt := 13) dX11_isImage_1 rfl (fun c1 => ?_) (fun c1 => ?_)
  · refine aj.iconst (v := 0) dX11_isImage_13 rfl ?_
    exact aj.zret (ty := .boolean) rfl rfl dX11_isImage_14 ⟨by rw [zb_f (by simp only [Int32.lt_iff_toInt_lt, Int32.le_iff_toInt_le] at *; have e0 : (0 : Int32).toInt = 0 := rfl; have e4 : (4 : Int32).toInt = 4 := rfl; have e2 : (2 : Int32).toInt = 2 := rfl; unfold inR; omega)], rfl⟩
  · refine aj.iload_n dX11_isImage_4 rfl ?_
    refine aj.iconst (v := 2) dX11_isImage_5 rfl ?_
    refine aj.icmp_ge (tgt := 13) dX11_isImage_6 rfl (fun c6 => ?_) (fun c6 => ?_)
    · refine aj.iconst (v := 0) dX11_isImage_13 rfl ?_
      exact aj.zret (ty := .boolean) rfl rfl dX11_isImage_14 ⟨by rw [zb_f (by simp only [Int32.lt_iff_toInt_lt, Int32.le_iff_toInt_le] at *; have e0 : (0 : Int32).toInt = 0 := rfl; have e4 : (4 : Int32).toInt = 4 := rfl; have e2 : (2 : Int32).toInt = 2 := rfl; unfold inR; omega)], rfl⟩
    · refine aj.iconst (v := 1) dX11_isImage_9 rfl ?_
      refine aj.goto (tgt := 14) dX11_isImage_10 rfl ?_
      exact aj.zret (ty := .boolean) rfl rfl dX11_isImage_14 ⟨by rw [zb_t (by simp only [Int32.lt_iff_toInt_lt, Int32.le_iff_toInt_le] at *; have e0 : (0 : Int32).toInt = 0 := rfl; have e4 : (4 : Int32).toInt = 4 := rfl; have e2 : (2 : Int32).toInt = 2 := rfl; unfold inR; omega)], rfl⟩
theorem k_isOpenIn {G : zG} {l : Launch} {a : Nat} {M0 M : zM} {V : Nat → Nat → Int32} {W : Nat → Nat → Int64} {R : Nat → Nat → Option Nat} {V0 : Nat → Nat → Int32} {T : Nat} {B : Nat → Int32} {sl ol : Option (List Nat)} {Tm : Nat} (n : Nat) {x_n : Int32} (e_n : x_n = nI n) (hn : n < 2 ^ 20) (hH : cH a M0 V0 R T B sl ol Tm) (hv : ∀ i, ¬ sc i → V i = V0 i) (hA : kA a M0 M V W R) : am G l kX11_isOpenIn 3 [.ref a, .int x_n] M 0 0 (zr (.int (zb (mOpen ol (mN (B 26)) (mN (B 27) + n) (mN (B 25)) = true))) (fun M' => ∃ v v', kA a M0 M' (va_up (va_up V 50 v) 51 v') W R)) := by
  obtain ⟨hT, hb, hS, hB⟩ := id hH
  have hd0 := (dLaw_of hB).1
  have hd1 := (dLaw_of hB).2
  have h25 := hB.2.2.2.2.2.1
  have h26 := hB.2.2.2.2.2.2.1
  have h27 := hB.2.2.2.2.2.2.2.1
  have h6 := hB.2.2.1
  have hag := hB.2.2.2.2.1
  have hTm := hB.2.2.2.2.2.2.2.2.1
  have h25b := h25.2
  have h26b := h26.2
  have h27b := h27.2
  have h6b := h6.2
  refine am.of (by decide) (Nat.le_of_ble_eq_true rfl) ?_
  refine aj.aload_n dX11_isOpenIn_0 rfl ?_
  refine gX11_range (i := 0) rfl hA w385 dX11_isOpenIn_1 ?_
  refine aj.aload_n dX11_isOpenIn_4 rfl ?_
  refine gT hT hA w378 dX11_isOpenIn_5 ?_
  refine aj.aload_n dX11_isOpenIn_8 rfl ?_
  refine gX11_now (i := 0) rfl hA w379 dX11_isOpenIn_9 ?_
  refine gX7_minute (i := 8) rfl hA w271 dX11_isOpenIn_12 ?_
  refine aj.iload_n dX11_isOpenIn_15 rfl ?_
  refine aj.iaddN (a := mN (B 27)) (b := n) dX11_isOpenIn_16 ((congrFun (hv 8 (by decide)) 2).trans (hS.2.2.2.2.trans h27.1)) e_n ?_
  refine aj.aload_n dX11_isOpenIn_17 rfl ?_
  refine gX11_now (i := 0) rfl hA w379 dX11_isOpenIn_18 ?_
  refine gX7_hurt (i := 8) rfl hA w267 dX11_isOpenIn_21 ?_
  refine aj.aload_n dX11_isOpenIn_24 rfl ?_
  refine gX11_now (i := 0) rfl hA w379 dX11_isOpenIn_25 ?_
  refine gX7_wind (i := 8) rfl hA w269 dX11_isOpenIn_28 ?_
  refine aj.callE1 (d' := 2) (As := [.ref T, .int (nI ((mN (B 27)) + n)), .int (V 8 0), .int (V 8 1)]) (rest := []) dX11_isOpenIn_31 v_X11_377 li_X4_isEyeOpen ⟨_, hA.ob (i := 49) rfl (by decide)⟩ rfl rfl rfl (Nat.le_of_ble_eq_true rfl) (Nat.le_of_ble_eq_true rfl) (k_eye ((mN (B 27)) + n) rfl (mN (B 25)) (((congrFun (hv 8 (by decide)) 0).trans (hS.2.2.1.trans h25.1))) (mN (B 26)) (((congrFun (hv 8 (by decide)) 1).trans (hS.2.2.2.1.trans h26.1))) (by omega) (by omega) hb hd1 hA) (fun M hM => ?_)
  obtain ⟨v1, v2, hA⟩ := hM
  exact aj.zret (ty := .boolean) rfl (zb_nar _) dX11_isOpenIn_34 ⟨rfl, ⟨_, _, hA⟩⟩
theorem k_isOpenNow {G : zG} {l : Launch} {a : Nat} {M0 M : zM} {V : Nat → Nat → Int32} {W : Nat → Nat → Int64} {R : Nat → Nat → Option Nat} {V0 : Nat → Nat → Int32} {T : Nat} {B : Nat → Int32} {sl ol : Option (List Nat)} {Tm : Nat}   (hH : cH a M0 V0 R T B sl ol Tm) (hv : ∀ i, ¬ sc i → V i = V0 i) (hA : kA a M0 M V W R) : am G l kX11_isOpenNow 4 [.ref a] M 0 0 (zr (.int (zb (mOpen ol (mN (B 26)) (mN (B 27)) (mN (B 25)) = true))) (fun M' => ∃ v v', kA a M0 M' (va_up (va_up V 50 v) 51 v') W R)) := by
  obtain ⟨hT, hb, hS, hB⟩ := id hH
  have hd0 := (dLaw_of hB).1
  have hd1 := (dLaw_of hB).2
  have h25 := hB.2.2.2.2.2.1
  have h26 := hB.2.2.2.2.2.2.1
  have h27 := hB.2.2.2.2.2.2.2.1
  have h6 := hB.2.2.1
  have hag := hB.2.2.2.2.1
  have hTm := hB.2.2.2.2.2.2.2.2.1
  have h25b := h25.2
  have h26b := h26.2
  have h27b := h27.2
  have h6b := h6.2
  refine am.of (by decide) (Nat.le_of_ble_eq_true rfl) ?_
  refine aj.aload_n dX11_isOpenNow_0 rfl ?_
  refine aj.iconst (v := 0) dX11_isOpenNow_1 rfl ?_
  refine aj.callE1 (d' := 3) (As := [.int 0]) (rest := []) dX11_isOpenNow_2 v_X11_165 li_X11_isOpenIn ⟨_, hA.ob (i := 0) rfl (by decide)⟩ rfl rfl rfl (Nat.le_of_ble_eq_true rfl) (Nat.le_of_ble_eq_true rfl) (k_isOpenIn 0 rfl (by omega) hH hv hA) (fun M hM => ?_)
  obtain ⟨v1, v2, hA⟩ := hM
  exact aj.zret (ty := .boolean) rfl (zb_nar _) dX11_isOpenNow_5 ⟨rfl, ⟨_, _, hA⟩⟩
theorem k_costNow {G : zG} {l : Launch} {a : Nat} {M0 M : zM} {V : Nat → Nat → Int32} {W : Nat → Nat → Int64} {R : Nat → Nat → Option Nat} {V0 : Nat → Nat → Int32} {T : Nat} {B : Nat → Int32} {sl ol : Option (List Nat)} {Tm : Nat}   (hH : cH a M0 V0 R T B sl ol Tm) (hv : ∀ i, ¬ sc i → V i = V0 i) (hA : kA a M0 M V W R) : am G l kX11_costNow 5 [.ref a] M 0 0 (zr (.int (if mOpen ol (mN (B 26)) (mN (B 27)) (mN (B 25)) = true then B 5 else 0)) (fun M' => ∃ v v', kA a M0 M' (va_up (va_up V 50 v) 51 v') W R)) := by
  obtain ⟨hT, hb, hS, hB⟩ := id hH
  have hd0 := (dLaw_of hB).1
  have hd1 := (dLaw_of hB).2
  have h25 := hB.2.2.2.2.2.1
  have h26 := hB.2.2.2.2.2.2.1
  have h27 := hB.2.2.2.2.2.2.2.1
  have h6 := hB.2.2.1
  have hag := hB.2.2.2.2.1
  have hTm := hB.2.2.2.2.2.2.2.2.1
  have h25b := h25.2
  have h26b := h26.2
  have h27b := h27.2
  have h6b := h6.2
  refine am.of (by decide) (Nat.le_of_ble_eq_true rfl) ?_
  refine aj.aload_n dX11_costNow_0 rfl ?_
  refine aj.callE1 (d' := 4) (As := []) (rest := []) dX11_costNow_1 v_X11_157 li_X11_isOpenNow ⟨_, hA.ob (i := 0) rfl (by decide)⟩ rfl rfl rfl (Nat.le_of_ble_eq_true rfl) (Nat.le_of_ble_eq_true rfl) (k_isOpenNow hH hv hA) (fun M hM => ?_)
  obtain ⟨v1, v2, hA⟩ := hM
  refine aj.if_eqB (tgt := 17) dX11_costNow_4 rfl (fun c4 => ?_) (fun c4 => ?_)
  · refine aj.iconst (v := 0) dX11_costNow_17 rfl ?_
    exact aj.iret rfl dX11_costNow_18 ⟨by rw [if_neg c4], ⟨_, _, hA⟩⟩
  · refine aj.aload_n dX11_costNow_7 rfl ?_
    refine gT hT hA w378 dX11_costNow_8 ?_
    refine gB_cost (hA.bw hb) w217 dX11_costNow_11 ?_
    refine aj.goto (tgt := 18) dX11_costNow_14 rfl ?_
    exact aj.iret rfl dX11_costNow_18 ⟨by rw [if_pos c4], ⟨_, _, hA⟩⟩
theorem k_landingNow {G : zG} {l : Launch} {a : Nat} {M0 M : zM} {V : Nat → Nat → Int32} {W : Nat → Nat → Int64} {R : Nat → Nat → Option Nat} {V0 : Nat → Nat → Int32} {T : Nat} {B : Nat → Int32} {sl ol : Option (List Nat)} {Tm : Nat} (s : Nat) {x_s : Int32} (e_s : x_s = nI s) (aim : Nat) {x_aim : Int32} (e_aim : x_aim = nI aim) (lot : Nat) {x_lot : Int32} (e_lot : x_lot = nI lot) (hs4 : s < 4) (hH : cH a M0 V0 R T B sl ol Tm) (hv : ∀ i, ¬ sc i → V i = V0 i) (hA : kA a M0 M V W R) : am G l kX11_landingNow 5 [.ref a, .int x_s, .int x_aim, .int x_lot] M 0 0 (zr (.int (nI (mLn B sl s aim lot))) (fun M' => ∃ v v', kA a M0 M' (va_up (va_up V 50 v) 51 v') W R)) := by
  obtain ⟨hT, hb, hS, hB⟩ := id hH
  have hd0 := (dLaw_of hB).1
  have hd1 := (dLaw_of hB).2
  have h25 := hB.2.2.2.2.2.1
  have h26 := hB.2.2.2.2.2.2.1
  have h27 := hB.2.2.2.2.2.2.2.1
  have h6 := hB.2.2.1
  have hag := hB.2.2.2.2.1
  have hTm := hB.2.2.2.2.2.2.2.2.1
  have h25b := h25.2
  have h26b := h26.2
  have h27b := h27.2
  have h6b := h6.2
  have hag1 := (hag s hs4).2
  refine am.of (by decide) (Nat.le_of_ble_eq_true rfl) ?_
  refine aj.aload_n dX11_landingNow_0 rfl ?_
  refine gX11_range (i := 0) rfl hA w385 dX11_landingNow_1 ?_
  refine aj.aload_n dX11_landingNow_4 rfl ?_
  refine gT hT hA w378 dX11_landingNow_5 ?_
  refine aj.aload_n dX11_landingNow_8 rfl ?_
  refine gT hT hA w378 dX11_landingNow_9 ?_
  refine aj.iload_n dX11_landingNow_12 rfl ?_
  refine aj.callE1 (d' := 0) (As := [.int x_s]) (rest := [.ref T, .ref (a + 49)]) dX11_landingNow_13 v_X11_131 li_X0_shakeOf (hA.bw hb).ob rfl rfl rfl (Nat.le_of_ble_eq_true rfl) (Nat.le_of_ble_eq_true rfl) (k_shakeOf s e_s (by omega) (hA.bw hb)) (fun M hM => ?_)
  subst hM
  refine aj.aload_n dX11_landingNow_16 rfl ?_
  refine gX11_now (i := 0) rfl hA w379 dX11_landingNow_17 ?_
  refine aj.iload_n dX11_landingNow_20 rfl ?_
  refine aj.callE1 (d' := 0) (As := [.int x_s]) (rest := [.int (B (13 + s)), .ref T, .ref (a + 49)]) dX11_landingNow_21 v_X11_135 li_X7_ageOf ⟨_, hA.ob (i := 8) rfl (by decide)⟩ rfl rfl rfl (Nat.le_of_ble_eq_true rfl) (Nat.le_of_ble_eq_true rfl) (k_ageOf (o := 8) ⟨rfl, rfl, rfl⟩ s e_s (by omega) hA) (fun M hM => ?_)
  subst hM
  refine aj.aload_n dX11_landingNow_24 rfl ?_
  refine gX11_now (i := 0) rfl hA w379 dX11_landingNow_25 ?_
  refine gX7_wind (i := 8) rfl hA w269 dX11_landingNow_28 ?_
  refine aj.iload_n dX11_landingNow_31 rfl ?_
  refine aj.iload_n dX11_landingNow_32 rfl ?_
  refine aj.callE1 (d' := 4) (As := [.ref T, .int (B (13 + s)), .int (V 10 s), .int (V 8 1), .int x_aim, .int x_lot]) (rest := []) dX11_landingNow_33 v_X11_381 li_X4_landing ⟨_, hA.ob (i := 49) rfl (by decide)⟩ rfl rfl rfl (Nat.le_of_ble_eq_true rfl) (Nat.le_of_ble_eq_true rfl) (k_landing (B (13 + s)) (mN (B (21 + s))) (((congrFun (hv 10 (by decide)) _).trans ((hS.2.1 _ (by omega)).trans (hag _ (by omega)).1))) (mN (B 26)) (((congrFun (hv 8 (by decide)) 1).trans (hS.2.2.2.1.trans h26.1))) aim e_aim lot e_lot (by omega) hb hd0 hA) (fun M hM => ?_)
  obtain ⟨v1, v2, hA⟩ := hM
  exact aj.iret rfl dX11_landingNow_36 ⟨rfl, ⟨_, _, hA⟩⟩
theorem k_tableNow {G : zG} {l : Launch} {a : Nat} {M0 M : zM} {V : Nat → Nat → Int32} {W : Nat → Nat → Int64} {R : Nat → Nat → Option Nat} {V0 : Nat → Nat → Int32} {T : Nat} {B : Nat → Int32} {sl ol : Option (List Nat)} {Tm : Nat} (s : Nat) {x_s : Int32} (e_s : x_s = nI s) (hs4 : s < 4) (hH : cH a M0 V0 R T B sl ol Tm) (hv : ∀ i, ¬ sc i → V i = V0 i) (hA : kA a M0 M V W R) : am G l kX11_tableNow 5 [.ref a, .int x_s] M 0 0 (zr (.ref (a + 71)) (fun M' => ∃ V1, kA a M0 M' V1 W R ∧ tbE V V1 71 ∧ tbF B sl (B (13 + s)) (mN (B (21 + s))) (mN (B 26)) V1 71)) := by
  obtain ⟨hT, hb, hS, hB⟩ := id hH
  have hd0 := (dLaw_of hB).1
  have hd1 := (dLaw_of hB).2
  have h25 := hB.2.2.2.2.2.1
  have h26 := hB.2.2.2.2.2.2.1
  have h27 := hB.2.2.2.2.2.2.2.1
  have h6 := hB.2.2.1
  have hag := hB.2.2.2.2.1
  have hTm := hB.2.2.2.2.2.2.2.2.1
  have h25b := h25.2
  have h26b := h26.2
  have h27b := h27.2
  have h6b := h6.2
  have hag1 := (hag s hs4).2
  refine am.of (by decide) (Nat.le_of_ble_eq_true rfl) ?_
  refine aj.aload_n dX11_tableNow_0 rfl ?_
  refine gX11_tables (i := 0) rfl hA w386 dX11_tableNow_1 ?_
  refine aj.iconst (v := 0) dX11_tableNow_4 rfl ?_
  refine aj.kR70 (j := 0) rfl dX11_tableNow_5 hA rfl (by omega) (by decide) ?_
  refine aj.astore_n (lv' := [(2, .ref (a + 71)), (0, .ref a), (1, .int x_s)]) dX11_tableNow_6 (Nat.le_of_ble_eq_true rfl) rfl ?_
  refine aj.aload_n dX11_tableNow_7 rfl ?_
  refine aj.aload_n dX11_tableNow_8 rfl ?_
  refine gX11_range (i := 0) rfl hA w385 dX11_tableNow_9 ?_
  refine aj.aload_n dX11_tableNow_12 rfl ?_
  refine gT hT hA w378 dX11_tableNow_13 ?_
  refine aj.aload_n dX11_tableNow_16 rfl ?_
  refine gT hT hA w378 dX11_tableNow_17 ?_
  refine aj.iload_n dX11_tableNow_20 rfl ?_
  refine aj.callE1 (d' := 0) (As := [.int x_s]) (rest := [.ref T, .ref (a + 49), .ref (a + 71)]) dX11_tableNow_21 v_X11_131 li_X0_shakeOf (hA.bw hb).ob rfl rfl rfl (Nat.le_of_ble_eq_true rfl) (Nat.le_of_ble_eq_true rfl) (k_shakeOf s e_s (by omega) (hA.bw hb)) (fun M hM => ?_)
  subst hM
  refine aj.aload_n dX11_tableNow_24 rfl ?_
  refine gX11_now (i := 0) rfl hA w379 dX11_tableNow_25 ?_
  refine aj.iload_n dX11_tableNow_28 rfl ?_
  refine aj.callE1 (d' := 0) (As := [.int x_s]) (rest := [.int (B (13 + s)), .ref T, .ref (a + 49), .ref (a + 71)]) dX11_tableNow_29 v_X11_135 li_X7_ageOf ⟨_, hA.ob (i := 8) rfl (by decide)⟩ rfl rfl rfl (Nat.le_of_ble_eq_true rfl) (Nat.le_of_ble_eq_true rfl) (k_ageOf (o := 8) ⟨rfl, rfl, rfl⟩ s e_s (by omega) hA) (fun M hM => ?_)
  subst hM
  refine aj.aload_n dX11_tableNow_32 rfl ?_
  refine gX11_now (i := 0) rfl hA w379 dX11_tableNow_33 ?_
  refine gX7_wind (i := 8) rfl hA w269 dX11_tableNow_36 ?_
  refine aj.callE0 (d' := 4) (As := [.ref (a + 49), .ref T, .int (B (13 + s)), .int (V 10 s), .int (V 8 1)]) (rest := []) dX11_tableNow_39 v_X11_247 li_X8_fill ⟨_, hA.ob (i := 71) rfl (by decide)⟩ rfl rfl rfl (Nat.le_of_ble_eq_true rfl) (Nat.le_of_ble_eq_true rfl) (k_fill (o := 71) (sh := B (13 + s)) ⟨rfl, rfl, rfl, rfl⟩ (mN (B (21 + s))) (((congrFun (hv 10 (by decide)) _).trans ((hS.2.1 _ (by omega)).trans (hag _ (by omega)).1))) (mN (B 26)) (((congrFun (hv 8 (by decide)) 1).trans (hS.2.2.2.1.trans h26.1))) (by omega) hb hd0 hA) (fun M hM => ?_)
  obtain ⟨V1, hA, hE, hF⟩ := hM
  refine aj.aload_n dX11_tableNow_42 rfl ?_
  exact aj.aret rfl (Or.inl ⟨_, rfl⟩) (Or.inr ⟨_, rfl⟩) dX11_tableNow_43 ⟨rfl, V1, hA, hE, hF⟩
theorem p_far {G : zG} {l : Launch} {a : Nat} {M0 M : zM} {V0 : Nat → Nat → Int32} {W0 : Nat → Nat → Int64} {R : Nat → Nat → Option Nat} {T : Nat} {B : Nat → Int32} {sl ol : Option (List Nat)} {Tm : Nat} (p : Int32) (hM : kW a M0 M V0 W0 R) (hH : cH a M0 V0 R T B sl ol Tm)  : am G l kX11_far 1 [.ref a, .int p] M 0 0 (zr (.int (if inR p 0 20 then mFar B p else -2)) (fun M' => kW a M0 M' V0 W0 R)) := by
  obtain ⟨V, W, hA, hv, hw⟩ := hM
  obtain ⟨hT, hb, hS, hB⟩ := id hH
  have hd0 := (dLaw_of hB).1
  have hd1 := (dLaw_of hB).2
  have h25 := hB.2.2.2.2.2.1
  have h26 := hB.2.2.2.2.2.2.1
  have h27 := hB.2.2.2.2.2.2.2.1
  have h6 := hB.2.2.1
  have hag := hB.2.2.2.2.1
  have hTm := hB.2.2.2.2.2.2.2.2.1
  have h25b := h25.2
  have h26b := h26.2
  have h27b := h27.2
  have h6b := h6.2
  refine am.of (by decide) (Nat.le_of_ble_eq_true rfl) ?_
  refine aj.iload_n dX11_far_0 rfl ?_
  refine aj.i2l dX11_far_1 ?_
  refine aj.callS1 (d' := 0) (As := [.long (Int32.toInt64 p)]) (rest := []) dX11_far_2 v_X11_150 w748 rfl rfl (Nat.le_of_ble_eq_true rfl) (Nat.le_of_ble_eq_true rfl) (k_isPlaceI _ p) (fun M hM => ?_)
  subst hM
  refine aj.if_eqB (tgt := 19) dX11_far_5 rfl (fun c5 => ?_) (fun c5 => ?_)
  · refine aj.bipush (v := (-2)) dX11_far_19 rfl ?_
    exact aj.iret rfl dX11_far_21 ⟨by rw [if_neg c5], ⟨_, _, hA, hv, hw⟩⟩
  · have h_p := inR_bd (n := 20) c5 (by decide)
    have h2_p := h_p.2
    refine aj.aload_n dX11_far_8 rfl ?_
    refine gT hT hA w378 dX11_far_9 ?_
    refine aj.iload_n dX11_far_12 rfl ?_
    refine aj.callE1 (d' := 0) (As := [.int p]) (rest := []) dX11_far_13 v_X11_154 li_X0_distance (hA.bw hb).ob rfl rfl rfl (Nat.le_of_ble_eq_true rfl) (Nat.le_of_ble_eq_true rfl) (k_distance p (hA.bw hb)) (fun M hM => ?_)
    subst hM
    refine aj.goto (tgt := 21) dX11_far_16 rfl ?_
    exact aj.iret rfl dX11_far_21 ⟨by rw [if_pos c5], ⟨_, _, hA, hv, hw⟩⟩
theorem p_points {G : zG} {l : Launch} {a : Nat} {M0 M : zM} {V0 : Nat → Nat → Int32} {W0 : Nat → Nat → Int64} {R : Nat → Nat → Option Nat} {T : Nat} {B : Nat → Int32} {sl ol : Option (List Nat)} {Tm : Nat} (s : Int32) (hM : kW a M0 M V0 W0 R) (hH : cH a M0 V0 R T B sl ol Tm)  : am G l kX11_points 1 [.ref a, .int s] M 0 0 (zr (.int (if inR s 0 ((mN (B 6) : Int) - 1) then B (17 + mN s) else -99000002)) (fun M' => kW a M0 M' V0 W0 R)) := by
  obtain ⟨V, W, hA, hv, hw⟩ := hM
  obtain ⟨hT, hb, hS, hB⟩ := id hH
  have hd0 := (dLaw_of hB).1
  have hd1 := (dLaw_of hB).2
  have h25 := hB.2.2.2.2.2.1
  have h26 := hB.2.2.2.2.2.2.1
  have h27 := hB.2.2.2.2.2.2.2.1
  have h6 := hB.2.2.1
  have hag := hB.2.2.2.2.1
  have hTm := hB.2.2.2.2.2.2.2.2.1
  have h25b := h25.2
  have h26b := h26.2
  have h27b := h27.2
  have h6b := h6.2
  refine am.of (by decide) (Nat.le_of_ble_eq_true rfl) ?_
  refine aj.aload_n dX11_points_0 rfl ?_
  refine aj.iload_n dX11_points_1 rfl ?_
  refine aj.callE1 (d' := 0) (As := [.int s]) (rest := []) dX11_points_2 v_X11_124 li_X11_isShooter ⟨_, hA.ob (i := 0) rfl (by decide)⟩ rfl rfl rfl (Nat.le_of_ble_eq_true rfl) (Nat.le_of_ble_eq_true rfl) (k_isShooter s hH hA) (fun M hM => ?_)
  subst hM
  refine aj.if_eqB (tgt := 19) dX11_points_5 rfl (fun c5 => ?_) (fun c5 => ?_)
  · refine aj.ldc dX11_points_19 w738 ?_
    exact aj.iret rfl dX11_points_21 ⟨by rw [if_neg c5], ⟨_, _, hA, hv, hw⟩⟩
  · have h_s := inR_bdS c5 (by omega)
    have h2_s := h_s.2
    refine aj.aload_n dX11_points_8 rfl ?_
    refine gX11_now (i := 0) rfl hA w379 dX11_points_9 ?_
    refine aj.iload_n dX11_points_12 rfl ?_
    refine aj.callE1 (d' := 0) (As := [.int s]) (rest := []) dX11_points_13 v_X11_138 li_X7_pointsOf ⟨_, hA.ob (i := 8) rfl (by decide)⟩ rfl rfl rfl (Nat.le_of_ble_eq_true rfl) (Nat.le_of_ble_eq_true rfl) (k_pointsOf (o := 8) ⟨rfl, rfl, rfl⟩ (mN s) h_s.1 (by omega) hA) (fun M hM => ?_)
    subst hM
    refine aj.goto (tgt := 21) dX11_points_16 rfl ?_
    exact aj.iret rfl dX11_points_21 ⟨by rw [if_pos c5, congrFun (hv 9 (by decide)) (mN s), hS.1 (mN s) (by omega)], ⟨_, _, hA, hv, hw⟩⟩
theorem p_shooter {G : zG} {l : Launch} {a : Nat} {M0 M : zM} {V0 : Nat → Nat → Int32} {W0 : Nat → Nat → Int64} {R : Nat → Nat → Option Nat} {T : Nat} {B : Nat → Int32} {sl ol : Option (List Nat)} {Tm : Nat} (s : Int32) (q : Int32) (hM : kW a M0 M V0 W0 R) (hH : cH a M0 V0 R T B sl ol Tm)  : am G l kX11_shooter 1 [.ref a, .int s, .int q] M 0 0 (zr (.int (if inR s 0 ((mN (B 6) : Int) - 1) then (if q = 0 then B (13 + mN s) else if q = 1 then B (21 + mN s) else -2) else -2)) (fun M' => kW a M0 M' V0 W0 R)) := by
  obtain ⟨V, W, hA, hv, hw⟩ := hM
  obtain ⟨hT, hb, hS, hB⟩ := id hH
  have hd0 := (dLaw_of hB).1
  have hd1 := (dLaw_of hB).2
  have h25 := hB.2.2.2.2.2.1
  have h26 := hB.2.2.2.2.2.2.1
  have h27 := hB.2.2.2.2.2.2.2.1
  have h6 := hB.2.2.1
  have hag := hB.2.2.2.2.1
  have hTm := hB.2.2.2.2.2.2.2.2.1
  have h25b := h25.2
  have h26b := h26.2
  have h27b := h27.2
  have h6b := h6.2
  refine am.of (by decide) (Nat.le_of_ble_eq_true rfl) ?_
  refine aj.aload_n dX11_shooter_0 rfl ?_
  refine aj.iload_n dX11_shooter_1 rfl ?_
  refine aj.callE1 (d' := 0) (As := [.int s]) (rest := []) dX11_shooter_2 v_X11_124 li_X11_isShooter ⟨_, hA.ob (i := 0) rfl (by decide)⟩ rfl rfl rfl (Nat.le_of_ble_eq_true rfl) (Nat.le_of_ble_eq_true rfl) (k_isShooter s hH hA) (fun M hM => ?_)
  subst hM
  refine aj.if_eqB (tgt := 15) dX11_shooter_5 rfl (fun c5 => ?_) (fun c5 => ?_)
  · refine aj.bipush (v := (-2)) dX11_shooter_15 rfl ?_
    exact aj.iret rfl dX11_shooter_17 ⟨by rw [if_neg c5], ⟨_, _, hA, hv, hw⟩⟩
  · have h_s := inR_bdS c5 (by omega)
    have h2_s := h_s.2
    refine aj.iload_n dX11_shooter_8 rfl ?_
    refine aj.callS1 (d' := 0) (As := [.int q]) (rest := []) dX11_shooter_9 v_X11_128 w720 rfl rfl (Nat.le_of_ble_eq_true rfl) (Nat.le_of_ble_eq_true rfl) (k_isHalf _ q) (fun M hM => ?_)
    subst hM
    refine aj.if_neB (tgt := 18) dX11_shooter_12 rfl (fun c12 => ?_) (fun c12 => ?_)
    · have h_q := inR_bd (n := 1) c12 (by decide)
      have h2_q := h_q.2
      refine aj.iload_n dX11_shooter_18 rfl ?_
      refine aj.if_ne (tgt := 33) dX11_shooter_19 rfl (fun c19 => ?_) (fun c19 => ?_)
      · refine aj.aload_n dX11_shooter_33 rfl ?_
        refine gX11_now (i := 0) rfl hA w379 dX11_shooter_34 ?_
        refine aj.iload_n dX11_shooter_37 rfl ?_
        refine aj.callE1 (d' := 0) (As := [.int s]) (rest := []) dX11_shooter_38 v_X11_135 li_X7_ageOf ⟨_, hA.ob (i := 8) rfl (by decide)⟩ rfl rfl rfl (Nat.le_of_ble_eq_true rfl) (Nat.le_of_ble_eq_true rfl) (k_ageOf (o := 8) ⟨rfl, rfl, rfl⟩ (mN s) h_s.1 (by omega) hA) (fun M hM => ?_)
        subst hM
        exact aj.iret rfl dX11_shooter_41 ⟨by rw [if_pos c5, if_neg c19, if_pos (by have z1 := c12.1; have z2 := c12.2; exact Int32.toInt_inj.mp (by simp only [← Int32.toInt_inj] at c19; have e0 : (0 : Int32).toInt = 0 := rfl; have e1 : (1 : Int32).toInt = 1 := rfl; omega)), congrFun (hv 10 (by decide)) (mN s), hS.2.1 (mN s) (by omega)], ⟨_, _, hA, hv, hw⟩⟩
      · refine aj.aload_n dX11_shooter_22 rfl ?_
        refine gT hT hA w378 dX11_shooter_23 ?_
        refine aj.iload_n dX11_shooter_26 rfl ?_
        refine aj.callE1 (d' := 0) (As := [.int s]) (rest := []) dX11_shooter_27 v_X11_131 li_X0_shakeOf (hA.bw hb).ob rfl rfl rfl (Nat.le_of_ble_eq_true rfl) (Nat.le_of_ble_eq_true rfl) (k_shakeOf (mN s) h_s.1 (by omega) (hA.bw hb)) (fun M hM => ?_)
        subst hM
        refine aj.goto (tgt := 41) dX11_shooter_30 rfl ?_
        exact aj.iret rfl dX11_shooter_41 ⟨by rw [if_pos c5, if_pos c19], ⟨_, _, hA, hv, hw⟩⟩
    · refine aj.bipush (v := (-2)) dX11_shooter_15 rfl ?_
      exact aj.iret rfl dX11_shooter_17 ⟨by rw [if_pos c5, if_neg (fun z => c12 (by rw [z]; decide)), if_neg (fun z => c12 (by rw [z]; decide))], ⟨_, _, hA, hv, hw⟩⟩
theorem p_lands {G : zG} {l : Launch} {a : Nat} {M0 M : zM} {V0 : Nat → Nat → Int32} {W0 : Nat → Nat → Int64} {R : Nat → Nat → Option Nat} {T : Nat} {B : Nat → Int32} {sl ol : Option (List Nat)} {Tm : Nat} (s : Int32) (aim : Int32) (lot : Int32) (hM : kW a M0 M V0 W0 R) (hH : cH a M0 V0 R T B sl ol Tm)  : am G l kX11_lands 6 [.ref a, .int s, .int aim, .int lot] M 0 0 (zr (.int (if inR s 0 ((mN (B 6) : Int) - 1) ∧ inR aim 0 20 ∧ inR lot 0 9 then nI (mLand sl (B (13 + mN s)) (mN (B (21 + mN s))) (mN (B 26)) (mN aim) (mN lot)) else -2)) (fun M' => kW a M0 M' V0 W0 R)) := by
  obtain ⟨V, W, hA, hv, hw⟩ := hM
  obtain ⟨hT, hb, hS, hB⟩ := id hH
  have hd0 := (dLaw_of hB).1
  have hd1 := (dLaw_of hB).2
  have h25 := hB.2.2.2.2.2.1
  have h26 := hB.2.2.2.2.2.2.1
  have h27 := hB.2.2.2.2.2.2.2.1
  have h6 := hB.2.2.1
  have hag := hB.2.2.2.2.1
  have hTm := hB.2.2.2.2.2.2.2.2.1
  have h25b := h25.2
  have h26b := h26.2
  have h27b := h27.2
  have h6b := h6.2
  refine am.of (by decide) (Nat.le_of_ble_eq_true rfl) ?_
  refine aj.aload_n dX11_lands_0 rfl ?_
  refine aj.iload_n dX11_lands_1 rfl ?_
  refine aj.iload_n dX11_lands_2 rfl ?_
  refine aj.iload_n dX11_lands_3 rfl ?_
  refine aj.callE1 (d' := 1) (As := [.int s, .int aim, .int lot]) (rest := []) dX11_lands_4 v_X11_142 li_X11_isShot ⟨_, hA.ob (i := 0) rfl (by decide)⟩ rfl rfl rfl (Nat.le_of_ble_eq_true rfl) (Nat.le_of_ble_eq_true rfl) (k_isShot s aim lot hH hA) (fun M hM => ?_)
  subst hM
  refine aj.if_eqB (tgt := 20) dX11_lands_7 rfl (fun c7 => ?_) (fun c7 => ?_)
  · refine aj.bipush (v := (-2)) dX11_lands_20 rfl ?_
    exact aj.iret rfl dX11_lands_22 ⟨by rw [if_neg c7], ⟨_, _, hA, hv, hw⟩⟩
  · obtain ⟨cs1, ca1, cl1⟩ := id c7
    have h_s := inR_bdS cs1 (by omega)
    have h2_s := h_s.2
    have h_aim := inR_bd (n := 20) ca1 (by decide)
    have h2_aim := h_aim.2
    have h_lot := inR_bd (n := 9) cl1 (by decide)
    have h2_lot := h_lot.2
    refine aj.aload_n dX11_lands_10 rfl ?_
    refine aj.iload_n dX11_lands_11 rfl ?_
    refine aj.iload_n dX11_lands_12 rfl ?_
    refine aj.iload_n dX11_lands_13 rfl ?_
    refine aj.callE1 (d' := 5) (As := [.int s, .int aim, .int lot]) (rest := []) dX11_lands_14 v_X11_146 li_X11_landingNow ⟨_, hA.ob (i := 0) rfl (by decide)⟩ rfl rfl rfl (Nat.le_of_ble_eq_true rfl) (Nat.le_of_ble_eq_true rfl) (k_landingNow (mN s) h_s.1 (mN aim) h_aim.1 (mN lot) h_lot.1 (by omega) hH hv hA) (fun M hM => ?_)
    obtain ⟨v1, v2, hA⟩ := hM
    obtain ⟨V, hN, hA, hv⟩ := k_norm hA hv
    refine aj.goto (tgt := 22) dX11_lands_17 rfl ?_
    exact aj.iret rfl dX11_lands_22 ⟨by rw [if_pos c7], ⟨_, _, hA, hv, hw⟩⟩
theorem p_scores {G : zG} {l : Launch} {a : Nat} {M0 M : zM} {V0 : Nat → Nat → Int32} {W0 : Nat → Nat → Int64} {R : Nat → Nat → Option Nat} {T : Nat} {B : Nat → Int32} {sl ol : Option (List Nat)} {Tm : Nat} (p : Int32) (hM : kW a M0 M V0 W0 R) (hH : cH a M0 V0 R T B sl ol Tm)  : am G l kX11_scores 5 [.ref a, .int p] M 0 0 (zr (.int (if inR p 0 20 then mScore B p (mOpen ol (mN (B 26)) (mN (B 27)) (mN (B 25)) = true) else -99000002)) (fun M' => kW a M0 M' V0 W0 R)) := by
  obtain ⟨V, W, hA, hv, hw⟩ := hM
  obtain ⟨hT, hb, hS, hB⟩ := id hH
  have hd0 := (dLaw_of hB).1
  have hd1 := (dLaw_of hB).2
  have h25 := hB.2.2.2.2.2.1
  have h26 := hB.2.2.2.2.2.2.1
  have h27 := hB.2.2.2.2.2.2.2.1
  have h6 := hB.2.2.1
  have hag := hB.2.2.2.2.1
  have hTm := hB.2.2.2.2.2.2.2.2.1
  have h25b := h25.2
  have h26b := h26.2
  have h27b := h27.2
  have h6b := h6.2
  refine am.of (by decide) (Nat.le_of_ble_eq_true rfl) ?_
  refine aj.iload_n dX11_scores_0 rfl ?_
  refine aj.i2l dX11_scores_1 ?_
  refine aj.callS1 (d' := 0) (As := [.long (Int32.toInt64 p)]) (rest := []) dX11_scores_2 v_X11_150 w748 rfl rfl (Nat.le_of_ble_eq_true rfl) (Nat.le_of_ble_eq_true rfl) (k_isPlaceI _ p) (fun M hM => ?_)
  subst hM
  refine aj.if_eqB (tgt := 23) dX11_scores_5 rfl (fun c5 => ?_) (fun c5 => ?_)
  · refine aj.ldc dX11_scores_23 w738 ?_
    exact aj.iret rfl dX11_scores_25 ⟨by rw [if_neg c5], ⟨_, _, hA, hv, hw⟩⟩
  · have h_p := inR_bd (n := 20) c5 (by decide)
    have h2_p := h_p.2
    refine aj.aload_n dX11_scores_8 rfl ?_
    refine gT hT hA w378 dX11_scores_9 ?_
    refine aj.iload_n dX11_scores_12 rfl ?_
    refine aj.aload_n dX11_scores_13 rfl ?_
    refine aj.callE1 (d' := 4) (As := []) (rest := [.int p, .ref T]) dX11_scores_14 v_X11_157 li_X11_isOpenNow ⟨_, hA.ob (i := 0) rfl (by decide)⟩ rfl rfl rfl (Nat.le_of_ble_eq_true rfl) (Nat.le_of_ble_eq_true rfl) (k_isOpenNow hH hv hA) (fun M hM => ?_)
    obtain ⟨v1, v2, hA⟩ := hM
    obtain ⟨V, hN, hA, hv⟩ := k_norm hA hv
    refine aj.callE1 (d' := 1) (As := [.int p, .int (zb (mOpen ol (mN (B 26)) (mN (B 27)) (mN (B 25)) = true))]) (rest := []) dX11_scores_17 v_X11_161 li_X0_worth (hA.bw hb).ob rfl rfl rfl (Nat.le_of_ble_eq_true rfl) (Nat.le_of_ble_eq_true rfl) (k_worth p (mOpen ol (mN (B 26)) (mN (B 27)) (mN (B 25)) = true) (hA.bw hb)) (fun M hM => ?_)
    subst hM
    refine aj.goto (tgt := 25) dX11_scores_20 rfl ?_
    exact aj.iret rfl dX11_scores_25 ⟨by rw [if_pos c5], ⟨_, _, hA, hv, hw⟩⟩
theorem p_fault {G : zG} {l : Launch} {a : Nat} {M0 M : zM} {V0 : Nat → Nat → Int32} {W0 : Nat → Nat → Int64} {R : Nat → Nat → Option Nat} {T : Nat} {B : Nat → Int32} {sl ol : Option (List Nat)} {Tm : Nat} (q : Int32) (hM : kW a M0 M V0 W0 R) (hH : cH a M0 V0 R T B sl ol Tm)  : am G l kX11_fault 0 [.ref a, .int q] M 0 0 (zr (.int (if q = 0 then V0 2 4 else if q = 1 then V0 2 5 else -1)) (fun M' => kW a M0 M' V0 W0 R)) := by
  obtain ⟨V, W, hA, hv, hw⟩ := hM
  obtain ⟨hT, hb, hS, hB⟩ := id hH
  have hd0 := (dLaw_of hB).1
  have hd1 := (dLaw_of hB).2
  have h25 := hB.2.2.2.2.2.1
  have h26 := hB.2.2.2.2.2.2.1
  have h27 := hB.2.2.2.2.2.2.2.1
  have h6 := hB.2.2.1
  have hag := hB.2.2.2.2.1
  have hTm := hB.2.2.2.2.2.2.2.2.1
  have h25b := h25.2
  have h26b := h26.2
  have h27b := h27.2
  have h6b := h6.2
  refine am.of (by decide) (Nat.le_of_ble_eq_true rfl) ?_
  refine aj.iload_n dX11_fault_0 rfl ?_
  refine aj.if_ne (tgt := 12) dX11_fault_1 rfl (fun c1 => ?_) (fun c1 => ?_)
  · refine aj.iload_n dX11_fault_12 rfl ?_
    refine aj.iconst (v := 1) dX11_fault_13 rfl ?_
    refine aj.icmp_ne (tgt := 27) dX11_fault_14 rfl (fun c14 => ?_) (fun c14 => ?_)
    · refine aj.iconst (v := (-1)) dX11_fault_27 rfl ?_
      exact aj.iret rfl dX11_fault_28 ⟨by rw [if_neg c1, if_neg c14], ⟨_, _, hA, hv, hw⟩⟩
    · refine aj.aload_n dX11_fault_17 rfl ?_
      refine gX11_reader (i := 0) rfl hA w377 dX11_fault_18 ?_
      refine gX5_place (i := 2) rfl hA w179 dX11_fault_21 ?_
      refine aj.goto (tgt := 28) dX11_fault_24 rfl ?_
      exact aj.iret rfl dX11_fault_28 ⟨by rw [if_neg c1, if_pos c14, congrFun (hv 2 (by decide)) 5], ⟨_, _, hA, hv, hw⟩⟩
  · refine aj.aload_n dX11_fault_4 rfl ?_
    refine gX11_reader (i := 0) rfl hA w377 dX11_fault_5 ?_
    refine gX5_fault (i := 2) rfl hA w177 dX11_fault_8 ?_
    exact aj.iret rfl dX11_fault_11 ⟨by rw [if_pos c1, congrFun (hv 2 (by decide)) 4], ⟨_, _, hA, hv, hw⟩⟩
theorem p_open {G : zG} {l : Launch} {a : Nat} {M0 M : zM} {V0 : Nat → Nat → Int32} {W0 : Nat → Nat → Int64} {R : Nat → Nat → Option Nat} {T : Nat} {B : Nat → Int32} {sl ol : Option (List Nat)} {Tm : Nat} (n : Int32) (hM : kW a M0 M V0 W0 R) (hH : cH a M0 V0 R T B sl ol Tm)  : am G l kX11_open 4 [.ref a, .int n] M 0 0 (zr (.int (if inR n 0 99 then zb (mOpen ol (mN (B 26)) (mN (B 27) + mN n) (mN (B 25)) = true) else -3)) (fun M' => kW a M0 M' V0 W0 R)) := by
  obtain ⟨V, W, hA, hv, hw⟩ := hM
  obtain ⟨hT, hb, hS, hB⟩ := id hH
  have hd0 := (dLaw_of hB).1
  have hd1 := (dLaw_of hB).2
  have h25 := hB.2.2.2.2.2.1
  have h26 := hB.2.2.2.2.2.2.1
  have h27 := hB.2.2.2.2.2.2.2.1
  have h6 := hB.2.2.1
  have hag := hB.2.2.2.2.1
  have hTm := hB.2.2.2.2.2.2.2.2.1
  have h25b := h25.2
  have h26b := h26.2
  have h27b := h27.2
  have h6b := h6.2
  refine am.of (by decide) (Nat.le_of_ble_eq_true rfl) ?_
  refine aj.iload_n dX11_open_0 rfl ?_
  refine aj.if_lt (tgt := 10) dX11_open_1 rfl (fun c1 => ?_) (fun c1 => ?_)
  · refine aj.bipush (v := (-3)) dX11_open_10 rfl ?_
    exact aj.iret rfl dX11_open_12 ⟨by rw [if_neg (by unfold inR; simp only [Int32.lt_iff_toInt_lt, Int32.le_iff_toInt_le] at *; have e0 : (0 : Int32).toInt = 0 := rfl; have e100 : (100 : Int32).toInt = 100 := rfl; have e99 : (99 : Int32).toInt = 99 := rfl; omega)], ⟨_, _, hA, hv, hw⟩⟩
  · refine aj.iload_n dX11_open_4 rfl ?_
    refine aj.bipush (v := 100) dX11_open_5 rfl ?_
    refine aj.icmp_lt (tgt := 13) dX11_open_7 rfl (fun c7 => ?_) (fun c7 => ?_)
    · have c_n : inR n 0 99 := by unfold inR; simp only [Int32.lt_iff_toInt_lt, Int32.le_iff_toInt_le] at *; have e0 : (0 : Int32).toInt = 0 := rfl; have e100 : (100 : Int32).toInt = 100 := rfl; have e99 : (99 : Int32).toInt = 99 := rfl; omega
      have h_n := inR_bd (n := 99) c_n (by decide)
      have h2_n := h_n.2
      refine aj.aload_n dX11_open_13 rfl ?_
      refine aj.iload_n dX11_open_14 rfl ?_
      refine aj.callE1 (d' := 3) (As := [.int n]) (rest := []) dX11_open_15 v_X11_165 li_X11_isOpenIn ⟨_, hA.ob (i := 0) rfl (by decide)⟩ rfl rfl rfl (Nat.le_of_ble_eq_true rfl) (Nat.le_of_ble_eq_true rfl) (k_isOpenIn (mN n) h_n.1 (by omega) hH hv hA) (fun M hM => ?_)
      obtain ⟨v1, v2, hA⟩ := hM
      obtain ⟨V, hN, hA, hv⟩ := k_norm hA hv
      refine aj.if_eqB (tgt := 25) dX11_open_18 rfl (fun c18 => ?_) (fun c18 => ?_)
      · refine aj.iconst (v := 0) dX11_open_25 rfl ?_
        exact aj.iret rfl dX11_open_26 ⟨by rw [if_pos c_n, zb_f c18], ⟨_, _, hA, hv, hw⟩⟩
      · refine aj.iconst (v := 1) dX11_open_21 rfl ?_
        refine aj.goto (tgt := 26) dX11_open_22 rfl ?_
        exact aj.iret rfl dX11_open_26 ⟨by rw [if_pos c_n, zb_t c18], ⟨_, _, hA, hv, hw⟩⟩
    · refine aj.bipush (v := (-3)) dX11_open_10 rfl ?_
      exact aj.iret rfl dX11_open_12 ⟨by rw [if_neg (by unfold inR; simp only [Int32.lt_iff_toInt_lt, Int32.le_iff_toInt_le] at *; have e0 : (0 : Int32).toInt = 0 := rfl; have e100 : (100 : Int32).toInt = 100 := rfl; have e99 : (99 : Int32).toInt = 99 := rfl; omega)], ⟨_, _, hA, hv, hw⟩⟩
