/-- all but a state and the law's scratch stays -/
def stE (o : Nat) (V V1 : Nat → Nat → Int32) : Prop := ∀ q, q ≠ 50 → q ≠ 51 → q ≠ o → q ≠ o + 1 → q ≠ o + 2 → V1 q = V q
theorem bW.cB {a : Nat} {M : zM} {t : Nat} {B C : Nat → Int32} {sl ol : Option (List Nat)} (h : bW a M t B sl ol) (e : ∀ k, k < 17 → C k = B k) : bW a M t C sl ol := by
  obtain ⟨y, wd, l1, l2, h1, h2, h3, h4, h5, h6⟩ := h
  obtain ⟨g, h7, h8⟩ := h4
  refine ⟨y, wd, l1, l2, h1, h2, ?_, ⟨g, h7, fun j hj => (h8 j hj).trans (e (13 + j) (by omega)).symm⟩, h5, h6⟩
  rw [e 1 (by decide), e 2 (by decide), e 3 (by decide), e 4 (by decide), e 5 (by decide), e 0 (by decide), e 6 (by decide)]
  exact h3
theorem cH_any {a : Nat} {M0 : zM} {R : Nat → Nat → Option Nat} {T : Nat} {B : Nat → Int32} {sl ol : Option (List Nat)} {Tm : Nat} (hT : R 0 0 = some T) (hb : bW a M0 T B sl ol) (hB : mOK B sl ol Tm) : ∃ V0, cH a M0 V0 R T B sl ol Tm :=
  ⟨fun q j => if q = 9 then B (17 + j) else if q = 10 then B (21 + j) else B (25 + j), hT, hb, ⟨fun j hj => rfl, fun j hj => rfl, rfl, rfl, rfl⟩, hB⟩
theorem st_norm {a : Nat} {M0 M : zM} {V V1 : Nat → Nat → Int32} {W : Nat → Nat → Int64} {R : Nat → Nat → Option Nat} {B : Nat → Int32} {o : Nat} {v v' : Nat → Int32} (ho : o = 8 ∨ o = 11) (hS : stR V1 o B) (hE : ∀ q, q ≠ 50 → q ≠ 51 → V1 q = V q) (hA : kA a M0 M (va_up (va_up V1 50 v) 51 v') W R) : ∃ V2, stR V2 o B ∧ (∀ q, q ≠ 50 → q ≠ 51 → V2 q = V q) ∧ kA a M0 M V2 W R := by
  refine ⟨_, ?_, fun q h0 h1 => ?_, hA⟩
  · unfold stR
    rw [va_up_ne _ _ (show o ≠ 51 by omega), va_up_ne _ _ (show o ≠ 50 by omega), va_up_ne _ _ (show o + 1 ≠ 51 by omega), va_up_ne _ _ (show o + 1 ≠ 50 by omega), va_up_ne _ _ (show o + 2 ≠ 51 by omega), va_up_ne _ _ (show o + 2 ≠ 50 by omega)]
    exact hS
  · rw [va_up_ne _ _ h1, va_up_ne _ _ h0]
    exact hE q h0 h1
theorem shotB_17 {B : Nat → Int32} {sl ol : Option (List Nat)} {s aim lot : Nat} (hs : s < 4) : shotB B sl ol s aim lot (17 + s) = B (17 + s) + shotS B sl ol s aim lot := by
  have h2 : shot2 B sl ol s aim lot (17 + s) = B (17 + s) + shotS B sl ol s aim lot := by
    unfold shot2
    split
    · rw [pk_un (by omega)]; exact pk_us
    · exact pk_us
  unfold shotB
  rw [pk_un (by omega)]
  unfold shot3
  split
  · rw [pk_un (by omega)]; exact h2
  · exact h2
theorem shotB_25e {B : Nat → Int32} {sl ol : Option (List Nat)} {s aim lot : Nat} (hs : s < 4) : shotB B sl ol s aim lot 25 = if mOpen ol (mN (B 26)) (mN (B 27)) (mN (B 25)) = true ∧ mFar B (nI (mLn B sl s aim lot)) = 0 then nI (mN (B 25) + 1) else B 25 := by
  have h2 : shot2 B sl ol s aim lot 25 = if mOpen ol (mN (B 26)) (mN (B 27)) (mN (B 25)) = true ∧ mFar B (nI (mLn B sl s aim lot)) = 0 then nI (mN (B 25) + 1) else B 25 := by
    unfold shot2
    split
    · exact pk_us
    · exact shot1_o (by omega)
  unfold shotB
  rw [pk_un (by omega)]
  unfold shot3
  split
  · rw [pk_un (by omega)]; exact h2
  · exact h2
theorem shotB_21 {B : Nat → Int32} {sl ol : Option (List Nat)} {s aim lot Tm : Nat} (hB : mOK B sl ol Tm) (hs : s < 4) : shotB B sl ol s aim lot (21 + s) = iMin 9 (B (21 + s) + 1) := by
  have hag := hB.2.2.2.2.1 s hs
  have h1 := hag.2
  have e : iMin 9 (B (21 + s) + 1) = nI (min 9 (mN (B (21 + s)) + 1)) := by
    rw [hag.1, mN_nI (by omega), show (1 : Int32) = nI 1 from rfl, nI_add, show (9 : Int32) = nI 9 from rfl, iMin_N (by decide) (by omega)]
  rw [e]
  unfold shotB
  rw [pk_un (by omega)]
  unfold shot3
  split
  · rw [pk_us, show min 9 (mN (B (21 + s)) + 1) = mN (B (21 + s)) + 1 by omega]
  · rw [shot2_o (by omega) (by omega), show min 9 (mN (B (21 + s)) + 1) = mN (B (21 + s)) by omega]
    exact hag.1
theorem st_shot {V V1 : Nat → Nat → Int32} {B : Nat → Int32} {sl ol : Option (List Nat)} {o s aim lot Tm : Nat} (hS : stR V o B) (hB : mOK B sl ol Tm) (hs : s < 4) (h1 : V1 (o + 1) = upd (V (o + 1)) s (V (o + 1) s + shotS B sl ol s aim lot)) (h2 : V1 (o + 2) = upd (V (o + 2)) s (iMin 9 (V (o + 2) s + 1))) (h0 : V1 o 0 = if mOpen ol (mN (B 26)) (mN (B 27)) (mN (B 25)) = true ∧ mFar B (nI (mLn B sl s aim lot)) = 0 then nI (mN (B 25) + 1) else B 25) (h3 : V1 o 1 = V o 1) (h4 : V1 o 2 = nI (mN (B 27) + 1)) : stR V1 o (shotB B sl ol s aim lot) := by
  refine ⟨fun j hj => ?_, fun j hj => ?_, ?_, ?_, ?_⟩
  · rw [h1]
    by_cases e : j = s
    · rw [e, pk_us, shotB_17 hs, hS.1 s hs]
    · rw [pk_un e, hS.1 j hj, shotB_o (by omega) (by omega) (by omega) (by omega)]
  · rw [h2]
    by_cases e : j = s
    · rw [e, pk_us, shotB_21 hB hs, hS.2.1 s hs]
    · rw [pk_un e, hS.2.1 j hj, shotB_o (by omega) (by omega) (by omega) (by omega)]
  · rw [h0, shotB_25e hs]
  · rw [h3, hS.2.2.2.1, shotB_o (by omega) (by omega) (by omega) (by omega)]
  · rw [h4, shotB_27]
theorem st_add {a : Nat} {M0 M : zM} {V : Nat → Nat → Int32} {W : Nat → Nat → Int64} {R : Nat → Nat → Option Nat} {o : Nat} {f g : Nat → Int32} (hA : kA a M0 M (va_up (va_up V (o + 1) f) (o + 2) g) W R) : ∃ V2, V2 (o + 1) = f ∧ V2 (o + 2) = g ∧ V2 o = V o ∧ (∀ q, q ≠ o + 1 → q ≠ o + 2 → V2 q = V q) ∧ kA a M0 M V2 W R :=
  ⟨_, by rw [va_up_ne _ _ (by omega), va_up_self], by rw [va_up_self], by rw [va_up_ne _ _ (by omega), va_up_ne _ _ (by omega)], fun q h1 h2 => by rw [va_up_ne _ _ h2, va_up_ne _ _ h1], hA⟩
theorem k_takeShot {G : zG} {l : Launch} {a : Nat} {M0 M : zM} {V : Nat → Nat → Int32} {W : Nat → Nat → Int64} {R : Nat → Nat → Option Nat} {T : Nat} {B : Nat → Int32} {sl ol : Option (List Nat)} {Tm : Nat} {o : Nat} (hs : kSt o) (ho : o = 8 ∨ o = 11) (s : Nat) {x_s : Int32} (e_s : x_s = nI s) (aim : Nat) {x_aim : Int32} (e_aim : x_aim = nI aim) (lot : Nat) {x_lot : Int32} (e_lot : x_lot = nI lot) (hs4 : s < 4) (haim : aim ≤ 20) (hlot : lot ≤ 9) (hT : R 0 0 = some T) (hb : bW a M0 T B sl ol) (hS : stR V o B) (hB : mOK B sl ol Tm) (hA : kA a M0 M V W R) : am G l kX11_takeShot 5 [.ref a, .ref (a + o), .int x_s, .int x_aim, .int x_lot] M 0 0 (zr (.int (shotS B sl ol s aim lot)) (fun M' => ∃ V1, kA a M0 M' V1 W R ∧ stR V1 o (shotB B sl ol s aim lot) ∧ stE o V V1)) := by
  have hd0 := (dLaw_of hB).1
  have hd1 := (dLaw_of hB).2
  have h25 := hB.2.2.2.2.2.1
  have h26 := hB.2.2.2.2.2.2.1
  have h27 := hB.2.2.2.2.2.2.2.1
  have h6 := hB.2.2.1
  have hag := hB.2.2.2.2.1
  have hTm := hB.2.2.2.2.2.2.2.2.1
  have h25b := h25.2
  have h26b := h26.2
  have h27b := h27.2
  have h6b := h6.2
  have hag1 := (hag s hs4).2
  obtain ⟨V1, eV⟩ : ∃ z, z = V := ⟨_, rfl⟩
  rw [← eV] at hA hS
  have hE : ∀ q, q ≠ 50 → q ≠ 51 → V1 q = V q := fun q _ _ => by rw [eV]
  clear eV
  refine am.of (by decide) (Nat.le_of_ble_eq_true rfl) ?_
  refine aj.aload_n dX11_takeShot_0 rfl ?_
  refine gX11_range (i := 0) rfl hA w385 dX11_takeShot_1 ?_
  refine aj.aload_n dX11_takeShot_4 rfl ?_
  refine gT hT hA w378 dX11_takeShot_5 ?_
  refine aj.aload_n dX11_takeShot_8 rfl ?_
  refine gT hT hA w378 dX11_takeShot_9 ?_
  refine aj.iload_n dX11_takeShot_12 rfl ?_
  refine aj.callE1 (d' := 0) (As := [.int x_s]) (rest := [.ref T, .ref (a + 49)]) dX11_takeShot_13 v_X11_131 li_X0_shakeOf (hA.bw hb).ob rfl rfl rfl (Nat.le_of_ble_eq_true rfl) (Nat.le_of_ble_eq_true rfl) (k_shakeOf s e_s (by omega) (hA.bw hb)) (fun M hM => ?_)
  subst hM
  refine aj.aload_n dX11_takeShot_16 rfl ?_
  refine aj.iload_n dX11_takeShot_17 rfl ?_
  refine aj.callE1 (d' := 0) (As := [.int x_s]) (rest := [.int (B (13 + s)), .ref T, .ref (a + 49)]) dX11_takeShot_18 v_X11_135 li_X7_ageOf ⟨_, hA.ob (i := o) hs.1 (by decide)⟩ rfl rfl rfl (Nat.le_of_ble_eq_true rfl) (Nat.le_of_ble_eq_true rfl) (k_ageOf (o := o) hs s e_s (by omega) hA) (fun M hM => ?_)
  subst hM
  refine aj.aload_n dX11_takeShot_21 rfl ?_
  refine gX7_wind (i := o) hs.1 hA w269 dX11_takeShot_22 ?_
  refine aj.iload_n dX11_takeShot_25 rfl ?_
  refine aj.iload dX11_takeShot_26 rfl ?_
  refine aj.callE1 (d' := 4) (As := [.ref T, .int (B (13 + s)), .int (V1 (o + 2) s), .int (V1 o 1), .int x_aim, .int x_lot]) (rest := []) dX11_takeShot_28 v_X11_381 li_X4_landing ⟨_, hA.ob (i := 49) rfl (by decide)⟩ rfl rfl rfl (Nat.le_of_ble_eq_true rfl) (Nat.le_of_ble_eq_true rfl) (k_landing (B (13 + s)) (mN (B (21 + s))) (((hS.2.1 s hs4).trans (hag s hs4).1)) (mN (B 26)) ((hS.2.2.2.1.trans h26.1)) aim e_aim lot e_lot (by omega) hb hd0 hA) (fun M hM => ?_)
  obtain ⟨v1, v2, hA⟩ := hM
  obtain ⟨V1, hS, hE, hA⟩ := st_norm ho hS hE hA
  refine aj.istore (lv' := [(5, .int (nI (mLand sl (B (13 + s)) (mN (B (21 + s))) (mN (B 26)) aim lot))), (0, .ref a), (1, .ref (a + o)), (2, .int x_s), (3, .int x_aim), (4, .int x_lot)]) dX11_takeShot_31 (Nat.le_of_ble_eq_true rfl) rfl ?_
  refine aj.aload_n dX11_takeShot_33 rfl ?_
  refine gX11_range (i := 0) rfl hA w385 dX11_takeShot_34 ?_
  refine aj.aload_n dX11_takeShot_37 rfl ?_
  refine gT hT hA w378 dX11_takeShot_38 ?_
  refine aj.aload_n dX11_takeShot_41 rfl ?_
  refine gX7_minute (i := o) hs.1 hA w271 dX11_takeShot_42 ?_
  refine aj.aload_n dX11_takeShot_45 rfl ?_
  refine gX7_hurt (i := o) hs.1 hA w267 dX11_takeShot_46 ?_
  refine aj.aload_n dX11_takeShot_49 rfl ?_
  refine gX7_wind (i := o) hs.1 hA w269 dX11_takeShot_50 ?_
  refine aj.callE1 (d' := 2) (As := [.ref T, .int (V1 o 2), .int (V1 o 0), .int (V1 o 1)]) (rest := []) dX11_takeShot_53 v_X11_377 li_X4_isEyeOpen ⟨_, hA.ob (i := 49) rfl (by decide)⟩ rfl rfl rfl (Nat.le_of_ble_eq_true rfl) (Nat.le_of_ble_eq_true rfl) (k_eye (mN (B 27)) ((hS.2.2.2.2.trans h27.1)) (mN (B 25)) ((hS.2.2.1.trans h25.1)) (mN (B 26)) ((hS.2.2.2.1.trans h26.1)) (by omega) (by omega) hb hd1 hA) (fun M hM => ?_)
  obtain ⟨v1, v2, hA⟩ := hM
  obtain ⟨V1, hS, hE, hA⟩ := st_norm ho hS hE hA
  refine aj.istore (lv' := [(6, .int (zb (mOpen ol (mN (B 26)) (mN (B 27)) (mN (B 25)) = true))), (5, .int (nI (mLand sl (B (13 + s)) (mN (B (21 + s))) (mN (B 26)) aim lot))), (0, .ref a), (1, .ref (a + o)), (2, .int x_s), (3, .int x_aim), (4, .int x_lot)]) dX11_takeShot_56 (Nat.le_of_ble_eq_true rfl) rfl ?_
  refine aj.aload_n dX11_takeShot_58 rfl ?_
  refine gT hT hA w378 dX11_takeShot_59 ?_
  refine aj.iload dX11_takeShot_62 rfl ?_
  refine aj.iload dX11_takeShot_64 rfl ?_
  refine aj.callE1 (d' := 1) (As := [.int (nI (mLand sl (B (13 + s)) (mN (B (21 + s))) (mN (B 26)) aim lot)), .int (zb (mOpen ol (mN (B 26)) (mN (B 27)) (mN (B 25)) = true))]) (rest := []) dX11_takeShot_66 v_X11_161 li_X0_worth (hA.bw hb).ob rfl rfl rfl (Nat.le_of_ble_eq_true rfl) (Nat.le_of_ble_eq_true rfl) (k_worth (nI (mLand sl (B (13 + s)) (mN (B (21 + s))) (mN (B 26)) aim lot)) (mOpen ol (mN (B 26)) (mN (B 27)) (mN (B 25)) = true) (hA.bw hb)) (fun M hM => ?_)
  subst hM
  refine aj.istore (lv' := [(7, .int (mScore B (nI (mLand sl (B (13 + s)) (mN (B (21 + s))) (mN (B 26)) aim lot)) (mOpen ol (mN (B 26)) (mN (B 27)) (mN (B 25)) = true))), (6, .int (zb (mOpen ol (mN (B 26)) (mN (B 27)) (mN (B 25)) = true))), (5, .int (nI (mLand sl (B (13 + s)) (mN (B (21 + s))) (mN (B 26)) aim lot))), (0, .ref a), (1, .ref (a + o)), (2, .int x_s), (3, .int x_aim), (4, .int x_lot)]) dX11_takeShot_69 (Nat.le_of_ble_eq_true rfl) rfl ?_
  refine aj.aload_n dX11_takeShot_71 rfl ?_
  refine aj.iload_n dX11_takeShot_72 rfl ?_
  refine aj.iload dX11_takeShot_73 rfl ?_
  refine aj.callE0 (d' := 1) (As := [.int x_s, .int (mScore B (nI (mLand sl (B (13 + s)) (mN (B (21 + s))) (mN (B 26)) aim lot)) (mOpen ol (mN (B 26)) (mN (B 27)) (mN (B 25)) = true))]) (rest := []) dX11_takeShot_75 v_X11_385 li_X7_addShot ⟨_, hA.ob (i := o) hs.1 (by decide)⟩ rfl rfl rfl (Nat.le_of_ble_eq_true rfl) (Nat.le_of_ble_eq_true rfl) (k_addShot (o := o) hs s e_s (mScore B (nI (mLand sl (B (13 + s)) (mN (B (21 + s))) (mN (B 26)) aim lot)) (mOpen ol (mN (B 26)) (mN (B 27)) (mN (B 25)) = true)) hs4 hA) (fun M hM => ?_)
  obtain ⟨V2, e1, e2, e0, e3, hA⟩ := st_add hM
  refine aj.iload dX11_takeShot_78 rfl ?_
  refine aj.if_eqB (tgt := 105) dX11_takeShot_80 rfl (fun c80 => ?_) (fun c80 => ?_)
  · refine aj.aload_n dX11_takeShot_105 rfl ?_
    refine aj.dup dX11_takeShot_106 rfl ?_
    refine gX7_minute (i := o) hs.1 hA w271 dX11_takeShot_107 ?_
    refine aj.iconst (v := 1) dX11_takeShot_110 rfl ?_
    refine aj.iaddN (a := mN (B 27)) (b := 1) dX11_takeShot_111 (by rw [e0]; exact hS.2.2.2.2.trans h27.1) rfl ?_
    refine pX7_minute (i := o) hs.1 hA w271 dX11_takeShot_112 (fun M hA => ?_)
    refine aj.iload dX11_takeShot_115 rfl ?_
    refine aj.iret rfl dX11_takeShot_117 ⟨rfl, _, hA, st_shot hS hB hs4 (by rw [va_up_ne _ _ (by omega), e1]; rfl) (by rw [va_up_ne _ _ (by omega), e2]) (by rw [va_up_self, pk_un (by decide), e0]; rw [if_neg (fun z => c80 z.1)]; exact hS.2.2.1) (by rw [va_up_self, pk_un (by decide), e0]) (by rw [va_up_self, pk_us]), fun q h0 h1 q0 q1 q2 => by rw [va_up_ne _ _ q0, e3 q q1 q2]; exact hE q h0 h1⟩
  · refine aj.aload_n dX11_takeShot_83 rfl ?_
    refine gT hT hA w378 dX11_takeShot_84 ?_
    refine aj.iload dX11_takeShot_87 rfl ?_
    refine aj.callE1 (d' := 0) (As := [.int (nI (mLand sl (B (13 + s)) (mN (B (21 + s))) (mN (B 26)) aim lot))]) (rest := []) dX11_takeShot_89 v_X11_154 li_X0_distance (hA.bw hb).ob rfl rfl rfl (Nat.le_of_ble_eq_true rfl) (Nat.le_of_ble_eq_true rfl) (k_distance (nI (mLand sl (B (13 + s)) (mN (B (21 + s))) (mN (B 26)) aim lot)) (hA.bw hb)) (fun M hM => ?_)
    subst hM
    refine aj.if_ne (tgt := 105) dX11_takeShot_92 rfl (fun c92 => ?_) (fun c92 => ?_)
    · refine aj.aload_n dX11_takeShot_105 rfl ?_
      refine aj.dup dX11_takeShot_106 rfl ?_
      refine gX7_minute (i := o) hs.1 hA w271 dX11_takeShot_107 ?_
      refine aj.iconst (v := 1) dX11_takeShot_110 rfl ?_
      refine aj.iaddN (a := mN (B 27)) (b := 1) dX11_takeShot_111 (by rw [e0]; exact hS.2.2.2.2.trans h27.1) rfl ?_
      refine pX7_minute (i := o) hs.1 hA w271 dX11_takeShot_112 (fun M hA => ?_)
      refine aj.iload dX11_takeShot_115 rfl ?_
      refine aj.iret rfl dX11_takeShot_117 ⟨rfl, _, hA, st_shot hS hB hs4 (by rw [va_up_ne _ _ (by omega), e1]; rfl) (by rw [va_up_ne _ _ (by omega), e2]) (by rw [va_up_self, pk_un (by decide), e0]; rw [if_neg (fun z => c92 z.2)]; exact hS.2.2.1) (by rw [va_up_self, pk_un (by decide), e0]) (by rw [va_up_self, pk_us]), fun q h0 h1 q0 q1 q2 => by rw [va_up_ne _ _ q0, e3 q q1 q2]; exact hE q h0 h1⟩
    · refine aj.aload_n dX11_takeShot_95 rfl ?_
      refine aj.dup dX11_takeShot_96 rfl ?_
      refine gX7_hurt (i := o) hs.1 hA w267 dX11_takeShot_97 ?_
      refine aj.iconst (v := 1) dX11_takeShot_100 rfl ?_
      refine aj.iaddN (a := mN (B 25)) (b := 1) dX11_takeShot_101 (by rw [e0]; exact hS.2.2.1.trans h25.1) rfl ?_
      refine pX7_hurt (i := o) hs.1 hA w267 dX11_takeShot_102 (fun M hA => ?_)
      refine aj.aload_n dX11_takeShot_105 rfl ?_
      refine aj.dup dX11_takeShot_106 rfl ?_
      refine gX7_minute (i := o) hs.1 hA w271 dX11_takeShot_107 ?_
      refine aj.iconst (v := 1) dX11_takeShot_110 rfl ?_
      refine aj.iaddN (a := mN (B 27)) (b := 1) dX11_takeShot_111 (by rw [va_up_self, pk_un (by decide), e0]; exact hS.2.2.2.2.trans h27.1) rfl ?_
      refine pX7_minute (i := o) hs.1 hA w271 dX11_takeShot_112 (fun M hA => ?_)
      refine aj.iload dX11_takeShot_115 rfl ?_
      refine aj.iret rfl dX11_takeShot_117 ⟨rfl, _, hA, st_shot hS hB hs4 (by rw [va_up_ne _ _ (by omega), va_up_ne _ _ (by omega), e1]; rfl) (by rw [va_up_ne _ _ (by omega), va_up_ne _ _ (by omega), e2]) (by rw [va_up_self, pk_un (by decide), va_up_self, pk_us]; rw [if_pos ⟨c80, c92⟩]) (by rw [va_up_self, pk_un (by decide), va_up_self, pk_un (by decide), e0]) (by rw [va_up_self, pk_us]), fun q h0 h1 q0 q1 q2 => by rw [va_up_ne _ _ q0, va_up_ne _ _ q0, e3 q q1 q2]; exact hE q h0 h1⟩
theorem st_mi {V : Nat → Nat → Int32} {B : Nat → Int32} {sl ol : Option (List Nat)} {o : Nat} (hS : stR V o B) : stR (va_up V o (upd (V o) 2 (nI (mN (B 27) + 1)))) o (doB B sl ol 0) := by
  have e : doB B sl ol 0 = upd B 27 (nI (mN (B 27) + 1)) := if_pos rfl
  rw [e]
  refine ⟨fun j hj => ?_, fun j hj => ?_, ?_, ?_, ?_⟩
  · rw [va_up_ne _ _ (by omega), pk_un (by omega)]; exact hS.1 j hj
  · rw [va_up_ne _ _ (by omega), pk_un (by omega)]; exact hS.2.1 j hj
  · rw [va_up_self, pk_un (by decide), pk_un (by decide)]; exact hS.2.2.1
  · rw [va_up_self, pk_un (by decide), pk_un (by decide)]; exact hS.2.2.2.1
  · rw [va_up_self, pk_us, pk_us]
theorem st_hu {V : Nat → Nat → Int32} {B : Nat → Int32} {sl ol : Option (List Nat)} {o : Nat} (hS : stR V o B) : stR (va_up V o (upd (V o) 0 0)) o (doB B sl ol 1) := by
  have e : doB B sl ol 1 = upd B 25 0 := (if_neg (by decide)).trans (if_pos rfl)
  rw [e]
  refine ⟨fun j hj => ?_, fun j hj => ?_, ?_, ?_, ?_⟩
  · rw [va_up_ne _ _ (by omega), pk_un (by omega)]; exact hS.1 j hj
  · rw [va_up_ne _ _ (by omega), pk_un (by omega)]; exact hS.2.1 j hj
  · rw [va_up_self, pk_us, pk_us]
  · rw [va_up_self, pk_un (by decide), pk_un (by decide)]; exact hS.2.2.2.1
  · rw [va_up_self, pk_un (by decide), pk_un (by decide)]; exact hS.2.2.2.2
theorem st_wd {V : Nat → Nat → Int32} {B : Nat → Int32} {sl ol : Option (List Nat)} {o n : Nat} (hS : stR V o B) (h1 : 10 ≤ n) (h2 : n ≤ 19) : stR (va_up V o (upd (V o) 1 (nI (n - 10)))) o (doB B sl ol n) := by
  have e : doB B sl ol n = upd B 26 (nI (n - 10)) := (if_neg (by omega)).trans ((if_neg (by omega)).trans (if_pos (by omega)))
  rw [e]
  refine ⟨fun j hj => ?_, fun j hj => ?_, ?_, ?_, ?_⟩
  · rw [va_up_ne _ _ (by omega), pk_un (by omega)]; exact hS.1 j hj
  · rw [va_up_ne _ _ (by omega), pk_un (by omega)]; exact hS.2.1 j hj
  · rw [va_up_self, pk_un (by decide), pk_un (by decide)]; exact hS.2.2.1
  · rw [va_up_self, pk_us, pk_us]
  · rw [va_up_self, pk_un (by decide), pk_un (by decide)]; exact hS.2.2.2.2
theorem st_do {V : Nat → Nat → Int32} {B : Nat → Int32} {sl ol : Option (List Nat)} {o n : Nat} (h1 : 10000 ≤ n) (hS : stR V o (shotB B sl ol ((n - 10000) / 10000) (((n - 10000) % 10000) / 100) ((n - 10000) % 100))) : stR V o (doB B sl ol n) := by
  have e : doB B sl ol n = shotB B sl ol (n / 10000 - 1) (n % 10000 / 100) (n % 100) := (if_neg (by omega)).trans ((if_neg (by omega)).trans (if_neg (by omega)))
  rw [e, show n / 10000 - 1 = (n - 10000) / 10000 by omega, show n % 10000 / 100 = ((n - 10000) % 10000) / 100 by omega, show n % 100 = (n - 10000) % 100 by omega]
  exact hS
theorem k_doDeed {G : zG} {l : Launch} {a : Nat} {M0 M : zM} {V : Nat → Nat → Int32} {W : Nat → Nat → Int64} {R : Nat → Nat → Option Nat} {T : Nat} {B : Nat → Int32} {sl ol : Option (List Nat)} {Tm : Nat} {o : Nat} (hs : kSt o) (ho : o = 8 ∨ o = 11) (v : Int64) (hT : R 0 0 = some T) (hb : bW a M0 T B sl ol) (hS : stR V o B) (hB : mOK B sl ol Tm) (hA : kA a M0 M V W R) : am G l kX11_doDeed 6 [.ref a, .ref (a + o), .long v] M 0 0 (zr (.int (zb (dOK (mN (B 6)) v.toInt))) (fun M' => ∃ V1, kA a M0 M' V1 W R ∧ stR V1 o (if dOK (mN (B 6)) v.toInt then doB B sl ol v.toInt.toNat else B) ∧ stE o V V1)) := by
  have hd0 := (dLaw_of hB).1
  have hd1 := (dLaw_of hB).2
  have h25 := hB.2.2.2.2.2.1
  have h26 := hB.2.2.2.2.2.2.1
  have h27 := hB.2.2.2.2.2.2.2.1
  have h6 := hB.2.2.1
  have hag := hB.2.2.2.2.1
  have hTm := hB.2.2.2.2.2.2.2.2.1
  have h25b := h25.2
  have h26b := h26.2
  have h27b := h27.2
  have h6b := h6.2
  obtain ⟨V0, hH⟩ := cH_any hT hb hB
  refine am.of (by decide) (Nat.le_of_ble_eq_true rfl) ?_
  refine aj.lload_n dX11_doDeed_0 rfl ?_
  refine aj.lconst (v := 0) dX11_doDeed_1 rfl ?_
  refine aj.lif_ne (tgt := 18) dX11_doDeed_2 dX11_doDeed_3 rfl (fun c2 => ?_) (fun c2 => ?_)
  · refine aj.lload_n dX11_doDeed_18 rfl ?_
    refine aj.lconst (v := 1) dX11_doDeed_19 rfl ?_
    refine aj.lif_ne (tgt := 31) dX11_doDeed_20 dX11_doDeed_21 rfl (fun c20 => ?_) (fun c20 => ?_)
    · refine aj.lload_n dX11_doDeed_31 rfl ?_
      refine aj.ldc2 dX11_doDeed_32 w754 ?_
      refine aj.lif_lt (tgt := 58) dX11_doDeed_35 dX11_doDeed_36 rfl (fun c35 => ?_) (fun c35 => ?_)
      · refine aj.lload_n dX11_doDeed_58 rfl ?_
        refine aj.ldc2 dX11_doDeed_59 w895 ?_
        refine aj.lif_lt (tgt := 74) dX11_doDeed_62 dX11_doDeed_63 rfl (fun c62 => ?_) (fun c62 => ?_)
        · refine aj.iconst (v := 0) dX11_doDeed_74 rfl ?_
          have hq : ¬ dOK (mN (B 6)) v.toInt := by simp only [Int64.lt_iff_toInt_lt, Int64.le_iff_toInt_le, ← Int64.toInt_inj] at *; have k0 : (0 : Int64).toInt = 0 := rfl; have k1 : (1 : Int64).toInt = 1 := rfl; have k2 : (10 : Int64).toInt = 10 := rfl; have k3 : (19 : Int64).toInt = 19 := rfl; have k4 : (10000 : Int64).toInt = 10000 := rfl; have k5 : (49999 : Int64).toInt = 49999 := rfl; omega
          exact aj.zret (ty := .boolean) rfl rfl dX11_doDeed_75 ⟨by rw [zb_f hq], V, hA, by rw [if_neg hq]; exact hS, fun _ _ _ _ _ _ => rfl⟩
        · refine aj.lload_n dX11_doDeed_66 rfl ?_
          refine aj.ldc2 dX11_doDeed_67 w896 ?_
          refine aj.lif_le (tgt := 76) dX11_doDeed_70 dX11_doDeed_71 rfl (fun c70 => ?_) (fun c70 => ?_)
          · obtain ⟨n, hn1, hn2, e_n⟩ := z_l64 (v := v) (lo := 10000) (hi := 49999) (a := 10000) (c := 49999) rfl rfl ⟨Int64.not_lt.mp c62, Int64.not_lt.mp c70⟩
            have hvn : v.toInt = (n : Int) := by rw [e_n]; exact pk_lT (by omega)
            refine aj.lload_n dX11_doDeed_76 rfl ?_
            refine aj.l2iN (a := n) dX11_doDeed_77 e_n ?_
            refine aj.sipush (v := 10000) dX11_doDeed_78 rfl ?_
            refine aj.isubN (a := n) (b := 10000) dX11_doDeed_81 rfl rfl (by omega) ?_
            refine aj.istore (lv' := [(4, .int (nI (n - 10000))), (0, .ref a), (1, .ref (a + o)), (2, .long v)]) dX11_doDeed_82 (Nat.le_of_ble_eq_true rfl) rfl ?_
            refine aj.iload dX11_doDeed_84 rfl ?_
            refine aj.sipush (v := 10000) dX11_doDeed_86 rfl ?_
            refine aj.idivN (a := n - 10000) (b := 10000) dX11_doDeed_89 rfl rfl (by omega) (by omega) (by omega) ?_
            refine aj.istore (lv' := [(5, .int (nI ((n - 10000) / 10000))), (4, .int (nI (n - 10000))), (0, .ref a), (1, .ref (a + o)), (2, .long v)]) dX11_doDeed_90 (Nat.le_of_ble_eq_true rfl) rfl ?_
            refine aj.iload dX11_doDeed_92 rfl ?_
            refine aj.sipush (v := 10000) dX11_doDeed_94 rfl ?_
            refine aj.iremN (a := n - 10000) (b := 10000) dX11_doDeed_97 rfl rfl (by omega) (by omega) (by omega) ?_
            refine aj.bipush (v := 100) dX11_doDeed_98 rfl ?_
            refine aj.idivN (a := (n - 10000) % 10000) (b := 100) dX11_doDeed_100 rfl rfl (by omega) (by omega) (by omega) ?_
            refine aj.istore (lv' := [(6, .int (nI (((n - 10000) % 10000) / 100))), (5, .int (nI ((n - 10000) / 10000))), (4, .int (nI (n - 10000))), (0, .ref a), (1, .ref (a + o)), (2, .long v)]) dX11_doDeed_101 (Nat.le_of_ble_eq_true rfl) rfl ?_
            refine aj.iload dX11_doDeed_103 rfl ?_
            refine aj.bipush (v := 100) dX11_doDeed_105 rfl ?_
            refine aj.iremN (a := n - 10000) (b := 100) dX11_doDeed_107 rfl rfl (by omega) (by omega) (by omega) ?_
            refine aj.istore (lv' := [(7, .int (nI ((n - 10000) % 100))), (6, .int (nI (((n - 10000) % 10000) / 100))), (5, .int (nI ((n - 10000) / 10000))), (4, .int (nI (n - 10000))), (0, .ref a), (1, .ref (a + o)), (2, .long v)]) dX11_doDeed_108 (Nat.le_of_ble_eq_true rfl) rfl ?_
            refine aj.aload_n dX11_doDeed_110 rfl ?_
            refine aj.iload dX11_doDeed_111 rfl ?_
            refine aj.iload dX11_doDeed_113 rfl ?_
            refine aj.iload dX11_doDeed_115 rfl ?_
            refine aj.callE1 (d' := 1) (As := [.int (nI ((n - 10000) / 10000)), .int (nI (((n - 10000) % 10000) / 100)), .int (nI ((n - 10000) % 100))]) (rest := []) dX11_doDeed_117 v_X11_142 li_X11_isShot ⟨_, hA.ob (i := 0) rfl (by decide)⟩ rfl rfl rfl (Nat.le_of_ble_eq_true rfl) (Nat.le_of_ble_eq_true rfl) (k_isShot (nI ((n - 10000) / 10000)) (nI (((n - 10000) % 10000) / 100)) (nI ((n - 10000) % 100)) hH hA) (fun M hM => ?_)
            subst hM
            refine aj.if_neB (tgt := 125) dX11_doDeed_120 rfl (fun c120 => ?_) (fun c120 => ?_)
            · have c120n := c120
              rw [inR_nI (by omega), inR_nI (by omega), inR_nI (by omega)] at c120n
              obtain ⟨z1, z2, z3⟩ := c120n
              refine aj.aload_n dX11_doDeed_125 rfl ?_
              refine aj.aload_n dX11_doDeed_126 rfl ?_
              refine aj.iload dX11_doDeed_127 rfl ?_
              refine aj.iload dX11_doDeed_129 rfl ?_
              refine aj.iload dX11_doDeed_131 rfl ?_
              refine aj.callE1 (d' := 5) (As := [.ref (a + o), .int (nI ((n - 10000) / 10000)), .int (nI (((n - 10000) % 10000) / 100)), .int (nI ((n - 10000) % 100))]) (rest := []) dX11_doDeed_133 v_X11_173 li_X11_takeShot ⟨_, hA.ob (i := 0) rfl (by decide)⟩ rfl rfl rfl (Nat.le_of_ble_eq_true rfl) (Nat.le_of_ble_eq_true rfl) (k_takeShot (o := o) hs ho ((n - 10000) / 10000) rfl (((n - 10000) % 10000) / 100) rfl ((n - 10000) % 100) rfl (by omega) (by omega) (by omega) hT hb hS hB hA) (fun M hM => ?_)
              obtain ⟨V9, hA, hS9, hE9⟩ := hM
              refine aj.pop dX11_doDeed_136 rfl ?_
              refine aj.iconst (v := 1) dX11_doDeed_137 rfl ?_
              have hq : dOK (mN (B 6)) v.toInt := by rw [hvn]; rw [inR_nI (by omega), inR_nI (by omega), inR_nI (by omega)] at c120; omega
              exact aj.zret (ty := .boolean) rfl rfl dX11_doDeed_138 ⟨by rw [zb_t hq], _, hA, by rw [if_pos hq, show v.toInt.toNat = n by omega]; exact st_do hn1 hS9, hE9⟩
            · refine aj.iconst (v := 0) dX11_doDeed_123 rfl ?_
              have hq : ¬ dOK (mN (B 6)) v.toInt := by rw [hvn]; rw [inR_nI (by omega), inR_nI (by omega), inR_nI (by omega)] at c120; omega
              exact aj.zret (ty := .boolean) rfl rfl dX11_doDeed_124 ⟨by rw [zb_f hq], V, hA, by rw [if_neg hq]; exact hS, fun _ _ _ _ _ _ => rfl⟩
          · refine aj.iconst (v := 0) dX11_doDeed_74 rfl ?_
            have hq : ¬ dOK (mN (B 6)) v.toInt := by simp only [Int64.lt_iff_toInt_lt, Int64.le_iff_toInt_le, ← Int64.toInt_inj] at *; have k0 : (0 : Int64).toInt = 0 := rfl; have k1 : (1 : Int64).toInt = 1 := rfl; have k2 : (10 : Int64).toInt = 10 := rfl; have k3 : (19 : Int64).toInt = 19 := rfl; have k4 : (10000 : Int64).toInt = 10000 := rfl; have k5 : (49999 : Int64).toInt = 49999 := rfl; omega
            exact aj.zret (ty := .boolean) rfl rfl dX11_doDeed_75 ⟨by rw [zb_f hq], V, hA, by rw [if_neg hq]; exact hS, fun _ _ _ _ _ _ => rfl⟩
      · refine aj.lload_n dX11_doDeed_39 rfl ?_
        refine aj.ldc2 dX11_doDeed_40 w894 ?_
        refine aj.lif_gt (tgt := 58) dX11_doDeed_43 dX11_doDeed_44 rfl (fun c43 => ?_) (fun c43 => ?_)
        · refine aj.lload_n dX11_doDeed_58 rfl ?_
          refine aj.ldc2 dX11_doDeed_59 w895 ?_
          refine aj.lif_lt (tgt := 74) dX11_doDeed_62 dX11_doDeed_63 rfl (fun c62 => ?_) (fun c62 => ?_)
          · refine aj.iconst (v := 0) dX11_doDeed_74 rfl ?_
            have hq : ¬ dOK (mN (B 6)) v.toInt := by simp only [Int64.lt_iff_toInt_lt, Int64.le_iff_toInt_le, ← Int64.toInt_inj] at *; have k0 : (0 : Int64).toInt = 0 := rfl; have k1 : (1 : Int64).toInt = 1 := rfl; have k2 : (10 : Int64).toInt = 10 := rfl; have k3 : (19 : Int64).toInt = 19 := rfl; have k4 : (10000 : Int64).toInt = 10000 := rfl; have k5 : (49999 : Int64).toInt = 49999 := rfl; omega
            exact aj.zret (ty := .boolean) rfl rfl dX11_doDeed_75 ⟨by rw [zb_f hq], V, hA, by rw [if_neg hq]; exact hS, fun _ _ _ _ _ _ => rfl⟩
          · refine aj.lload_n dX11_doDeed_66 rfl ?_
            refine aj.ldc2 dX11_doDeed_67 w896 ?_
            refine aj.lif_le (tgt := 76) dX11_doDeed_70 dX11_doDeed_71 rfl (fun c70 => ?_) (fun c70 => ?_)
            · obtain ⟨n, hn1, hn2, e_n⟩ := z_l64 (v := v) (lo := 10000) (hi := 49999) (a := 10000) (c := 49999) rfl rfl ⟨Int64.not_lt.mp c62, Int64.not_lt.mp c70⟩
              have hvn : v.toInt = (n : Int) := by rw [e_n]; exact pk_lT (by omega)
              refine aj.lload_n dX11_doDeed_76 rfl ?_
              refine aj.l2iN (a := n) dX11_doDeed_77 e_n ?_
              refine aj.sipush (v := 10000) dX11_doDeed_78 rfl ?_
              refine aj.isubN (a := n) (b := 10000) dX11_doDeed_81 rfl rfl (by omega) ?_
              refine aj.istore (lv' := [(4, .int (nI (n - 10000))), (0, .ref a), (1, .ref (a + o)), (2, .long v)]) dX11_doDeed_82 (Nat.le_of_ble_eq_true rfl) rfl ?_
              refine aj.iload dX11_doDeed_84 rfl ?_
              refine aj.sipush (v := 10000) dX11_doDeed_86 rfl ?_
              refine aj.idivN (a := n - 10000) (b := 10000) dX11_doDeed_89 rfl rfl (by omega) (by omega) (by omega) ?_
              refine aj.istore (lv' := [(5, .int (nI ((n - 10000) / 10000))), (4, .int (nI (n - 10000))), (0, .ref a), (1, .ref (a + o)), (2, .long v)]) dX11_doDeed_90 (Nat.le_of_ble_eq_true rfl) rfl ?_
              refine aj.iload dX11_doDeed_92 rfl ?_
              refine aj.sipush (v := 10000) dX11_doDeed_94 rfl ?_
              refine aj.iremN (a := n - 10000) (b := 10000) dX11_doDeed_97 rfl rfl (by omega) (by omega) (by omega) ?_
              refine aj.bipush (v := 100) dX11_doDeed_98 rfl ?_
              refine aj.idivN (a := (n - 10000) % 10000) (b := 100) dX11_doDeed_100 rfl rfl (by omega) (by omega) (by omega) ?_
              refine aj.istore (lv' := [(6, .int (nI (((n - 10000) % 10000) / 100))), (5, .int (nI ((n - 10000) / 10000))), (4, .int (nI (n - 10000))), (0, .ref a), (1, .ref (a + o)), (2, .long v)]) dX11_doDeed_101 (Nat.le_of_ble_eq_true rfl) rfl ?_
              refine aj.iload dX11_doDeed_103 rfl ?_
              refine aj.bipush (v := 100) dX11_doDeed_105 rfl ?_
              refine aj.iremN (a := n - 10000) (b := 100) dX11_doDeed_107 rfl rfl (by omega) (by omega) (by omega) ?_
              refine aj.istore (lv' := [(7, .int (nI ((n - 10000) % 100))), (6, .int (nI (((n - 10000) % 10000) / 100))), (5, .int (nI ((n - 10000) / 10000))), (4, .int (nI (n - 10000))), (0, .ref a), (1, .ref (a + o)), (2, .long v)]) dX11_doDeed_108 (Nat.le_of_ble_eq_true rfl) rfl ?_
              refine aj.aload_n dX11_doDeed_110 rfl ?_
              refine aj.iload dX11_doDeed_111 rfl ?_
              refine aj.iload dX11_doDeed_113 rfl ?_
              refine aj.iload dX11_doDeed_115 rfl ?_
              refine aj.callE1 (d' := 1) (As := [.int (nI ((n - 10000) / 10000)), .int (nI (((n - 10000) % 10000) / 100)), .int (nI ((n - 10000) % 100))]) (rest := []) dX11_doDeed_117 v_X11_142 li_X11_isShot ⟨_, hA.ob (i := 0) rfl (by decide)⟩ rfl rfl rfl (Nat.le_of_ble_eq_true rfl) (Nat.le_of_ble_eq_true rfl) (k_isShot (nI ((n - 10000) / 10000)) (nI (((n - 10000) % 10000) / 100)) (nI ((n - 10000) % 100)) hH hA) (fun M hM => ?_)
              subst hM
              refine aj.if_neB (tgt := 125) dX11_doDeed_120 rfl (fun c120 => ?_) (fun c120 => ?_)
              · have c120n := c120
                rw [inR_nI (by omega), inR_nI (by omega), inR_nI (by omega)] at c120n
                obtain ⟨z1, z2, z3⟩ := c120n
                refine aj.aload_n dX11_doDeed_125 rfl ?_
                refine aj.aload_n dX11_doDeed_126 rfl ?_
                refine aj.iload dX11_doDeed_127 rfl ?_
                refine aj.iload dX11_doDeed_129 rfl ?_
                refine aj.iload dX11_doDeed_131 rfl ?_
                refine aj.callE1 (d' := 5) (As := [.ref (a + o), .int (nI ((n - 10000) / 10000)), .int (nI (((n - 10000) % 10000) / 100)), .int (nI ((n - 10000) % 100))]) (rest := []) dX11_doDeed_133 v_X11_173 li_X11_takeShot ⟨_, hA.ob (i := 0) rfl (by decide)⟩ rfl rfl rfl (Nat.le_of_ble_eq_true rfl) (Nat.le_of_ble_eq_true rfl) (k_takeShot (o := o) hs ho ((n - 10000) / 10000) rfl (((n - 10000) % 10000) / 100) rfl ((n - 10000) % 100) rfl (by omega) (by omega) (by omega) hT hb hS hB hA) (fun M hM => ?_)
                obtain ⟨V9, hA, hS9, hE9⟩ := hM
                refine aj.pop dX11_doDeed_136 rfl ?_
                refine aj.iconst (v := 1) dX11_doDeed_137 rfl ?_
                have hq : dOK (mN (B 6)) v.toInt := by rw [hvn]; rw [inR_nI (by omega), inR_nI (by omega), inR_nI (by omega)] at c120; omega
                exact aj.zret (ty := .boolean) rfl rfl dX11_doDeed_138 ⟨by rw [zb_t hq], _, hA, by rw [if_pos hq, show v.toInt.toNat = n by omega]; exact st_do hn1 hS9, hE9⟩
              · refine aj.iconst (v := 0) dX11_doDeed_123 rfl ?_
                have hq : ¬ dOK (mN (B 6)) v.toInt := by rw [hvn]; rw [inR_nI (by omega), inR_nI (by omega), inR_nI (by omega)] at c120; omega
                exact aj.zret (ty := .boolean) rfl rfl dX11_doDeed_124 ⟨by rw [zb_f hq], V, hA, by rw [if_neg hq]; exact hS, fun _ _ _ _ _ _ => rfl⟩
            · refine aj.iconst (v := 0) dX11_doDeed_74 rfl ?_
              have hq : ¬ dOK (mN (B 6)) v.toInt := by simp only [Int64.lt_iff_toInt_lt, Int64.le_iff_toInt_le, ← Int64.toInt_inj] at *; have k0 : (0 : Int64).toInt = 0 := rfl; have k1 : (1 : Int64).toInt = 1 := rfl; have k2 : (10 : Int64).toInt = 10 := rfl; have k3 : (19 : Int64).toInt = 19 := rfl; have k4 : (10000 : Int64).toInt = 10000 := rfl; have k5 : (49999 : Int64).toInt = 49999 := rfl; omega
              exact aj.zret (ty := .boolean) rfl rfl dX11_doDeed_75 ⟨by rw [zb_f hq], V, hA, by rw [if_neg hq]; exact hS, fun _ _ _ _ _ _ => rfl⟩
        · obtain ⟨n, hn1, hn2, e_n⟩ := z_l64 (v := v) (lo := 10) (hi := 19) (a := 10) (c := 19) rfl rfl ⟨Int64.not_lt.mp c35, Int64.not_lt.mp c43⟩
          have hvn : v.toInt = (n : Int) := by rw [e_n]; exact pk_lT (by omega)
          refine aj.aload_n dX11_doDeed_47 rfl ?_
          refine aj.lload_n dX11_doDeed_48 rfl ?_
          refine aj.l2iN (a := n) dX11_doDeed_49 e_n ?_
          refine aj.bipush (v := 10) dX11_doDeed_50 rfl ?_
          refine aj.isubN (a := n) (b := 10) dX11_doDeed_52 rfl rfl (by omega) ?_
          refine pX7_wind (i := o) hs.1 hA w269 dX11_doDeed_53 (fun M hA => ?_)
          refine aj.iconst (v := 1) dX11_doDeed_56 rfl ?_
          have hq : dOK (mN (B 6)) v.toInt := by omega
          exact aj.zret (ty := .boolean) rfl rfl dX11_doDeed_57 ⟨by rw [zb_t hq], _, hA, by rw [if_pos hq, show v.toInt.toNat = n by omega]; exact st_wd hS (by omega) (by omega), fun q h0 h1 q0 q1 q2 => by rw [va_up_ne _ _ q0]⟩
    · refine aj.aload_n dX11_doDeed_24 rfl ?_
      refine aj.iconst (v := 0) dX11_doDeed_25 rfl ?_
      refine pX7_hurt (i := o) hs.1 hA w267 dX11_doDeed_26 (fun M hA => ?_)
      refine aj.iconst (v := 1) dX11_doDeed_29 rfl ?_
      have hv0 : v.toInt = 1 := by rw [c20]; rfl
      have hq : dOK (mN (B 6)) v.toInt := by omega
      exact aj.zret (ty := .boolean) rfl rfl dX11_doDeed_30 ⟨by rw [zb_t hq], _, hA, by rw [if_pos hq, show v.toInt.toNat = 1 by omega]; exact st_hu hS, fun q h0 h1 q0 q1 q2 => by rw [va_up_ne _ _ q0]⟩
  · refine aj.aload_n dX11_doDeed_6 rfl ?_
    refine aj.dup dX11_doDeed_7 rfl ?_
    refine gX7_minute (i := o) hs.1 hA w271 dX11_doDeed_8 ?_
    refine aj.iconst (v := 1) dX11_doDeed_11 rfl ?_
    refine aj.iaddN (a := mN (B 27)) (b := 1) dX11_doDeed_12 (hS.2.2.2.2.trans h27.1) rfl ?_
    refine pX7_minute (i := o) hs.1 hA w271 dX11_doDeed_13 (fun M hA => ?_)
    refine aj.iconst (v := 1) dX11_doDeed_16 rfl ?_
    have hv0 : v.toInt = 0 := by rw [c2]; rfl
    have hq : dOK (mN (B 6)) v.toInt := by omega
    exact aj.zret (ty := .boolean) rfl rfl dX11_doDeed_17 ⟨by rw [zb_t hq], _, hA, by rw [if_pos hq, show v.toInt.toNat = 0 by omega]; exact st_mi hS, fun q h0 h1 q0 q1 q2 => by rw [va_up_ne _ _ q0]⟩
