section N81
variable {V : Nat → Nat → Int32} {B : Nat → Int32} {o : Nat} {x : Int32}
theorem st_p0 (hS : stR V o B) : stR (va_up V o (upd (V o) 0 x)) o (upd B 25 x) := by
  refine ⟨fun j hj => ?_, fun j hj => ?_, ?_, ?_, ?_⟩
  · rw [va_up_ne _ _ (by omega), pk_un (by omega)]; exact hS.1 j hj
  · rw [va_up_ne _ _ (by omega), pk_un (by omega)]; exact hS.2.1 j hj
  · rw [va_up_self, pk_us, pk_us]
  · rw [va_up_self, pk_un (by decide), pk_un (by decide)]; exact hS.2.2.2.1
  · rw [va_up_self, pk_un (by decide), pk_un (by decide)]; exact hS.2.2.2.2
theorem st_p1 (hS : stR V o B) : stR (va_up V o (upd (V o) 1 x)) o (upd B 26 x) := by
  refine ⟨fun j hj => ?_, fun j hj => ?_, ?_, ?_, ?_⟩
  · rw [va_up_ne _ _ (by omega), pk_un (by omega)]; exact hS.1 j hj
  · rw [va_up_ne _ _ (by omega), pk_un (by omega)]; exact hS.2.1 j hj
  · rw [va_up_self, pk_un (by decide), pk_un (by decide)]; exact hS.2.2.1
  · rw [va_up_self, pk_us, pk_us]
  · rw [va_up_self, pk_un (by decide), pk_un (by decide)]; exact hS.2.2.2.2
theorem st_p2 (hS : stR V o B) : stR (va_up V o (upd (V o) 2 x)) o (upd B 27 x) := by
  refine ⟨fun j hj => ?_, fun j hj => ?_, ?_, ?_, ?_⟩
  · rw [va_up_ne _ _ (by omega), pk_un (by omega)]; exact hS.1 j hj
  · rw [va_up_ne _ _ (by omega), pk_un (by omega)]; exact hS.2.1 j hj
  · rw [va_up_self, pk_un (by decide), pk_un (by decide)]; exact hS.2.2.1
  · rw [va_up_self, pk_un (by decide), pk_un (by decide)]; exact hS.2.2.2.1
  · rw [va_up_self, pk_us, pk_us]
theorem stE_p {f : Nat → Int32} : stE o V (va_up V o f) := fun q _ _ q0 _ _ => va_up_ne _ _ q0
theorem upd_28 {k i : Nat} (h : 28 ≤ k) (hi : i < 28) : upd B i x k = B k := pk_un (by omega)
end N81
theorem p_shoot {G : zG} {l : Launch} {a : Nat} {M0 M : zM} {V0 : Nat → Nat → Int32} {W0 : Nat → Nat → Int64} {R : Nat → Nat → Option Nat} {T : Nat} {B : Nat → Int32} {sl ol : Option (List Nat)} {Tm : Nat} (s : Int32) (aim : Int32) (lot : Int32) (hM : kW a M0 M V0 W0 R) (hH : cH a M0 V0 R T B sl ol Tm) (hI : hisR V0 B)  : am G l kX11_shoot 6 [.ref a, .int s, .int aim, .int lot] M 0 0 (zr (.int (if inR s 0 ((mN (B 6) : Int) - 1) ∧ inR aim 0 20 ∧ inR lot 0 9 then shotS B sl ol (mN s) (mN aim) (mN lot) else -99000011)) (fun M' => kD a M0 M' V0 W0 R (if inR s 0 ((mN (B 6) : Int) - 1) ∧ inR aim 0 20 ∧ inR lot 0 9 then noteF (shotB B sl ol (mN s) (mN aim) (mN lot)) (stF B) (mN (B 28)) else B))) := by
  obtain ⟨V, W, hA, hv, hw⟩ := hM
  obtain ⟨hT, hb, hS, hB⟩ := id hH
  have hd0 := (dLaw_of hB).1
  have hd1 := (dLaw_of hB).2
  have h25 := hB.2.2.2.2.2.1
  have h26 := hB.2.2.2.2.2.2.1
  have h27 := hB.2.2.2.2.2.2.2.1
  have h6 := hB.2.2.1
  have hag := hB.2.2.2.2.1
  have hTm := hB.2.2.2.2.2.2.2.2.1
  have h25b := h25.2
  have h26b := h26.2
  have h27b := h27.2
  have h6b := h6.2
  obtain ⟨nx, hJ⟩ := id hI
  have hnx := hJ.1
  have h28 := hJ.2.1
  have hn : V 14 0 = nI nx := (congrFun (hv 14 (by decide)) 0).trans hJ.2.2.1
  have hz : V 14 1 = nI (mN (B 28)) := ((congrFun (hv 14 (by decide)) 1).trans hJ.2.2.2.1).trans h28.1
  refine am.of (by decide) (Nat.le_of_ble_eq_true rfl) ?_
  refine aj.aload_n dX11_shoot_0 rfl ?_
  refine aj.iload_n dX11_shoot_1 rfl ?_
  refine aj.iload_n dX11_shoot_2 rfl ?_
  refine aj.iload_n dX11_shoot_3 rfl ?_
  refine aj.callE1 (d' := 1) (As := [.int s, .int aim, .int lot]) (rest := []) dX11_shoot_4 v_X11_142 li_X11_isShot ⟨_, hA.ob (i := 0) rfl (by decide)⟩ rfl rfl rfl (Nat.le_of_ble_eq_true rfl) (Nat.le_of_ble_eq_true rfl) (k_isShot s aim lot hH hA) (fun M hM => ?_)
  subst hM
  refine aj.if_neB (tgt := 13) dX11_shoot_7 rfl (fun c7 => ?_) (fun c7 => ?_)
  · obtain ⟨cs1, ca1, cl1⟩ := id c7
    have h_s := inR_bdS cs1 (by omega)
    have h2_s := h_s.2
    have h_aim := inR_bd (n := 20) ca1 (by decide)
    have h2_aim := h_aim.2
    have h_lot := inR_bd (n := 9) cl1 (by decide)
    have h2_lot := h_lot.2
    refine aj.aload_n dX11_shoot_13 rfl ?_
    refine gX11_history (i := 0) rfl hA w381 dX11_shoot_14 ?_
    refine aj.aload_n dX11_shoot_17 rfl ?_
    refine gX11_now (i := 0) rfl hA w379 dX11_shoot_18 ?_
    refine aj.callE0 (d' := 1) (As := [.ref (a + 8)]) (rest := []) dX11_shoot_21 v_X11_169 li_X1_keep ⟨_, hA.ob (i := 14) rfl (by decide)⟩ rfl rfl rfl (Nat.le_of_ble_eq_true rfl) (Nat.le_of_ble_eq_true rfl) (k_keep (o := 8) ⟨rfl, rfl, rfl⟩ (by decide) hn hnx hz h28.2 hA) (fun M hM => ?_)
    obtain ⟨V1, hk, hS1, hE1, hA⟩ := keep_norm hJ hS hv hM
    refine aj.aload_n dX11_shoot_24 rfl ?_
    refine aj.aload_n dX11_shoot_25 rfl ?_
    refine gX11_now (i := 0) rfl hA w379 dX11_shoot_26 ?_
    refine aj.iload_n dX11_shoot_29 rfl ?_
    refine aj.iload_n dX11_shoot_30 rfl ?_
    refine aj.iload_n dX11_shoot_31 rfl ?_
    refine aj.callE1 (d' := 5) (As := [.ref (a + 8), .int s, .int aim, .int lot]) (rest := []) dX11_shoot_32 v_X11_173 li_X11_takeShot ⟨_, hA.ob (i := 0) rfl (by decide)⟩ rfl rfl rfl (Nat.le_of_ble_eq_true rfl) (Nat.le_of_ble_eq_true rfl) (k_takeShot (o := 8) ⟨rfl, rfl, rfl⟩ (Or.inl rfl) (mN s) h_s.1 (mN aim) h_aim.1 (mN lot) h_lot.1 (by omega) (by omega) (by omega) hT hb hS1 hB hA) (fun M hM => ?_)
    obtain ⟨V2, hA, hS2, hE2⟩ := hM
    exact aj.iret rfl dX11_shoot_35 ⟨by rw [if_pos c7], by rw [if_pos c7]; exact kD_end hk hE1 h28 hS2 hE2 (fun k hk => shotB_k (by omega) (by omega)) hw hA⟩
  · refine aj.ldc dX11_shoot_10 w831 ?_
    exact aj.iret rfl dX11_shoot_12 ⟨by rw [if_neg c7], by rw [if_neg c7]; exact kD_same hI hS hv hw hA⟩
theorem p_waits {G : zG} {l : Launch} {a : Nat} {M0 M : zM} {V0 : Nat → Nat → Int32} {W0 : Nat → Nat → Int64} {R : Nat → Nat → Option Nat} {T : Nat} {B : Nat → Int32} {sl ol : Option (List Nat)} {Tm : Nat} (n : Int32) (hM : kW a M0 M V0 W0 R) (hH : cH a M0 V0 R T B sl ol Tm) (hI : hisR V0 B)  : am G l kX11_waits 2 [.ref a, .int n] M 0 0 (zr (.int (if inR n 1 99 then nI (mN (B 27) + mN n) else -3)) (fun M' => kD a M0 M' V0 W0 R (if inR n 1 99 then noteF (upd B 27 (nI (mN (B 27) + mN n))) (stF B) (mN (B 28)) else B))) := by
  obtain ⟨V, W, hA, hv, hw⟩ := hM
  obtain ⟨hT, hb, hS, hB⟩ := id hH
  have hd0 := (dLaw_of hB).1
  have hd1 := (dLaw_of hB).2
  have h25 := hB.2.2.2.2.2.1
  have h26 := hB.2.2.2.2.2.2.1
  have h27 := hB.2.2.2.2.2.2.2.1
  have h6 := hB.2.2.1
  have hag := hB.2.2.2.2.1
  have hTm := hB.2.2.2.2.2.2.2.2.1
  have h25b := h25.2
  have h26b := h26.2
  have h27b := h27.2
  have h6b := h6.2
  obtain ⟨nx, hJ⟩ := id hI
  have hnx := hJ.1
  have h28 := hJ.2.1
  have hn : V 14 0 = nI nx := (congrFun (hv 14 (by decide)) 0).trans hJ.2.2.1
  have hz : V 14 1 = nI (mN (B 28)) := ((congrFun (hv 14 (by decide)) 1).trans hJ.2.2.2.1).trans h28.1
  refine am.of (by decide) (Nat.le_of_ble_eq_true rfl) ?_
  refine aj.iload_n dX11_waits_0 rfl ?_
  refine aj.iconst (v := 1) dX11_waits_1 rfl ?_
  refine aj.icmp_lt (tgt := 11) dX11_waits_2 rfl (fun c2 => ?_) (fun c2 => ?_)
  · refine aj.bipush (v := (-3)) dX11_waits_11 rfl ?_
    exact aj.iret rfl dX11_waits_13 ⟨by rw [if_neg (by unfold inR; simp only [Int32.lt_iff_toInt_lt, Int32.le_iff_toInt_le] at *; have e1 : (1 : Int32).toInt = 1 := rfl; have e40 : (40 : Int32).toInt = 40 := rfl; have e100 : (100 : Int32).toInt = 100 := rfl; omega)], by rw [if_neg (by unfold inR; simp only [Int32.lt_iff_toInt_lt, Int32.le_iff_toInt_le] at *; have e1 : (1 : Int32).toInt = 1 := rfl; have e40 : (40 : Int32).toInt = 40 := rfl; have e100 : (100 : Int32).toInt = 100 := rfl; omega)]; exact kD_same hI hS hv hw hA⟩
  · refine aj.iload_n dX11_waits_5 rfl ?_
    refine aj.bipush (v := 100) dX11_waits_6 rfl ?_
    refine aj.icmp_lt (tgt := 14) dX11_waits_8 rfl (fun c8 => ?_) (fun c8 => ?_)
    · have c_n : inR n 1 99 := by unfold inR; simp only [Int32.lt_iff_toInt_lt, Int32.le_iff_toInt_le] at *; have e1 : (1 : Int32).toInt = 1 := rfl; have e40 : (40 : Int32).toInt = 40 := rfl; have e100 : (100 : Int32).toInt = 100 := rfl; omega
      have h_n := inR_bd1 (n := 99) c_n (by decide)
      have h2_n := h_n.2.1
      have h3_n := h_n.2.2
      refine aj.aload_n dX11_waits_14 rfl ?_
      refine gX11_history (i := 0) rfl hA w381 dX11_waits_15 ?_
      refine aj.aload_n dX11_waits_18 rfl ?_
      refine gX11_now (i := 0) rfl hA w379 dX11_waits_19 ?_
      refine aj.callE0 (d' := 1) (As := [.ref (a + 8)]) (rest := []) dX11_waits_22 v_X11_169 li_X1_keep ⟨_, hA.ob (i := 14) rfl (by decide)⟩ rfl rfl rfl (Nat.le_of_ble_eq_true rfl) (Nat.le_of_ble_eq_true rfl) (k_keep (o := 8) ⟨rfl, rfl, rfl⟩ (by decide) hn hnx hz h28.2 hA) (fun M hM => ?_)
      obtain ⟨V1, hk, hS1, hE1, hA⟩ := keep_norm hJ hS hv hM
      refine aj.aload_n dX11_waits_25 rfl ?_
      refine gX11_now (i := 0) rfl hA w379 dX11_waits_26 ?_
      refine aj.dup dX11_waits_29 rfl ?_
      refine gX7_minute (i := 8) rfl hA w271 dX11_waits_30 ?_
      refine aj.iload_n dX11_waits_33 rfl ?_
      refine aj.iaddN (a := mN (B 27)) (b := mN n) dX11_waits_34 (hS1.2.2.2.2.trans h27.1) h_n.1 ?_
      refine pX7_minute (i := 8) rfl hA w271 dX11_waits_35 (fun M hA => ?_)
      refine aj.aload_n dX11_waits_38 rfl ?_
      refine gX11_now (i := 0) rfl hA w379 dX11_waits_39 ?_
      refine gX7_minute (i := 8) rfl hA w271 dX11_waits_42 ?_
      exact aj.iret rfl dX11_waits_45 ⟨by rw [if_pos c_n]; (try rw [va_up_self, pk_us]), by rw [if_pos c_n]; exact kD_end hk hE1 h28 (st_p2 hS1) stE_p (fun k hk => upd_28 hk (by decide)) hw hA⟩
    · refine aj.bipush (v := (-3)) dX11_waits_11 rfl ?_
      exact aj.iret rfl dX11_waits_13 ⟨by rw [if_neg (by unfold inR; simp only [Int32.lt_iff_toInt_lt, Int32.le_iff_toInt_le] at *; have e1 : (1 : Int32).toInt = 1 := rfl; have e40 : (40 : Int32).toInt = 40 := rfl; have e100 : (100 : Int32).toInt = 100 := rfl; omega)], by rw [if_neg (by unfold inR; simp only [Int32.lt_iff_toInt_lt, Int32.le_iff_toInt_le] at *; have e1 : (1 : Int32).toInt = 1 := rfl; have e40 : (40 : Int32).toInt = 40 := rfl; have e100 : (100 : Int32).toInt = 100 := rfl; omega)]; exact kD_same hI hS hv hw hA⟩
theorem p_heal {G : zG} {l : Launch} {a : Nat} {M0 M : zM} {V0 : Nat → Nat → Int32} {W0 : Nat → Nat → Int64} {R : Nat → Nat → Option Nat} {T : Nat} {B : Nat → Int32} {sl ol : Option (List Nat)} {Tm : Nat}  (hM : kW a M0 M V0 W0 R) (hH : cH a M0 V0 R T B sl ol Tm) (hI : hisR V0 B)  : am G l kX11_heal 2 [.ref a] M 0 0 (zr (.int (B 25)) (fun M' => kD a M0 M' V0 W0 R (noteF (upd B 25 0) (stF B) (mN (B 28))))) := by
  obtain ⟨V, W, hA, hv, hw⟩ := hM
  obtain ⟨hT, hb, hS, hB⟩ := id hH
  have hd0 := (dLaw_of hB).1
  have hd1 := (dLaw_of hB).2
  have h25 := hB.2.2.2.2.2.1
  have h26 := hB.2.2.2.2.2.2.1
  have h27 := hB.2.2.2.2.2.2.2.1
  have h6 := hB.2.2.1
  have hag := hB.2.2.2.2.1
  have hTm := hB.2.2.2.2.2.2.2.2.1
  have h25b := h25.2
  have h26b := h26.2
  have h27b := h27.2
  have h6b := h6.2
  obtain ⟨nx, hJ⟩ := id hI
  have hnx := hJ.1
  have h28 := hJ.2.1
  have hn : V 14 0 = nI nx := (congrFun (hv 14 (by decide)) 0).trans hJ.2.2.1
  have hz : V 14 1 = nI (mN (B 28)) := ((congrFun (hv 14 (by decide)) 1).trans hJ.2.2.2.1).trans h28.1
  refine am.of (by decide) (Nat.le_of_ble_eq_true rfl) ?_
  refine aj.aload_n dX11_heal_0 rfl ?_
  refine gX11_history (i := 0) rfl hA w381 dX11_heal_1 ?_
  refine aj.aload_n dX11_heal_4 rfl ?_
  refine gX11_now (i := 0) rfl hA w379 dX11_heal_5 ?_
  refine aj.callE0 (d' := 1) (As := [.ref (a + 8)]) (rest := []) dX11_heal_8 v_X11_169 li_X1_keep ⟨_, hA.ob (i := 14) rfl (by decide)⟩ rfl rfl rfl (Nat.le_of_ble_eq_true rfl) (Nat.le_of_ble_eq_true rfl) (k_keep (o := 8) ⟨rfl, rfl, rfl⟩ (by decide) hn hnx hz h28.2 hA) (fun M hM => ?_)
  obtain ⟨V1, hk, hS1, hE1, hA⟩ := keep_norm hJ hS hv hM
  refine aj.aload_n dX11_heal_11 rfl ?_
  refine gX11_now (i := 0) rfl hA w379 dX11_heal_12 ?_
  refine gX7_hurt (i := 8) rfl hA w267 dX11_heal_15 ?_
  refine aj.istore_n (lv' := [(1, .int (V1 8 0)), (0, .ref a)]) dX11_heal_18 (Nat.le_of_ble_eq_true rfl) rfl ?_
  refine aj.aload_n dX11_heal_19 rfl ?_
  refine gX11_now (i := 0) rfl hA w379 dX11_heal_20 ?_
  refine aj.iconst (v := 0) dX11_heal_23 rfl ?_
  refine pX7_hurt (i := 8) rfl hA w267 dX11_heal_24 (fun M hA => ?_)
  refine aj.iload_n dX11_heal_27 rfl ?_
  exact aj.iret rfl dX11_heal_28 ⟨by rw [hS1.2.2.1], by exact kD_end hk hE1 h28 (st_p0 hS1) stE_p (fun k hk => upd_28 hk (by decide)) hw hA⟩
theorem p_wind {G : zG} {l : Launch} {a : Nat} {M0 M : zM} {V0 : Nat → Nat → Int32} {W0 : Nat → Nat → Int64} {R : Nat → Nat → Option Nat} {T : Nat} {B : Nat → Int32} {sl ol : Option (List Nat)} {Tm : Nat} (n : Int32) (hM : kW a M0 M V0 W0 R) (hH : cH a M0 V0 R T B sl ol Tm) (hI : hisR V0 B)  : am G l kX11_wind 2 [.ref a, .int n] M 0 0 (zr (.int (if inR n 0 9 then B 26 else -11)) (fun M' => kD a M0 M' V0 W0 R (if inR n 0 9 then noteF (upd B 26 n) (stF B) (mN (B 28)) else B))) := by
  obtain ⟨V, W, hA, hv, hw⟩ := hM
  obtain ⟨hT, hb, hS, hB⟩ := id hH
  have hd0 := (dLaw_of hB).1
  have hd1 := (dLaw_of hB).2
  have h25 := hB.2.2.2.2.2.1
  have h26 := hB.2.2.2.2.2.2.1
  have h27 := hB.2.2.2.2.2.2.2.1
  have h6 := hB.2.2.1
  have hag := hB.2.2.2.2.1
  have hTm := hB.2.2.2.2.2.2.2.2.1
  have h25b := h25.2
  have h26b := h26.2
  have h27b := h27.2
  have h6b := h6.2
  obtain ⟨nx, hJ⟩ := id hI
  have hnx := hJ.1
  have h28 := hJ.2.1
  have hn : V 14 0 = nI nx := (congrFun (hv 14 (by decide)) 0).trans hJ.2.2.1
  have hz : V 14 1 = nI (mN (B 28)) := ((congrFun (hv 14 (by decide)) 1).trans hJ.2.2.2.1).trans h28.1
  refine am.of (by decide) (Nat.le_of_ble_eq_true rfl) ?_
  refine aj.iload_n dX11_wind_0 rfl ?_
  refine aj.callS1 (d' := 0) (As := [.int n]) (rest := []) dX11_wind_1 v_X11_183 w863 rfl rfl (Nat.le_of_ble_eq_true rfl) (Nat.le_of_ble_eq_true rfl) (k_isWind _ n) (fun M hM => ?_)
  subst hM
  refine aj.if_neB (tgt := 10) dX11_wind_4 rfl (fun c4 => ?_) (fun c4 => ?_)
  · have h_n := inR_bd (n := 9) c4 (by decide)
    have h2_n := h_n.2
    refine aj.aload_n dX11_wind_10 rfl ?_
    refine gX11_history (i := 0) rfl hA w381 dX11_wind_11 ?_
    refine aj.aload_n dX11_wind_14 rfl ?_
    refine gX11_now (i := 0) rfl hA w379 dX11_wind_15 ?_
    refine aj.callE0 (d' := 1) (As := [.ref (a + 8)]) (rest := []) dX11_wind_18 v_X11_169 li_X1_keep ⟨_, hA.ob (i := 14) rfl (by decide)⟩ rfl rfl rfl (Nat.le_of_ble_eq_true rfl) (Nat.le_of_ble_eq_true rfl) (k_keep (o := 8) ⟨rfl, rfl, rfl⟩ (by decide) hn hnx hz h28.2 hA) (fun M hM => ?_)
    obtain ⟨V1, hk, hS1, hE1, hA⟩ := keep_norm hJ hS hv hM
    refine aj.aload_n dX11_wind_21 rfl ?_
    refine gX11_now (i := 0) rfl hA w379 dX11_wind_22 ?_
    refine gX7_wind (i := 8) rfl hA w269 dX11_wind_25 ?_
    refine aj.istore_n (lv' := [(2, .int (V1 8 1)), (0, .ref a), (1, .int n)]) dX11_wind_28 (Nat.le_of_ble_eq_true rfl) rfl ?_
    refine aj.aload_n dX11_wind_29 rfl ?_
    refine gX11_now (i := 0) rfl hA w379 dX11_wind_30 ?_
    refine aj.iload_n dX11_wind_33 rfl ?_
    refine pX7_wind (i := 8) rfl hA w269 dX11_wind_34 (fun M hA => ?_)
    refine aj.iload_n dX11_wind_37 rfl ?_
    exact aj.iret rfl dX11_wind_38 ⟨by rw [if_pos c4]; rw [hS1.2.2.2.1], by rw [if_pos c4]; exact kD_end hk hE1 h28 (st_p1 hS1) stE_p (fun k hk => upd_28 hk (by decide)) hw hA⟩
  · refine aj.bipush (v := (-11)) dX11_wind_7 rfl ?_
    exact aj.iret rfl dX11_wind_9 ⟨by rw [if_neg c4], by rw [if_neg c4]; exact kD_same hI hS hv hw hA⟩
theorem p_undo {G : zG} {l : Launch} {a : Nat} {M0 M : zM} {V0 : Nat → Nat → Int32} {W0 : Nat → Nat → Int64} {R : Nat → Nat → Option Nat} {T : Nat} {B : Nat → Int32} {sl ol : Option (List Nat)} {Tm : Nat} (n : Int32) (hM : kW a M0 M V0 W0 R) (hH : cH a M0 V0 R T B sl ol Tm) (hI : hisR V0 B)  : am G l kX11_undo 2 [.ref a, .int n] M 0 0 (zr (.int (if inR n 1 10 ∧ mN n ≤ mN (B 28) then nI (mN (B 28) - mN n) else -3)) (fun M' => kD a M0 M' V0 W0 R (if inR n 1 10 ∧ mN n ≤ mN (B 28) then va_cpy (upd B 28 (nI (mN (B 28) - mN n))) (upd B 28 (nI (mN (B 28) - mN n))) (29 + 11 * (mN (B 28) - mN n)) 17 11 else B))) := by
  obtain ⟨V, W, hA, hv, hw⟩ := hM
  obtain ⟨hT, hb, hS, hB⟩ := id hH
  have hd0 := (dLaw_of hB).1
  have hd1 := (dLaw_of hB).2
  have h25 := hB.2.2.2.2.2.1
  have h26 := hB.2.2.2.2.2.2.1
  have h27 := hB.2.2.2.2.2.2.2.1
  have h6 := hB.2.2.1
  have hag := hB.2.2.2.2.1
  have hTm := hB.2.2.2.2.2.2.2.2.1
  have h25b := h25.2
  have h26b := h26.2
  have h27b := h27.2
  have h6b := h6.2
  obtain ⟨nx, hJ⟩ := id hI
  have hnx := hJ.1
  have h28 := hJ.2.1
  have hn : V 14 0 = nI nx := (congrFun (hv 14 (by decide)) 0).trans hJ.2.2.1
  have hz : V 14 1 = nI (mN (B 28)) := ((congrFun (hv 14 (by decide)) 1).trans hJ.2.2.2.1).trans h28.1
  refine am.of (by decide) (Nat.le_of_ble_eq_true rfl) ?_
  refine aj.iload_n dX11_undo_0 rfl ?_
  refine aj.iconst (v := 1) dX11_undo_1 rfl ?_
  refine aj.icmp_lt (tgt := 16) dX11_undo_2 rfl (fun c2 => ?_) (fun c2 => ?_)
  · refine aj.bipush (v := (-3)) dX11_undo_16 rfl ?_
    exact aj.iret rfl dX11_undo_18 ⟨by rw [if_neg (fun z => by have z1 := z.1.1; have e1 : (1 : Int32).toInt = 1 := rfl; have c2 := Int32.lt_iff_toInt_lt.mp c2; omega)], by rw [if_neg (fun z => by have z1 := z.1.1; have e1 : (1 : Int32).toInt = 1 := rfl; have c2 := Int32.lt_iff_toInt_lt.mp c2; omega)]; exact kD_same hI hS hv hw hA⟩
  · refine aj.iload_n dX11_undo_5 rfl ?_
    refine aj.aload_n dX11_undo_6 rfl ?_
    refine gX11_history (i := 0) rfl hA w381 dX11_undo_7 ?_
    refine gX1_size (i := 14) rfl hA w295 dX11_undo_10 ?_
    refine aj.icmp_le (tgt := 19) dX11_undo_13 rfl (fun c13 => ?_) (fun c13 => ?_)
    · have hzi : (V 14 1).toInt = (mN (B 28) : Int) := by rw [hz]; exact nI_toInt (by have := h28.2; omega)
      have h28b := h28.2
      have c_n1 : inR n 1 10 := by unfold inR; simp only [Int32.lt_iff_toInt_lt, Int32.le_iff_toInt_le] at *; have e1 : (1 : Int32).toInt = 1 := rfl; omega
      have h_n := inR_bd1 (n := 10) c_n1 (by decide)
      have h2_n := h_n.2.1
      have h3_n := h_n.2.2
      have h4_n : mN n ≤ mN (B 28) := by
        have z1 : n.toInt = (mN n : Int) := by rw [h_n.1, mN_nI (by omega)]; exact nI_toInt (by omega)
        simp only [Int32.lt_iff_toInt_lt, Int32.le_iff_toInt_le] at *
        omega
      have c_n : inR n 1 10 ∧ mN n ≤ mN (B 28) := ⟨c_n1, h4_n⟩
      refine aj.aload_n dX11_undo_19 rfl ?_
      refine gX11_history (i := 0) rfl hA w381 dX11_undo_20 ?_
      refine aj.iload_n dX11_undo_23 rfl ?_
      refine aj.aload_n dX11_undo_24 rfl ?_
      refine gX11_now (i := 0) rfl hA w379 dX11_undo_25 ?_
      refine aj.callE0 (d' := 1) (As := [.int n, .ref (a + 8)]) (rest := []) dX11_undo_28 v_X11_190 li_X1_goBack ⟨_, hA.ob (i := 14) rfl (by decide)⟩ rfl rfl rfl (Nat.le_of_ble_eq_true rfl) (Nat.le_of_ble_eq_true rfl) (k_goBack hn hnx hz h28.2 (mN n) h_n.1 h3_n h4_n hA) (fun M hM => ?_)
      obtain ⟨V2, e2, hA⟩ : ∃ z, z = hBack V nx (mN (B 28)) (mN n) ∧ kA a M0 M z W R := ⟨_, rfl, hM⟩
      refine aj.aload_n dX11_undo_31 rfl ?_
      refine gX11_history (i := 0) rfl hA w381 dX11_undo_32 ?_
      refine gX1_size (i := 14) rfl hA w295 dX11_undo_35 ?_
      obtain ⟨k1, k2⟩ := his_back (his_V hJ (fun q h1 h2 => hv q (by unfold sc; omega)) (fun _ _ => rfl)) h3_n h4_n
      exact aj.iret rfl dX11_undo_38 ⟨by rw [if_pos c_n, e2]; unfold hBack; rw [cpS_n (by omega), va_up_self, pk_us], by rw [if_pos c_n]; exact kD_fin (e2 ▸ k1) (e2 ▸ k2) ⟨fun q hq h0 h8 h9 h10 h14 => by rw [e2]; unfold hBack; rw [cpS_n (by omega), va_up_ne _ _ (by omega)]; exact hv q hq, by rw [e2]; unfold hBack; rw [cpS_n (by omega), va_up_ne _ _ (by omega)]; exact congrFun (hv 0 (by decide)) 0⟩ hw hA⟩
    · refine aj.bipush (v := (-3)) dX11_undo_16 rfl ?_
      exact aj.iret rfl dX11_undo_18 ⟨by rw [if_neg (fun z => by have hzi : (V 14 1).toInt = (mN (B 28) : Int) := by { rw [hz]; exact nI_toInt (by have := h28.2; omega) }; have h_n := inR_bd1 (n := 10) z.1 (by decide); have h2_n := h_n.2.1; have z1 : n.toInt = (mN n : Int) := by { rw [h_n.1, mN_nI (by omega)]; exact nI_toInt (by omega) }; have z2 := z.2; simp only [Int32.lt_iff_toInt_lt, Int32.le_iff_toInt_le] at c13; omega)], by rw [if_neg (fun z => by have hzi : (V 14 1).toInt = (mN (B 28) : Int) := by { rw [hz]; exact nI_toInt (by have := h28.2; omega) }; have h_n := inR_bd1 (n := 10) z.1 (by decide); have h2_n := h_n.2.1; have z1 : n.toInt = (mN n : Int) := by { rw [h_n.1, mN_nI (by omega)]; exact nI_toInt (by omega) }; have z2 := z.2; simp only [Int32.lt_iff_toInt_lt, Int32.le_iff_toInt_le] at c13; omega)]; exact kD_same hI hS hv hw hA⟩
