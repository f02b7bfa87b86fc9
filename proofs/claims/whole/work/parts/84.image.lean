theorem cpS_v {V V0 : Nat → Nat → Int32} {p q : Nat} (hv : ∀ i, ¬ sc i → V i = V0 i) (hq : ¬ sc q ∧ ¬ sc (q + 1) ∧ ¬ sc (q + 2)) : ∀ i, ¬ sc i → cpS V p q i = cpS V0 p q i := fun i hi => by
  by_cases e2 : i = p + 2
  · rw [e2, cpS_2, cpS_2]; exact hv _ hq.2.2
  · by_cases e1 : i = p + 1
    · rw [e1, cpS_1, cpS_1]; exact hv _ hq.2.1
    · by_cases e0 : i = p
      · rw [e0, cpS_0, cpS_0]; exact hv _ hq.1
      · rw [cpS_n (by omega), cpS_n (by omega)]; exact hv i hi
theorem up_v {V V0 : Nat → Nat → Int32} {o j : Nat} {x : Int32} (hv : ∀ i, ¬ sc i → V i = V0 i) (ho : ¬ sc o) : ∀ i, ¬ sc i → va_up V o (upd (V o) j x) i = va_up V0 o (upd (V0 o) j x) i := fun i hi => by
  by_cases e : i = o
  · rw [e, va_up_self, va_up_self, hv o ho]
  · rw [va_up_ne _ _ e, va_up_ne _ _ e]; exact hv i hi
theorem p_image {G : zG} {l : Launch} {a : Nat} {M0 M : zM} {V0 : Nat → Nat → Int32} {W0 : Nat → Nat → Int64} {R : Nat → Nat → Option Nat} {T : Nat} {B : Nat → Int32} {sl ol : Option (List Nat)} {Tm : Nat} (q : Int32) (hM : kW a M0 M V0 W0 R) (hH : cH a M0 V0 R T B sl ol Tm)  : am G l kX11_image 1 [.ref a, .int q] M 0 0 (zr (.int (if inR q 0 1 then 0 else -2)) (fun M' => kW a M0 M' (if inR q 0 1 then cpS V0 (65 + 3 * mN q) 8 else V0) W0 (if inR q 0 1 then va_up R 47 (va_up (R 47) (mN q) (some T)) else R))) := by
  obtain ⟨V, W, hA, hv, hw⟩ := hM
  obtain ⟨hT, hb, hS, hB⟩ := id hH
  have hd0 := (dLaw_of hB).1
  have hd1 := (dLaw_of hB).2
  have h25 := hB.2.2.2.2.2.1
  have h26 := hB.2.2.2.2.2.2.1
  have h27 := hB.2.2.2.2.2.2.2.1
  have h6 := hB.2.2.1
  have hag := hB.2.2.2.2.1
  have hTm := hB.2.2.2.2.2.2.2.2.1
  have h25b := h25.2
  have h26b := h26.2
  have h27b := h27.2
  have h6b := h6.2
  refine am.of (by decide) (Nat.le_of_ble_eq_true rfl) ?_
  refine aj.aload_n dX11_image_0 rfl ?_
  refine aj.iload_n dX11_image_1 rfl ?_
  refine aj.callE1 (d' := 0) (As := [.int q]) (rest := []) dX11_image_2 v_X11_357 li_X11_isImage ⟨_, hA.ob (i := 0) rfl (by decide)⟩ rfl rfl rfl (Nat.le_of_ble_eq_true rfl) (Nat.le_of_ble_eq_true rfl) (k_isImage _ q) (fun M hM => ?_)
  subst hM
  refine aj.if_neB (tgt := 11) dX11_image_5 rfl (fun c5 => ?_) (fun c5 => ?_)
  · have h_q := inR_bd (n := 1) c5 (by decide)
    have h2_q := h_q.2
    have hi := kSt_i (mN q) (by omega)
    refine aj.aload_n dX11_image_11 rfl ?_
    refine gX11_imageButts (i := 0) rfl hA w383 dX11_image_12 ?_
    refine aj.iload_n dX11_image_15 rfl ?_
    refine aj.aload_n dX11_image_16 rfl ?_
    refine gT hT hA w378 dX11_image_17 ?_
    obtain ⟨fsT, hfT⟩ := (hA.bw hb).ob
    refine aj.kS60 (i := 47) (j := mN q) rfl dX11_image_20 hA h_q.1 (by omega) (by decide) hfT (fun M hA => ?_)
    refine aj.aload_n dX11_image_21 rfl ?_
    refine gX11_imageStates (i := 0) rfl hA w384 dX11_image_22 ?_
    refine aj.iload_n dX11_image_25 rfl ?_
    refine aj.kR41 (j := mN q) rfl dX11_image_26 hA h_q.1 (by omega) (by decide) ?_
    refine aj.aload_n dX11_image_27 rfl ?_
    refine gX11_now (i := 0) rfl hA w379 dX11_image_28 ?_
    refine aj.callE0 (d' := 0) (As := [.ref (a + 8)]) (rest := []) dX11_image_31 v_X11_201 li_X7_copyFrom ⟨_, hA.ob (i := (65 + 3 * (mN q))) hi.1 (by decide)⟩ rfl rfl rfl (Nat.le_of_ble_eq_true rfl) (Nat.le_of_ble_eq_true rfl) (k_copyFrom (p := (65 + 3 * (mN q))) (q := 8) hi ⟨rfl, rfl, rfl⟩ (by omega) hA) (fun M hM => ?_)
    have hA := hM
    refine aj.iconst (v := 0) dX11_image_34 rfl ?_
    exact aj.iret rfl dX11_image_35 ⟨by rw [if_pos c5], by rw [if_pos c5, if_pos c5]; exact ⟨_, _, hA, cpS_v hv (by decide), hw⟩⟩
  · refine aj.bipush (v := (-2)) dX11_image_8 rfl ?_
    exact aj.iret rfl dX11_image_10 ⟨by rw [if_neg c5], by rw [if_neg c5, if_neg c5]; exact ⟨_, _, hA, hv, hw⟩⟩
theorem p_restore {G : zG} {l : Launch} {a : Nat} {M0 M : zM} {V0 : Nat → Nat → Int32} {W0 : Nat → Nat → Int64} {R : Nat → Nat → Option Nat} {T : Nat} {B : Nat → Int32} {sl ol : Option (List Nat)} {Tm : Nat} (q : Int32) (hM : kW a M0 M V0 W0 R) (hH : cH a M0 V0 R T B sl ol Tm) {G2 : Nat → Int32} (hG : ∀ i, i < 2 → (G2 i = 0 ↔ R 47 i = none)) : am G l kX11_restore 1 [.ref a, .int q] M 0 0 (zr (.int (if inR q 0 1 then (if G2 (mN q) = 0 then -5 else 0) else -2)) (fun M' => kW a M0 M' (if inR q 0 1 ∧ ¬ G2 (mN q) = 0 then va_up (cpS V0 8 (65 + 3 * mN q)) 14 (upd (cpS V0 8 (65 + 3 * mN q) 14) 1 0) else V0) W0 (if inR q 0 1 ∧ ¬ G2 (mN q) = 0 then va_up R 0 (va_up (R 0) 0 (R 47 (mN q))) else R))) := by
  obtain ⟨V, W, hA, hv, hw⟩ := hM
  obtain ⟨hT, hb, hS, hB⟩ := id hH
  have hd0 := (dLaw_of hB).1
  have hd1 := (dLaw_of hB).2
  have h25 := hB.2.2.2.2.2.1
  have h26 := hB.2.2.2.2.2.2.1
  have h27 := hB.2.2.2.2.2.2.2.1
  have h6 := hB.2.2.1
  have hag := hB.2.2.2.2.1
  have hTm := hB.2.2.2.2.2.2.2.2.1
  have h25b := h25.2
  have h26b := h26.2
  have h27b := h27.2
  have h6b := h6.2
  refine am.of (by decide) (Nat.le_of_ble_eq_true rfl) ?_
  refine aj.aload_n dX11_restore_0 rfl ?_
  refine aj.iload_n dX11_restore_1 rfl ?_
  refine aj.callE1 (d' := 0) (As := [.int q]) (rest := []) dX11_restore_2 v_X11_357 li_X11_isImage ⟨_, hA.ob (i := 0) rfl (by decide)⟩ rfl rfl rfl (Nat.le_of_ble_eq_true rfl) (Nat.le_of_ble_eq_true rfl) (k_isImage _ q) (fun M hM => ?_)
  subst hM
  refine aj.if_neB (tgt := 11) dX11_restore_5 rfl (fun c5 => ?_) (fun c5 => ?_)
  · have h_q := inR_bd (n := 1) c5 (by decide)
    have h2_q := h_q.2
    have hi := kSt_i (mN q) (by omega)
    refine aj.aload_n dX11_restore_11 rfl ?_
    refine gX11_imageButts (i := 0) rfl hA w383 dX11_restore_12 ?_
    refine aj.iload_n dX11_restore_15 rfl ?_
    refine aj.kR60 (j := mN q) rfl dX11_restore_16 hA h_q.1 (by omega) (by decide) ?_
    rcases hR : R 47 (mN q) with _ | T2
    · refine aj.astore_nN (lv' := [(2, .null), (0, .ref a), (1, .int q)]) dX11_restore_17 (Nat.le_of_ble_eq_true rfl) rfl ?_
      refine aj.aload_nN dX11_restore_18 rfl ?_
      refine aj.ifnonnullN dX11_restore_19 ?_
      refine aj.bipush (v := (-5)) dX11_restore_22 rfl ?_
      have hz : G2 (mN q) = 0 := (hG _ (by omega)).mpr hR
      exact aj.iret rfl dX11_restore_24 ⟨by rw [if_pos c5, if_pos hz], by rw [if_neg (fun z => z.2 hz), if_neg (fun z => z.2 hz)]; exact ⟨_, _, hA, hv, hw⟩⟩
    · refine aj.astore_n (lv' := [(2, .ref T2), (0, .ref a), (1, .int q)]) dX11_restore_17 (Nat.le_of_ble_eq_true rfl) rfl ?_
      refine aj.aload_n dX11_restore_18 rfl ?_
      refine aj.ifnonnull (tgt := 25) dX11_restore_19 rfl ?_
      refine aj.aload_n dX11_restore_25 rfl ?_
      refine aj.aload_n dX11_restore_26 rfl ?_
      refine pX11_target (i := 0) rfl hA w378 dX11_restore_27 (fun M hA => ?_)
      refine aj.aload_n dX11_restore_30 rfl ?_
      refine gX11_now (i := 0) rfl hA w379 dX11_restore_31 ?_
      refine aj.aload_n dX11_restore_34 rfl ?_
      refine gX11_imageStates (i := 0) rfl hA w384 dX11_restore_35 ?_
      refine aj.iload_n dX11_restore_38 rfl ?_
      refine aj.kR41 (j := mN q) rfl dX11_restore_39 hA h_q.1 (by omega) (by decide) ?_
      refine aj.callE0 (d' := 0) (As := [.ref (a + (65 + 3 * (mN q)))]) (rest := []) dX11_restore_40 v_X11_201 li_X7_copyFrom ⟨_, hA.ob (i := 8) rfl (by decide)⟩ rfl rfl rfl (Nat.le_of_ble_eq_true rfl) (Nat.le_of_ble_eq_true rfl) (k_copyFrom (p := 8) (q := (65 + 3 * (mN q))) ⟨rfl, rfl, rfl⟩ hi (by omega) hA) (fun M hM => ?_)
      have hA := hM
      refine aj.aload_n dX11_restore_43 rfl ?_
      refine gX11_history (i := 0) rfl hA w381 dX11_restore_44 ?_
      refine aj.callE0 (d' := 0) (As := []) (rest := []) dX11_restore_47 v_X11_115 li_X1_forget ⟨_, hA.ob (i := 14) rfl (by decide)⟩ rfl rfl rfl (Nat.le_of_ble_eq_true rfl) (Nat.le_of_ble_eq_true rfl) (k_forget hA) (fun M hM => ?_)
      have hA := hM
      refine aj.iconst (v := 0) dX11_restore_50 rfl ?_
      have hz : ¬ G2 (mN q) = 0 := fun z => Option.some_ne_none T2 (hR.symm.trans ((hG _ (by omega)).mp z))
      exact aj.iret rfl dX11_restore_51 ⟨by rw [if_pos c5, if_neg hz], by rw [if_pos (⟨c5, hz⟩ : _ ∧ _), if_pos (⟨c5, hz⟩ : _ ∧ _)]; exact ⟨_, _, hA, up_v (cpS_v hv (by unfold sc; omega)) (by decide), hw⟩⟩
  · refine aj.bipush (v := (-2)) dX11_restore_8 rfl ?_
    exact aj.iret rfl dX11_restore_10 ⟨by rw [if_neg c5], by rw [if_neg (fun z => c5 z.1), if_neg (fun z => c5 z.1)]; exact ⟨_, _, hA, hv, hw⟩⟩
