theorem told_cg {sl ol : Option (List Nat)} {f g : Nat → Int64} : ∀ (n k : Nat) (B : Nat → Int32), (∀ j, k ≤ j → j < k + n → f j = g j) → toldR sl ol f n k B = toldR sl ol g n k B
  | 0, k, B, _ => rfl
  | n + 1, k, B, h => by
    rw [toldR_s, toldR_s, h k (Nat.le_refl _) (by omega), told_cg n (k + 1) _ (fun j h1 h2 => h j (by omega) (by omega))]
section N82
variable {a : Nat} {M0 M : zM} {V V0 V1 V2 : Nat → Nat → Int32} {W W0 : Nat → Nat → Int64} {R : Nat → Nat → Option Nat} {B B2 : Nat → Int32} {nx : Nat}
theorem cp_norm (hS : stR V0 8 B) (hv : ∀ i, ¬ sc i → V i = V0 i) (hA : kA a M0 M (cpS V 11 8) W R) : ∃ V1, stR V1 8 B ∧ stR V1 11 B ∧ (∀ i, ¬ sc i → V1 i = V0 i) ∧ kA a M0 M V1 W R := by
  have hSV : stR V 8 B := by
    unfold stR
    rw [hv 8 (by decide), hv 9 (by decide), hv 10 (by decide)]
    exact hS
  refine ⟨_, ?_, stR_of (fun j hj => by rw [sX_cp]; exact stR_X hSV hj), fun i hi => ?_, hA⟩
  · unfold stR
    rw [cpS_n (by omega), cpS_n (by omega), cpS_n (by omega)]
    exact hSV
  · rw [cpS_n (by unfold sc at hi; omega)]
    exact hv i hi
theorem kD_none (hJ : his V0 B nx) (hv2 : ∀ q, ¬ sc q → q ≠ 0 → q ≠ 8 → q ≠ 9 → q ≠ 10 → V2 q = V0 q) (h00 : V2 0 0 = V0 0 0) (hS2 : stR V2 8 B) (hw : ∀ i, ¬ sc i → W i = W0 i) (hA : kA a M0 M V2 W R) : kD a M0 M V0 W0 R B :=
  kD_fin (his_V hJ (fun q h1 h2 => hv2 q (by unfold sc; omega) (by omega) (by omega) (by omega) (by omega)) (fun _ _ => rfl)) hS2 ⟨fun q h h0 h8 h9 h10 _ => hv2 q h h0 h8 h9 h10, h00⟩ hw hA
theorem kD_late (hJ : his V0 B nx) (hv2 : ∀ q, ¬ sc q → q ≠ 0 → q ≠ 8 → q ≠ 9 → q ≠ 10 → V2 q = V0 q) (h00 : V2 0 0 = V0 0 0) (hS2 : stR V2 8 B2) (hS11 : stR V2 11 B) (h2 : ∀ k, 28 ≤ k → B2 k = B k) (hw : ∀ i, ¬ sc i → W i = W0 i) (hA : kA a M0 M (hKeep V2 11 nx (mN (B 28))) W R) : kD a M0 M V0 W0 R (noteF B2 (stF B) (mN (B 28))) := by
  have hn := hJ.1
  have hV : his V2 B nx := his_V hJ (fun q h1 h2 => hv2 q (by unfold sc; omega) (by omega) (by omega) (by omega) (by omega)) (fun _ _ => rfl)
  refine kD_fin (his_keep hV (Or.inr rfl) (fun j hj => stR_X hS11 hj) h2) (stR_note ?_ hJ.2.1.2) ⟨fun q h h0 h8 h9 h10 h14 => ?_, ?_⟩ hw hA
  · unfold stR hKeep
    rw [va_up_ne _ _ (by decide), va_up_ne _ _ (by decide), va_up_ne _ _ (by decide), cpS_n (by omega), cpS_n (by omega), cpS_n (by omega)]
    exact hS2
  · unfold hKeep
    rw [va_up_ne _ _ (by omega), cpS_n (by omega)]
    exact hv2 q h h0 h8 h9 h10
  · unfold hKeep
    rw [va_up_ne _ _ (by omega), cpS_n (by omega)]
    exact h00
theorem stR_E {o p : Nat} (h : stR V p B) (hE : stE o V V1) (h1 : p ≠ 50 ∧ p ≠ 51 ∧ p + 1 ≠ 50 ∧ p + 1 ≠ 51 ∧ p + 2 ≠ 50 ∧ p + 2 ≠ 51) (h2 : p + 3 ≤ o ∨ o + 3 ≤ p) : stR V1 p B := by
  unfold stR
  rw [hE p (by omega) (by omega) (by omega) (by omega) (by omega), hE (p + 1) (by omega) (by omega) (by omega) (by omega) (by omega), hE (p + 2) (by omega) (by omega) (by omega) (by omega) (by omega)]
  exact h
end N82
theorem k_doAllT {G : zG} {l : Launch} {a : Nat} {M0 M : zM} {V : Nat → Nat → Int32} {W : Nat → Nat → Int64} {R : Nat → Nat → Option Nat} {T : Nat} {sl ol : Option (List Nat)} {o p many : Nat} (hs : kSt o) (ho : o = 8 ∨ o = 11) (ht : kTr p) (hp : 57 ≤ p) (hmany : V p 1 = nI many) (hm40 : many ≤ 40) (hT : R 0 0 = some T) {B : Nat → Int32} {Tm : Nat} {RR : Nat × (Nat → Int32)} (hRR : toldR sl ol (W (p + 1)) many 0 B = RR) (hTn : Tm + 40 < 2 ^ 24) (hb : bW a M0 T B sl ol) (hS : stR V o B) (hB : mOK B sl ol Tm) (hA : kA a M0 M V W R) : am G l kX11_doAll 7 [.ref a, .ref (a + o), .ref (a + p)] M 0 0 (zr (.int (nI RR.1)) (fun M' => ∃ V1, kA a M0 M' V1 W R ∧ stR V1 o RR.2 ∧ stE o V V1)) := by
  subst hRR
  exact k_doAll hs ho ht hp hmany hm40 hT hTn hb hS hB hA
theorem p_perform {G : zG} {l : Launch} {a : Nat} {M0 M : zM} {V0 : Nat → Nat → Int32} {W0 : Nat → Nat → Int64} {R : Nat → Nat → Option Nat} {T : Nat} {B : Nat → Int32} {sl ol : Option (List Nat)} {Tm : Nat} (t : Int32) (hM : kW a M0 M V0 W0 R) (hH : cH a M0 V0 R T B sl ol Tm) (hI : hisR V0 B) {A : Nat → Nat → Int32} {L : Nat → Nat → Int64} (hTr : trR V0 W0 A L) (hT40 : Tm + 40 < 2 ^ 24) : am G l kX11_perform 8 [.ref a, .int t] M 0 0 (zr (.int (if inR t 0 3 then (if A 32 (mN t) = -1 then -6 else nI (toldR sl ol (fun k => L 34 (40 * mN t + k)) (mN (A 33 (mN t))) 0 B).1) else -2)) (fun M' => kD a M0 M' V0 W0 R (if inR t 0 3 ∧ ¬ A 32 (mN t) = -1 ∧ 0 < (toldR sl ol (fun k => L 34 (40 * mN t + k)) (mN (A 33 (mN t))) 0 B).1 then noteF (toldR sl ol (fun k => L 34 (40 * mN t + k)) (mN (A 33 (mN t))) 0 B).2 (stF B) (mN (B 28)) else B))) := by
  obtain ⟨V, W, hA, hv, hw⟩ := hM
  obtain ⟨hT, hb, hS, hB⟩ := id hH
  have hd0 := (dLaw_of hB).1
  have hd1 := (dLaw_of hB).2
  have h25 := hB.2.2.2.2.2.1
  have h26 := hB.2.2.2.2.2.2.1
  have h27 := hB.2.2.2.2.2.2.2.1
  have h6 := hB.2.2.1
  have hag := hB.2.2.2.2.1
  have hTm := hB.2.2.2.2.2.2.2.2.1
  have h25b := h25.2
  have h26b := h26.2
  have h27b := h27.2
  have h6b := h6.2
  obtain ⟨nx, hJ⟩ := id hI
  have hnx := hJ.1
  have h28 := hJ.2.1
  have hn : V 14 0 = nI nx := (congrFun (hv 14 (by decide)) 0).trans hJ.2.2.1
  have hz : V 14 1 = nI (mN (B 28)) := ((congrFun (hv 14 (by decide)) 1).trans hJ.2.2.2.1).trans h28.1
  refine am.of (by decide) (Nat.le_of_ble_eq_true rfl) ?_
  refine aj.aload_n dX11_perform_0 rfl ?_
  refine aj.iload_n dX11_perform_1 rfl ?_
  refine aj.callE1 (d' := 0) (As := [.int t]) (rest := []) dX11_perform_2 v_X11_194 li_X11_isTray ⟨_, hA.ob (i := 0) rfl (by decide)⟩ rfl rfl rfl (Nat.le_of_ble_eq_true rfl) (Nat.le_of_ble_eq_true rfl) (k_isTray t hA) (fun M hM => ?_)
  subst hM
  refine aj.if_neB (tgt := 11) dX11_perform_5 rfl (fun c5 => ?_) (fun c5 => ?_)
  · have h_t := inR_bd (n := 3) c5 (by decide)
    have h2_t := h_t.2
    obtain ⟨h33, h0, h1⟩ := hTr (mN t) (by omega)
    have ht := kTr_j (mN t) (by omega)
    have hnt := nsc_t (k := mN t) (by omega)
    have h0' : V (57 + 2 * (mN t)) 0 = zb (¬ A 32 (mN t) = -1) := (congrFun (hv _ hnt.1) 0).trans h0
    refine aj.aload_n dX11_perform_11 rfl ?_
    refine gX11_trays (i := 0) rfl hA w382 dX11_perform_12 ?_
    refine aj.iload_n dX11_perform_15 rfl ?_
    refine aj.kR50 (j := mN t) rfl dX11_perform_16 hA h_t.1 (by omega) (by decide) ?_
    refine gX10_there (i := (57 + 2 * (mN t))) ht.1 hA w346 dX11_perform_17 ?_
    refine aj.if_ne (tgt := 26) dX11_perform_20 rfl (fun c20 => ?_) (fun c20 => ?_)
    · have hA32 : ¬ A 32 (mN t) = -1 := fun z => c20 (h0'.trans (zb_f (fun q => q z)))
      obtain ⟨RR, hRR⟩ : ∃ z, toldR sl ol (fun k => L 34 (40 * mN t + k)) (mN (A 33 (mN t))) 0 B = z := ⟨_, rfl⟩
      have hRW : toldR sl ol (W (57 + 2 * (mN t) + 1)) (mN (A 33 (mN t))) 0 B = RR := (told_cg _ _ _ (fun j _ hj => (congrFun (hw _ hnt.2) j).trans ((h1 hA32).2.2 j (by omega)))).trans hRR
      rw [hRR]
      refine aj.aload_n dX11_perform_26 rfl ?_
      refine gX11_trial (i := 0) rfl hA w380 dX11_perform_27 ?_
      refine aj.aload_n dX11_perform_30 rfl ?_
      refine gX11_now (i := 0) rfl hA w379 dX11_perform_31 ?_
      refine aj.callE0 (d' := 0) (As := [.ref (a + 8)]) (rest := []) dX11_perform_34 v_X11_201 li_X7_copyFrom ⟨_, hA.ob (i := 11) rfl (by decide)⟩ rfl rfl rfl (Nat.le_of_ble_eq_true rfl) (Nat.le_of_ble_eq_true rfl) (k_copyFrom (p := 11) (q := 8) ⟨rfl, rfl, rfl⟩ ⟨rfl, rfl, rfl⟩ (by omega) hA) (fun M hM => ?_)
      obtain ⟨V1, hS8, hS11, hv1, hA⟩ := cp_norm hS hv hM
      refine aj.aload_n dX11_perform_37 rfl ?_
      refine aj.aload_n dX11_perform_38 rfl ?_
      refine gX11_now (i := 0) rfl hA w379 dX11_perform_39 ?_
      refine aj.aload_n dX11_perform_42 rfl ?_
      refine gX11_trays (i := 0) rfl hA w382 dX11_perform_43 ?_
      refine aj.iload_n dX11_perform_46 rfl ?_
      refine aj.kR50 (j := mN t) rfl dX11_perform_47 hA h_t.1 (by omega) (by decide) ?_
      refine aj.callE1 (d' := 7) (As := [.ref (a + 8), .ref (a + (57 + 2 * (mN t)))]) (rest := []) dX11_perform_48 v_X11_204 li_X11_doAll ⟨_, hA.ob (i := 0) rfl (by decide)⟩ rfl rfl rfl (Nat.le_of_ble_eq_true rfl) (Nat.le_of_ble_eq_true rfl) (k_doAllT (o := 8) (p := 57 + 2 * (mN t)) (many := mN (A 33 (mN t))) ⟨rfl, rfl, rfl⟩ (Or.inl rfl) ht (by omega) ((congrFun (hv1 _ hnt.1) 1).trans ((h1 hA32).1.trans h33.1)) h33.2 hT hRW hT40 hb hS8 hB hA) (fun M hM => ?_)
      obtain ⟨V2, hA, hS2, hE2⟩ := hM
      have hv2 : ∀ q, ¬ sc q → q ≠ 0 → q ≠ 8 → q ≠ 9 → q ≠ 10 → V2 q = V0 q := fun q h _ h8 h9 h10 => (hE2 q (fun e => h (by subst e; decide)) (fun e => h (by subst e; decide)) h8 h9 h10).trans (hv1 q h)
      have h00 : V2 0 0 = V0 0 0 := (congrFun (hE2 0 (by decide) (by decide) (by decide) (by decide) (by decide)) 0).trans (congrFun (hv1 0 (by decide)) 0)
      have hn2 : V2 14 0 = nI nx := (congrFun (hv2 14 (by decide) (by decide) (by decide) (by decide) (by decide)) 0).trans hJ.2.2.1
      have hz2 : V2 14 1 = nI (mN (B 28)) := ((congrFun (hv2 14 (by decide) (by decide) (by decide) (by decide) (by decide)) 1).trans hJ.2.2.2.1).trans h28.1
      have hRl : RR.1 ≤ 40 := by rw [← hRR]; have := (toldR_le (sl := sl) (ol := ol) (f := fun k => L 34 (40 * mN t + k)) (n := mN (A 33 (mN t))) (k := 0) (B := B)).2; have := h33.2; omega
      refine aj.istore_n (lv' := [(2, .int (nI RR.1)), (0, .ref a), (1, .int t)]) dX11_perform_51 (Nat.le_of_ble_eq_true rfl) rfl ?_
      refine aj.iload_n dX11_perform_52 rfl ?_
      refine aj.if_leN (a := RR.1) (tgt := 67) dX11_perform_53 rfl (by omega) rfl (fun c53 => ?_) (fun c53 => ?_)
      · refine aj.iload_n dX11_perform_67 rfl ?_
        have hR0 : RR.1 = 0 := by omega
        have hRB : RR.2 = B := by rw [← hRR]; exact toldR_0 (by rw [hRR]; exact hR0)
        rw [hRB] at hS2
        exact aj.iret rfl dX11_perform_68 ⟨by rw [if_pos c5, if_neg hA32], by rw [if_neg (fun z => by have := z.2.2; omega)]; exact kD_none hJ hv2 h00 hS2 hw hA⟩
      · refine aj.aload_n dX11_perform_56 rfl ?_
        refine gX11_history (i := 0) rfl hA w381 dX11_perform_57 ?_
        refine aj.aload_n dX11_perform_60 rfl ?_
        refine gX11_trial (i := 0) rfl hA w380 dX11_perform_61 ?_
        refine aj.callE0 (d' := 1) (As := [.ref (a + 11)]) (rest := []) dX11_perform_64 v_X11_169 li_X1_keep ⟨_, hA.ob (i := 14) rfl (by decide)⟩ rfl rfl rfl (Nat.le_of_ble_eq_true rfl) (Nat.le_of_ble_eq_true rfl) (k_keep (o := 11) ⟨rfl, rfl, rfl⟩ (by decide) (nx := nx) (sz := mN (B 28)) hn2 hnx hz2 h28.2 hA) (fun M hM => ?_)
        have hK := hM
        refine aj.iload_n dX11_perform_67 rfl ?_
        exact aj.iret rfl dX11_perform_68 ⟨by rw [if_pos c5, if_neg hA32], by rw [if_pos (⟨c5, hA32, by omega⟩ : _ ∧ _ ∧ _)]; exact kD_late hJ hv2 h00 hS2 (stR_E hS11 hE2 (by decide) (by decide)) (fun k hk => by rw [← hRR]; exact toldR_k (by omega) (by omega)) hw hK⟩
    · have hA32 : A 32 (mN t) = -1 := Classical.not_not.mp (zb_0.mp (h0'.symm.trans c20))
      refine aj.bipush (v := (-6)) dX11_perform_23 rfl ?_
      exact aj.iret rfl dX11_perform_25 ⟨by rw [if_pos c5, if_pos hA32], by rw [if_neg (fun z => z.2.1 hA32)]; exact kD_same hI hS hv hw hA⟩
  · refine aj.bipush (v := (-2)) dX11_perform_8 rfl ?_
    exact aj.iret rfl dX11_perform_10 ⟨by rw [if_neg c5], by rw [if_neg (fun z => c5 z.1)]; exact kD_same hI hS hv hw hA⟩
theorem p_judge {G : zG} {l : Launch} {a : Nat} {M0 M : zM} {V0 : Nat → Nat → Int32} {W0 : Nat → Nat → Int64} {R : Nat → Nat → Option Nat} {T : Nat} {B : Nat → Int32} {sl ol : Option (List Nat)} {Tm : Nat} (t : Int32) (q : Int32) (hM : kW a M0 M V0 W0 R) (hH : cH a M0 V0 R T B sl ol Tm) {A : Nat → Nat → Int32} {L : Nat → Nat → Int64} (hTr : trR V0 W0 A L) (hT40 : Tm + 40 < 2 ^ 24) : am G l kX11_judge 8 [.ref a, .int t, .int q] M 0 0 (zr (.int (if inR q 0 3 ∧ inR t 0 3 then (if A 32 (mN t) = -1 then -6 else (if q = 0 then (if (toldR sl ol (fun k => L 34 (40 * mN t + k)) (mN (A 33 (mN t))) 0 B).1 ≠ mN (A 33 (mN t)) then nI (toldR sl ol (fun k => L 34 (40 * mN t + k)) (mN (A 33 (mN t))) 0 B).1 else -1) else if q = 1 then zb ((toldR sl ol (fun k => L 34 (40 * mN t + k)) (mN (A 33 (mN t))) 0 B).1 ≠ mN (A 33 (mN t))) else if q = 2 then (toldR sl ol (fun k => L 34 (40 * mN t + k)) (mN (A 33 (mN t))) 0 B).2 27 else (toldR sl ol (fun k => L 34 (40 * mN t + k)) (mN (A 33 (mN t))) 0 B).2 25)) else -2)) (fun M' => kW a M0 M' V0 W0 R)) := by
  obtain ⟨V, W, hA, hv, hw⟩ := hM
  obtain ⟨hT, hb, hS, hB⟩ := id hH
  have hd0 := (dLaw_of hB).1
  have hd1 := (dLaw_of hB).2
  have h25 := hB.2.2.2.2.2.1
  have h26 := hB.2.2.2.2.2.2.1
  have h27 := hB.2.2.2.2.2.2.2.1
  have h6 := hB.2.2.1
  have hag := hB.2.2.2.2.1
  have hTm := hB.2.2.2.2.2.2.2.2.1
  have h25b := h25.2
  have h26b := h26.2
  have h27b := h27.2
  have h6b := h6.2
  refine am.of (by decide) (Nat.le_of_ble_eq_true rfl) ?_
  refine aj.aload_n dX11_judge_0 rfl ?_
  refine aj.iload_n dX11_judge_1 rfl ?_
  refine aj.callE1 (d' := 0) (As := [.int t]) (rest := []) dX11_judge_2 v_X11_194 li_X11_isTray ⟨_, hA.ob (i := 0) rfl (by decide)⟩ rfl rfl rfl (Nat.le_of_ble_eq_true rfl) (Nat.le_of_ble_eq_true rfl) (k_isTray t hA) (fun M hM => ?_)
  subst hM
  refine aj.if_eqB (tgt := 17) dX11_judge_5 rfl (fun c5 => ?_) (fun c5 => ?_)
  · refine aj.bipush (v := (-2)) dX11_judge_17 rfl ?_
    exact aj.iret rfl dX11_judge_19 ⟨by rw [if_neg (fun z => c5 z.2)], ⟨_, _, hA, hv, hw⟩⟩
  · have h_t := inR_bd (n := 3) c5 (by decide)
    have h2_t := h_t.2
    obtain ⟨h33, h0, h1⟩ := hTr (mN t) (by omega)
    have ht := kTr_j (mN t) (by omega)
    have hnt := nsc_t (k := mN t) (by omega)
    have h0' : V (57 + 2 * (mN t)) 0 = zb (¬ A 32 (mN t) = -1) := (congrFun (hv _ hnt.1) 0).trans h0
    refine aj.iload_n dX11_judge_8 rfl ?_
    refine aj.if_lt (tgt := 17) dX11_judge_9 rfl (fun c9 => ?_) (fun c9 => ?_)
    · refine aj.bipush (v := (-2)) dX11_judge_17 rfl ?_
      exact aj.iret rfl dX11_judge_19 ⟨by rw [if_neg (fun z => by have z1 := z.1.1; have z2 := z.1.2; simp only [Int32.lt_iff_toInt_lt, Int32.le_iff_toInt_le] at *; have e0 : (0 : Int32).toInt = 0 := rfl; have e3 : (3 : Int32).toInt = 3 := rfl; omega)], ⟨_, _, hA, hv, hw⟩⟩
    · refine aj.iload_n dX11_judge_12 rfl ?_
      refine aj.iconst (v := 3) dX11_judge_13 rfl ?_
      refine aj.icmp_le (tgt := 20) dX11_judge_14 rfl (fun c14 => ?_) (fun c14 => ?_)
      · have c_q : inR q 0 3 := by unfold inR; simp only [Int32.lt_iff_toInt_lt, Int32.le_iff_toInt_le] at *; have e0 : (0 : Int32).toInt = 0 := rfl; have e3 : (3 : Int32).toInt = 3 := rfl; omega
        refine aj.aload_n dX11_judge_20 rfl ?_
        refine gX11_trays (i := 0) rfl hA w382 dX11_judge_21 ?_
        refine aj.iload_n dX11_judge_24 rfl ?_
        refine aj.kR50 (j := mN t) rfl dX11_judge_25 hA h_t.1 (by omega) (by decide) ?_
        refine aj.astore_n (lv' := [(3, .ref (a + (57 + 2 * (mN t)))), (0, .ref a), (1, .int t), (2, .int q)]) dX11_judge_26 (Nat.le_of_ble_eq_true rfl) rfl ?_
        refine aj.aload_n dX11_judge_27 rfl ?_
        refine gX10_there (i := (57 + 2 * (mN t))) ht.1 hA w346 dX11_judge_28 ?_
        refine aj.if_ne (tgt := 37) dX11_judge_31 rfl (fun c31 => ?_) (fun c31 => ?_)
        · have hA32 : ¬ A 32 (mN t) = -1 := fun z => c31 (h0'.trans (zb_f (fun q => q z)))
          obtain ⟨RR, hRR⟩ : ∃ z, toldR sl ol (fun k => L 34 (40 * mN t + k)) (mN (A 33 (mN t))) 0 B = z := ⟨_, rfl⟩
          have hRW : toldR sl ol (W (57 + 2 * (mN t) + 1)) (mN (A 33 (mN t))) 0 B = RR := (told_cg _ _ _ (fun j _ hj => (congrFun (hw _ hnt.2) j).trans ((h1 hA32).2.2 j (by omega)))).trans hRR
          rw [hRR]
          refine aj.aload_n dX11_judge_37 rfl ?_
          refine gX11_trial (i := 0) rfl hA w380 dX11_judge_38 ?_
          refine aj.aload_n dX11_judge_41 rfl ?_
          refine gX11_now (i := 0) rfl hA w379 dX11_judge_42 ?_
          refine aj.callE0 (d' := 0) (As := [.ref (a + 8)]) (rest := []) dX11_judge_45 v_X11_201 li_X7_copyFrom ⟨_, hA.ob (i := 11) rfl (by decide)⟩ rfl rfl rfl (Nat.le_of_ble_eq_true rfl) (Nat.le_of_ble_eq_true rfl) (k_copyFrom (p := 11) (q := 8) ⟨rfl, rfl, rfl⟩ ⟨rfl, rfl, rfl⟩ (by omega) hA) (fun M hM => ?_)
          obtain ⟨V1, hS8, hS11, hv1, hA⟩ := cp_norm hS hv hM
          refine aj.aload_n dX11_judge_48 rfl ?_
          refine aj.aload_n dX11_judge_49 rfl ?_
          refine gX11_trial (i := 0) rfl hA w380 dX11_judge_50 ?_
          refine aj.aload_n dX11_judge_53 rfl ?_
          refine aj.callE1 (d' := 7) (As := [.ref (a + 11), .ref (a + (57 + 2 * (mN t)))]) (rest := []) dX11_judge_54 v_X11_204 li_X11_doAll ⟨_, hA.ob (i := 0) rfl (by decide)⟩ rfl rfl rfl (Nat.le_of_ble_eq_true rfl) (Nat.le_of_ble_eq_true rfl) (k_doAllT (o := 11) (p := 57 + 2 * (mN t)) (many := mN (A 33 (mN t))) ⟨rfl, rfl, rfl⟩ (Or.inr rfl) ht (by omega) ((congrFun (hv1 _ hnt.1) 1).trans ((h1 hA32).1.trans h33.1)) h33.2 hT hRW hT40 hb hS11 hB hA) (fun M hM => ?_)
          obtain ⟨V2, hA, hS2, hE2⟩ := hM
          have hv2 : ∀ q, ¬ sc q → V2 q = V0 q := fun q h => (hE2 q (fun e => h (by subst e; decide)) (fun e => h (by subst e; decide)) (fun e => h (by subst e; decide)) (fun e => h (by subst e; decide)) (fun e => h (by subst e; decide))).trans (hv1 q h)
          have hsz2 : V2 (57 + 2 * (mN t)) 1 = nI (mN (A 33 (mN t))) := (congrFun (hv2 _ hnt.1) 1).trans ((h1 hA32).1.trans h33.1)
          have h33b := h33.2
          have hRl : RR.1 ≤ 40 := by rw [← hRR]; have := (toldR_le (sl := sl) (ol := ol) (f := fun k => L 34 (40 * mN t + k)) (n := mN (A 33 (mN t))) (k := 0) (B := B)).2; have := h33.2; omega
          refine aj.istore (lv' := [(4, .int (nI RR.1)), (3, .ref (a + (57 + 2 * (mN t)))), (0, .ref a), (1, .int t), (2, .int q)]) dX11_judge_57 (Nat.le_of_ble_eq_true rfl) rfl ?_
          refine aj.iload dX11_judge_59 rfl ?_
          refine aj.aload_n dX11_judge_61 rfl ?_
          refine gX10_size (i := (57 + 2 * (mN t))) ht.1 hA w348 dX11_judge_62 ?_
          refine aj.icmp_neN (a := RR.1) (b := mN (A 33 (mN t))) (tgt := 72) dX11_judge_65 rfl hsz2 (by omega) (by omega) rfl (fun c65 => ?_) (fun c65 => ?_)
          · refine aj.iconst (v := 0) dX11_judge_72 rfl ?_
            refine aj.istore (lv' := [(5, .int 0), (4, .int (nI RR.1)), (3, .ref (a + (57 + 2 * (mN t)))), (0, .ref a), (1, .int t), (2, .int q)]) dX11_judge_73 (Nat.le_of_ble_eq_true rfl) rfl ?_
            refine aj.iload_n dX11_judge_75 rfl ?_
            by_cases s0 : q = 0
            · rw [s0] at c_q ⊢
              refine aj.swIn (tgt := 104) (off := 28) dX11_judge_76 (by decide) (by decide) (by decide) rfl ?_
              refine aj.iload dX11_judge_104 rfl ?_
              refine aj.if_eqN (a := 0) (tgt := 113) dX11_judge_106 rfl (by omega) rfl (fun c106 => ?_) (fun c106 => ?_)
              · refine aj.iload dX11_judge_113 rfl ?_
                exact aj.iret rfl dX11_judge_115 ⟨by rw [if_pos (⟨c_q, c5⟩ : _ ∧ _), if_neg hA32, if_pos rfl, if_pos (by omega)], ⟨_, _, hA, hv2, hw⟩⟩
              · exact absurd c106 (by decide)
            by_cases s1 : q = 1
            · rw [s1] at c_q ⊢
              refine aj.swIn (tgt := 116) (off := 40) dX11_judge_76 (by decide) (by decide) (by decide) rfl ?_
              refine aj.iload dX11_judge_116 rfl ?_
              refine aj.if_eqN (a := 0) (tgt := 125) dX11_judge_118 rfl (by omega) rfl (fun c118 => ?_) (fun c118 => ?_)
              · refine aj.iconst (v := 1) dX11_judge_125 rfl ?_
                exact aj.iret rfl dX11_judge_126 ⟨by rw [if_pos (⟨c_q, c5⟩ : _ ∧ _), if_neg hA32, if_neg (by decide), if_pos rfl, zb_t (by omega)], ⟨_, _, hA, hv2, hw⟩⟩
              · exact absurd c118 (by decide)
            by_cases s2 : q = 2
            · rw [s2] at c_q ⊢
              refine aj.swIn (tgt := 127) (off := 51) dX11_judge_76 (by decide) (by decide) (by decide) rfl ?_
              refine aj.aload_n dX11_judge_127 rfl ?_
              refine gX11_trial (i := 0) rfl hA w380 dX11_judge_128 ?_
              refine gX7_minute (i := 11) rfl hA w271 dX11_judge_131 ?_
              exact aj.iret rfl dX11_judge_134 ⟨by rw [if_pos (⟨c_q, c5⟩ : _ ∧ _), if_neg hA32, if_neg (by decide), if_neg (by decide), if_pos rfl, hS2.2.2.2.2], ⟨_, _, hA, hv2, hw⟩⟩
            refine aj.swOut (tgt := 135) dX11_judge_76 (by simp only [← Int32.toInt_inj, Int32.lt_iff_toInt_lt, Int32.le_iff_toInt_le] at *; have e0 : (0 : Int32).toInt = 0 := rfl; have e1 : (1 : Int32).toInt = 1 := rfl; have e2 : (2 : Int32).toInt = 2 := rfl; omega) rfl ?_
            refine aj.aload_n dX11_judge_135 rfl ?_
            refine gX11_trial (i := 0) rfl hA w380 dX11_judge_136 ?_
            refine gX7_hurt (i := 11) rfl hA w267 dX11_judge_139 ?_
            exact aj.iret rfl dX11_judge_142 ⟨by rw [if_pos (⟨c_q, c5⟩ : _ ∧ _), if_neg hA32, if_neg s0, if_neg s1, if_neg s2, hS2.2.2.1], ⟨_, _, hA, hv2, hw⟩⟩
          · refine aj.iconst (v := 1) dX11_judge_68 rfl ?_
            refine aj.goto (tgt := 73) dX11_judge_69 rfl ?_
            refine aj.istore (lv' := [(5, .int 1), (4, .int (nI RR.1)), (3, .ref (a + (57 + 2 * (mN t)))), (0, .ref a), (1, .int t), (2, .int q)]) dX11_judge_73 (Nat.le_of_ble_eq_true rfl) rfl ?_
            refine aj.iload_n dX11_judge_75 rfl ?_
            by_cases s0 : q = 0
            · rw [s0] at c_q ⊢
              refine aj.swIn (tgt := 104) (off := 28) dX11_judge_76 (by decide) (by decide) (by decide) rfl ?_
              refine aj.iload dX11_judge_104 rfl ?_
              refine aj.if_eqN (a := 1) (tgt := 113) dX11_judge_106 rfl (by omega) rfl (fun c106 => ?_) (fun c106 => ?_)
              · exact absurd c106 (by decide)
              · refine aj.iconst (v := (-1)) dX11_judge_109 rfl ?_
                refine aj.goto (tgt := 115) dX11_judge_110 rfl ?_
                exact aj.iret rfl dX11_judge_115 ⟨by rw [if_pos (⟨c_q, c5⟩ : _ ∧ _), if_neg hA32, if_pos rfl, if_neg (by omega)], ⟨_, _, hA, hv2, hw⟩⟩
            by_cases s1 : q = 1
            · rw [s1] at c_q ⊢
              refine aj.swIn (tgt := 116) (off := 40) dX11_judge_76 (by decide) (by decide) (by decide) rfl ?_
              refine aj.iload dX11_judge_116 rfl ?_
              refine aj.if_eqN (a := 1) (tgt := 125) dX11_judge_118 rfl (by omega) rfl (fun c118 => ?_) (fun c118 => ?_)
              · exact absurd c118 (by decide)
              · refine aj.iconst (v := 0) dX11_judge_121 rfl ?_
                refine aj.goto (tgt := 126) dX11_judge_122 rfl ?_
                exact aj.iret rfl dX11_judge_126 ⟨by rw [if_pos (⟨c_q, c5⟩ : _ ∧ _), if_neg hA32, if_neg (by decide), if_pos rfl, zb_f (by omega)], ⟨_, _, hA, hv2, hw⟩⟩
            by_cases s2 : q = 2
            · rw [s2] at c_q ⊢
              refine aj.swIn (tgt := 127) (off := 51) dX11_judge_76 (by decide) (by decide) (by decide) rfl ?_
              refine aj.aload_n dX11_judge_127 rfl ?_
              refine gX11_trial (i := 0) rfl hA w380 dX11_judge_128 ?_
              refine gX7_minute (i := 11) rfl hA w271 dX11_judge_131 ?_
              exact aj.iret rfl dX11_judge_134 ⟨by rw [if_pos (⟨c_q, c5⟩ : _ ∧ _), if_neg hA32, if_neg (by decide), if_neg (by decide), if_pos rfl, hS2.2.2.2.2], ⟨_, _, hA, hv2, hw⟩⟩
            refine aj.swOut (tgt := 135) dX11_judge_76 (by simp only [← Int32.toInt_inj, Int32.lt_iff_toInt_lt, Int32.le_iff_toInt_le] at *; have e0 : (0 : Int32).toInt = 0 := rfl; have e1 : (1 : Int32).toInt = 1 := rfl; have e2 : (2 : Int32).toInt = 2 := rfl; omega) rfl ?_
            refine aj.aload_n dX11_judge_135 rfl ?_
            refine gX11_trial (i := 0) rfl hA w380 dX11_judge_136 ?_
            refine gX7_hurt (i := 11) rfl hA w267 dX11_judge_139 ?_
            exact aj.iret rfl dX11_judge_142 ⟨by rw [if_pos (⟨c_q, c5⟩ : _ ∧ _), if_neg hA32, if_neg s0, if_neg s1, if_neg s2, hS2.2.2.1], ⟨_, _, hA, hv2, hw⟩⟩
        · have hA32 : A 32 (mN t) = -1 := Classical.not_not.mp (zb_0.mp (h0'.symm.trans c31))
          refine aj.bipush (v := (-6)) dX11_judge_34 rfl ?_
          exact aj.iret rfl dX11_judge_36 ⟨by rw [if_pos (⟨c_q, c5⟩ : _ ∧ _), if_pos hA32], ⟨_, _, hA, hv, hw⟩⟩
      · refine aj.bipush (v := (-2)) dX11_judge_17 rfl ?_
        exact aj.iret rfl dX11_judge_19 ⟨by rw [if_neg (fun z => by have z1 := z.1.1; have z2 := z.1.2; simp only [Int32.lt_iff_toInt_lt, Int32.le_iff_toInt_le] at *; have e0 : (0 : Int32).toInt = 0 := rfl; have e3 : (3 : Int32).toInt = 3 := rfl; omega)], ⟨_, _, hA, hv, hw⟩⟩
theorem day_lp {G : zG} {l : Launch} {a : Nat} {M0 : zM} {V1 : Nat → Nat → Int32} {W : Nat → Nat → Int64} {R : Nat → Nat → Option Nat} {T : Nat} {sl ol : Option (List Nat)} {seed : Int32} (n : Nat) {x_n : Int32} (e_n : x_n = nI n) (hn40 : n ≤ 40) (hT : R 0 0 = some T) {RR : Nat × (Nat → Int32)} {Q : Option Value → zM → Prop} (hk : ∀ V2 M, stR V2 8 RR.2 → ((∀ q, q ≠ 0 → q ≠ 50 → q ≠ 51 → q ≠ 8 → q ≠ 9 → q ≠ 10 → V2 q = V1 q) ∧ V2 0 0 = V1 0 0) → kA a M0 M V2 W R → aj G l kX11_day 7 66 [(3, .int (nI RR.1)), (0, .ref a), (1, .int seed), (2, .int x_n)] [] M 0 0 Q) : ∀ (m i k : Nat) (x : Int32) (B : Nat → Int32) (V2 : Nat → Nat → Int32) (Tm : Nat) (M : zM), i + m = n → mOK B sl ol Tm → Tm + m < 2 ^ 24 → bW a M0 T B sl ol → stR V2 8 B → V2 0 1 = x → ((∀ q, q ≠ 0 → q ≠ 50 → q ≠ 51 → q ≠ 8 → q ≠ 9 → q ≠ 10 → V2 q = V1 q) ∧ V2 0 0 = V1 0 0) → dayR sl ol m x B k = RR → kA a M0 M V2 W R → aj G l kX11_day 7 35 [(4, .int (nI i)), (3, .int (nI k)), (0, .ref a), (1, .int seed), (2, .int x_n)] [] M 0 0 Q := by
  intro m
  induction m with
  | zero =>
    intro i k x B V2 Tm M hin hB hTm hb hS hx hD hR hA
    have hkk : k = RR.1 := by rw [← hR]; rfl
    have hBB : B = RR.2 := by rw [← hR]; rfl
    refine aj.iload dX11_day_35 rfl ?_
    refine aj.iload_n dX11_day_37 rfl ?_
    refine aj.icmp_geN (a := i) (b := n) (tgt := 66) dX11_day_38 rfl e_n (by omega) (by omega) rfl (fun c38 => ?_) (fun c38 => ?_)
    · refine aj.pick [1, 2, 3, 4] rfl ?_
      rw [hkk]
      exact hk V2 M (hBB ▸ hS) hD hA
    · exact absurd c38 (by omega)
  | succ m ih =>
    intro i k x B V2 Tm M hin hB hTm hb hS hx hD hR hA
    have h6b := hB.2.2.1.2
    rw [dayR_s] at hR
    refine aj.iload dX11_day_35 rfl ?_
    refine aj.iload_n dX11_day_37 rfl ?_
    refine aj.icmp_geN (a := i) (b := n) (tgt := 66) dX11_day_38 rfl e_n (by omega) (by omega) rfl (fun c38 => ?_) (fun c38 => ?_)
    · exact absurd c38 (by omega)
    · refine aj.aload_n dX11_day_41 rfl ?_
      refine aj.aload_n dX11_day_42 rfl ?_
      refine gX11_now (i := 0) rfl hA w379 dX11_day_43 ?_
      refine aj.aload_n dX11_day_46 rfl ?_
      refine aj.callE1 (d' := 1) (As := []) (rest := [.ref (a + 8), .ref a]) dX11_day_47 v_X11_209 li_X11_drawDeed ⟨_, hA.ob (i := 0) rfl (by decide)⟩ rfl rfl rfl (Nat.le_of_ble_eq_true rfl) (Nat.le_of_ble_eq_true rfl) (k_drawDeed hx hA) (fun M hM => ?_)
      obtain ⟨V3, e3, hA⟩ : ∃ z, z = va_up V2 0 (upd (V2 0) 1 (drX x)) ∧ kA a M0 M z W R := ⟨_, rfl, hM⟩
      have hS3 : stR V3 8 B := by
        unfold stR
        rw [e3, va_up_ne _ _ (by decide), va_up_ne _ _ (by decide), va_up_ne _ _ (by decide)]
        exact hS
      have hdl := drV_lt x
      have hdI : (lN (drV x)).toInt = (drV x : Int) := pk_lT (by omega)
      refine aj.i2lN (a := drV x) dX11_day_50 rfl (by omega) ?_
      refine aj.callE1 (d' := 6) (As := [.ref (a + 8), .long (lN (drV x))]) (rest := []) dX11_day_51 v_X11_213 li_X11_doDeed ⟨_, hA.ob (i := 0) rfl (by decide)⟩ rfl rfl rfl (Nat.le_of_ble_eq_true rfl) (Nat.le_of_ble_eq_true rfl) (k_doDeed (o := 8) ⟨rfl, rfl, rfl⟩ (Or.inl rfl) (lN (drV x)) hT hb hS3 hB hA) (fun M hM => ?_)
      obtain ⟨V4, hA, hS4, hE4⟩ := hM
      rw [hdI, Int.toNat_natCast] at hS4
      have hx4 : V4 0 1 = drX x := by
        rw [hE4 0 (by decide) (by decide) (by decide) (by decide) (by decide), e3, va_up_self, pk_us]
      have hD4 : (∀ q, q ≠ 0 → q ≠ 50 → q ≠ 51 → q ≠ 8 → q ≠ 9 → q ≠ 10 → V4 q = V1 q) ∧ V4 0 0 = V1 0 0 := ⟨fun q h0 h1 h2 h8 h9 h10 => by rw [hE4 q h1 h2 h8 h9 h10, e3, va_up_ne _ _ h0]; exact hD.1 q h0 h1 h2 h8 h9 h10, by rw [hE4 0 (by decide) (by decide) (by decide) (by decide) (by decide), e3, va_up_self, pk_un (by decide)]; exact hD.2⟩
      refine aj.if_eqB (tgt := 60) dX11_day_54 rfl (fun c54 => ?_) (fun c54 => ?_)
      · refine aj.iincN (a := i) (c := 1) (lv' := [(4, .int (nI (i + 1))), (3, .int (nI k)), (0, .ref a), (1, .int seed), (2, .int x_n)]) dX11_day_60 rfl (Nat.le_of_ble_eq_true rfl) rfl rfl rfl ?_
        refine aj.goto (tgt := 35) dX11_day_63 rfl ?_
        have c54n : ¬ dOK (mN (B 6)) (drV x : Int) := by rw [← hdI]; exact c54
        rw [if_neg c54n] at hR hS4
        refine aj.pick [0, 1, 2, 3, 4] rfl ?_
        exact ih (i + 1) k (drX x) B V4 Tm M (by omega) hB (by omega) hb hS4 hx4 hD4 hR hA
      · refine aj.iincN (a := k) (c := 1) (lv' := [(3, .int (nI (k + 1))), (4, .int (nI i)), (0, .ref a), (1, .int seed), (2, .int x_n)]) dX11_day_57 rfl (Nat.le_of_ble_eq_true rfl) rfl rfl rfl ?_
        refine aj.iincN (a := i) (c := 1) (lv' := [(4, .int (nI (i + 1))), (3, .int (nI (k + 1))), (0, .ref a), (1, .int seed), (2, .int x_n)]) dX11_day_60 rfl (Nat.le_of_ble_eq_true rfl) rfl rfl rfl ?_
        refine aj.goto (tgt := 35) dX11_day_63 rfl ?_
        have c54n : dOK (mN (B 6)) (drV x : Int) := by rw [← hdI]; exact c54
        rw [if_pos c54n] at hR hS4
        refine aj.pick [0, 1, 2, 3, 4] rfl ?_
        exact ih (i + 1) (k + 1) (drX x) _ V4 (Tm + 1) M (by omega) (mOK_do hB c54n (by omega)) (by omega) (hb.cB (fun j hj => doB_k c54n h6b (by omega))) hS4 hx4 hD4 hR hA
theorem p_day {G : zG} {l : Launch} {a : Nat} {M0 M : zM} {V0 : Nat → Nat → Int32} {W0 : Nat → Nat → Int64} {R : Nat → Nat → Option Nat} {T : Nat} {B : Nat → Int32} {sl ol : Option (List Nat)} {Tm : Nat} (seed : Int32) (n : Int32) (hM : kW a M0 M V0 W0 R) (hH : cH a M0 V0 R T B sl ol Tm) (hI : hisR V0 B) (hT40 : Tm + 40 < 2 ^ 24) : am G l kX11_day 7 [.ref a, .int seed, .int n] M 0 0 (zr (.int (if inR n 1 40 then nI (dayR sl ol (mN n) seed B 0).1 else -3)) (fun M' => kD a M0 M' V0 W0 R (if inR n 1 40 ∧ 0 < (dayR sl ol (mN n) seed B 0).1 then noteF (dayR sl ol (mN n) seed B 0).2 (stF B) (mN (B 28)) else B))) := by
  obtain ⟨V, W, hA, hv, hw⟩ := hM
  obtain ⟨hT, hb, hS, hB⟩ := id hH
  have hd0 := (dLaw_of hB).1
  have hd1 := (dLaw_of hB).2
  have h25 := hB.2.2.2.2.2.1
  have h26 := hB.2.2.2.2.2.2.1
  have h27 := hB.2.2.2.2.2.2.2.1
  have h6 := hB.2.2.1
  have hag := hB.2.2.2.2.1
  have hTm := hB.2.2.2.2.2.2.2.2.1
  have h25b := h25.2
  have h26b := h26.2
  have h27b := h27.2
  have h6b := h6.2
  obtain ⟨nx, hJ⟩ := id hI
  have hnx := hJ.1
  have h28 := hJ.2.1
  have hn : V 14 0 = nI nx := (congrFun (hv 14 (by decide)) 0).trans hJ.2.2.1
  have hz : V 14 1 = nI (mN (B 28)) := ((congrFun (hv 14 (by decide)) 1).trans hJ.2.2.2.1).trans h28.1
  refine am.of (by decide) (Nat.le_of_ble_eq_true rfl) ?_
  refine aj.iload_n dX11_day_0 rfl ?_
  refine aj.iconst (v := 1) dX11_day_1 rfl ?_
  refine aj.icmp_lt (tgt := 11) dX11_day_2 rfl (fun c2 => ?_) (fun c2 => ?_)
  · refine aj.bipush (v := (-3)) dX11_day_11 rfl ?_
    exact aj.iret rfl dX11_day_13 ⟨by rw [if_neg (by unfold inR; simp only [Int32.lt_iff_toInt_lt, Int32.le_iff_toInt_le] at *; have e1 : (1 : Int32).toInt = 1 := rfl; have e40 : (40 : Int32).toInt = 40 := rfl; omega)], by rw [if_neg (fun z => absurd z.1 (by unfold inR; simp only [Int32.lt_iff_toInt_lt, Int32.le_iff_toInt_le] at *; have e1 : (1 : Int32).toInt = 1 := rfl; have e40 : (40 : Int32).toInt = 40 := rfl; omega))]; exact kD_same hI hS hv hw hA⟩
  · refine aj.iload_n dX11_day_5 rfl ?_
    refine aj.bipush (v := 40) dX11_day_6 rfl ?_
    refine aj.icmp_le (tgt := 14) dX11_day_8 rfl (fun c8 => ?_) (fun c8 => ?_)
    · have c_n : inR n 1 40 := by unfold inR; simp only [Int32.lt_iff_toInt_lt, Int32.le_iff_toInt_le] at *; have e1 : (1 : Int32).toInt = 1 := rfl; have e40 : (40 : Int32).toInt = 40 := rfl; omega
      have h_n := inR_bd1 (n := 40) c_n (by decide)
      have h2_n := h_n.2.1
      have h3_n := h_n.2.2
      obtain ⟨RR, hRR⟩ : ∃ z, dayR sl ol (mN n) seed B 0 = z := ⟨_, rfl⟩
      rw [hRR]
      refine aj.aload_n dX11_day_14 rfl ?_
      refine gX11_trial (i := 0) rfl hA w380 dX11_day_15 ?_
      refine aj.aload_n dX11_day_18 rfl ?_
      refine gX11_now (i := 0) rfl hA w379 dX11_day_19 ?_
      refine aj.callE0 (d' := 0) (As := [.ref (a + 8)]) (rest := []) dX11_day_22 v_X11_201 li_X7_copyFrom ⟨_, hA.ob (i := 11) rfl (by decide)⟩ rfl rfl rfl (Nat.le_of_ble_eq_true rfl) (Nat.le_of_ble_eq_true rfl) (k_copyFrom (p := 11) (q := 8) ⟨rfl, rfl, rfl⟩ ⟨rfl, rfl, rfl⟩ (by omega) hA) (fun M hM => ?_)
      obtain ⟨V1, hS8, hS11, hv1, hA⟩ := cp_norm hS hv hM
      refine aj.aload_n dX11_day_25 rfl ?_
      refine aj.iload_n dX11_day_26 rfl ?_
      refine pX11_drawn (i := 0) rfl hA w391 dX11_day_27 (fun M hA => ?_)
      refine aj.iconst (v := 0) dX11_day_30 rfl ?_
      refine aj.istore_n (lv' := [(3, .int 0), (0, .ref a), (1, .int seed), (2, .int n)]) dX11_day_31 (Nat.le_of_ble_eq_true rfl) rfl ?_
      refine aj.iconst (v := 0) dX11_day_32 rfl ?_
      refine aj.istore (lv' := [(4, .int 0), (3, .int 0), (0, .ref a), (1, .int seed), (2, .int n)]) dX11_day_33 (Nat.le_of_ble_eq_true rfl) rfl ?_
      refine aj.pick [0, 1, 2, 3, 4] rfl ?_
      refine day_lp (mN n) h_n.1 h2_n hT (RR := RR) (fun V2 M hS2 hD hA => ?_) (mN n) 0 0 seed B _ Tm M (by omega) hB (by omega) hb (by unfold stR; rw [va_up_ne _ _ (by decide), va_up_ne _ _ (by decide), va_up_ne _ _ (by decide)]; exact hS8) (by rw [va_up_self, pk_us]) ⟨fun _ _ _ _ _ _ _ => rfl, rfl⟩ hRR hA
      have hvE : ∀ q, ¬ sc q → q ≠ 0 → V1 q = V0 q := fun q h h0 => hv1 q h
      have hv2 : ∀ q, ¬ sc q → q ≠ 0 → q ≠ 8 → q ≠ 9 → q ≠ 10 → V2 q = V0 q := fun q h h0 h8 h9 h10 => (hD.1 q h0 (fun e => h (by subst e; decide)) (fun e => h (by subst e; decide)) h8 h9 h10).trans ((va_up_ne _ _ h0).trans (hv1 q h))
      have h00 : V2 0 0 = V0 0 0 := hD.2.trans ((by rw [va_up_self, pk_un (by decide)] : _ = V1 0 0).trans (congrFun (hv1 0 (by decide)) 0))
      have hn2 : V2 14 0 = nI nx := (congrFun (hv2 14 (by decide) (by decide) (by decide) (by decide) (by decide)) 0).trans hJ.2.2.1
      have hz2 : V2 14 1 = nI (mN (B 28)) := ((congrFun (hv2 14 (by decide) (by decide) (by decide) (by decide) (by decide)) 1).trans hJ.2.2.2.1).trans h28.1
      have hS112 : stR V2 11 B := by
        unfold stR
        rw [hD.1 11 (by decide) (by decide) (by decide) (by decide) (by decide) (by decide), hD.1 12 (by decide) (by decide) (by decide) (by decide) (by decide) (by decide), hD.1 13 (by decide) (by decide) (by decide) (by decide) (by decide) (by decide), va_up_ne _ _ (by decide), va_up_ne _ _ (by decide), va_up_ne _ _ (by decide)]
        exact hS11
      have hRl : RR.1 ≤ 40 := by rw [← hRR]; have := (dayR_le (sl := sl) (ol := ol) (n := mN n) (x := seed) (B := B) (k := 0)).2; omega
      refine aj.iload_n dX11_day_66 rfl ?_
      refine aj.if_leN (a := RR.1) (tgt := 81) dX11_day_67 rfl (by omega) rfl (fun c67 => ?_) (fun c67 => ?_)
      · refine aj.iload_n dX11_day_81 rfl ?_
        have hR0 : RR.1 = 0 := by omega
        have hRB : RR.2 = B := by rw [← hRR]; exact dayR_0 (by rw [hRR]; exact hR0)
        rw [hRB] at hS2
        exact aj.iret rfl dX11_day_82 ⟨by rw [if_pos c_n], by rw [if_neg (fun z => by have := z.2; omega)]; exact kD_none hJ hv2 h00 hS2 hw hA⟩
      · refine aj.aload_n dX11_day_70 rfl ?_
        refine gX11_history (i := 0) rfl hA w381 dX11_day_71 ?_
        refine aj.aload_n dX11_day_74 rfl ?_
        refine gX11_trial (i := 0) rfl hA w380 dX11_day_75 ?_
        refine aj.callE0 (d' := 1) (As := [.ref (a + 11)]) (rest := []) dX11_day_78 v_X11_169 li_X1_keep ⟨_, hA.ob (i := 14) rfl (by decide)⟩ rfl rfl rfl (Nat.le_of_ble_eq_true rfl) (Nat.le_of_ble_eq_true rfl) (k_keep (o := 11) ⟨rfl, rfl, rfl⟩ (by decide) (nx := nx) (sz := mN (B 28)) hn2 hnx hz2 h28.2 hA) (fun M hM => ?_)
        have hK := hM
        refine aj.iload_n dX11_day_81 rfl ?_
        exact aj.iret rfl dX11_day_82 ⟨by rw [if_pos c_n], by rw [if_pos (⟨c_n, by omega⟩ : _ ∧ _)]; exact kD_late hJ hv2 h00 hS2 hS112 (fun k hk => by rw [← hRR]; exact dayR_k (by omega) (by omega)) hw hK⟩
    · refine aj.bipush (v := (-3)) dX11_day_11 rfl ?_
      exact aj.iret rfl dX11_day_13 ⟨by rw [if_neg (by unfold inR; simp only [Int32.lt_iff_toInt_lt, Int32.le_iff_toInt_le] at *; have e1 : (1 : Int32).toInt = 1 := rfl; have e40 : (40 : Int32).toInt = 40 := rfl; omega)], by rw [if_neg (fun z => absurd z.1 (by unfold inR; simp only [Int32.lt_iff_toInt_lt, Int32.le_iff_toInt_le] at *; have e1 : (1 : Int32).toInt = 1 := rfl; have e40 : (40 : Int32).toInt = 40 := rfl; omega))]; exact kD_same hI hS hv hw hA⟩
