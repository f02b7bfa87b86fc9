theorem p_beatsS {G : zG} {l : Launch} {a : Nat} {M0 M : zM} {V0 : Nat → Nat → Int32} {W0 : Nat → Nat → Int64} {R : Nat → Nat → Option Nat} {T : Nat} {B : Nat → Int32} {sl ol : Option (List Nat)} {Tm : Nat} {F : zM} {t p q : Nat} {f g s_ : Nat → Int32} {w : Int64} (s o n qq : Int32) (hM : kW a M0 M V0 W0 R) (hko : t + 4 ≤ a ∨ a + 87 ≤ t) (hT : R 0 0 = some T) (hR1 : R 0 1 = some t) (hbF : bW a (rs F t) T B sl ol) (hS : stR V0 8 B) (hB : mOK B sl ol Tm) (hm : mt F M0 t p q p q f g s_ w) : am G l kX11_beats 7 [.ref a, .int s, .int o, .int n, .int qq] M 0 0 (zr (.long (if (inR s 0 ((mN (B 6) : Int) - 1) ∧ inR o 0 ((mN (B 6) : Int) - 1) ∧ ¬ s = o ∧ inR qq 0 1) then (if inR n 1 3 then mPart (lN (mBeat (mSc B sl (mN s) (mBest B sl (mN s) (mN (B (21 + (mN s)))) (mOpen ol (mN (B 26)) (mN (B 27)) (mN (B 25)) = true) 20) (mOpen ol (mN (B 26)) (mN (B 27)) (mN (B 25)) = true)) (mSc B sl (mN o) (mBest B sl (mN o) (mN (B (21 + (mN o)))) (mOpen ol (mN (B 26)) (mN (B 27)) (mN (B 25)) = true) 20) (mOpen ol (mN (B 26)) (mN (B 27)) (mN (B 25)) = true)) (mN n))) (lN (10 ^ (2 * mN n))) qq else -3) else -2)) (fun M' => ∃ M1 p q f g s w, kW a M1 M' V0 W0 R ∧ mt F M1 t p q p q f g s w)) := by
  have hb0 := mt_bW hm hbF
  have hH : cH a M0 V0 R T B sl ol Tm := ⟨hT, hb0, hS, hB⟩
  obtain ⟨V, W, hA, hv, hw⟩ := hM
  obtain ⟨hT, hb, hS, hB⟩ := id hH
  have hd0 := (dLaw_of hB).1
  have hd1 := (dLaw_of hB).2
  have h25 := hB.2.2.2.2.2.1
  have h26 := hB.2.2.2.2.2.2.1
  have h27 := hB.2.2.2.2.2.2.2.1
  have h6 := hB.2.2.1
  have hag := hB.2.2.2.2.1
  have hTm := hB.2.2.2.2.2.2.2.2.1
  have h25b := h25.2
  have h26b := h26.2
  have h27b := h27.2
  have h6b := h6.2
  refine am.of (by decide) (Nat.le_of_ble_eq_true rfl) ?_
  refine aj.aload_n dX11_beats_0 rfl ?_
  refine aj.iload_n dX11_beats_1 rfl ?_
  refine aj.callE1 (d' := 0) (As := [.int s]) (rest := []) dX11_beats_2 v_X11_124 li_X11_isShooter ⟨_, hA.ob (i := 0) rfl (by decide)⟩ rfl rfl rfl (Nat.le_of_ble_eq_true rfl) (Nat.le_of_ble_eq_true rfl) (k_isShooter s hH hA) (fun M hM => ?_)
  subst hM
  refine aj.if_eqB (tgt := 29) dX11_beats_5 rfl (fun c5 => ?_) (fun c5 => ?_)
  · refine aj.ldc2 dX11_beats_29 w1004 ?_
    exact aj.lret rfl dX11_beats_32 ⟨by rw [if_neg (fun z => c5 z.1)], M0, p, q, f, g, s_, w, ⟨V, W, hA, hv, hw⟩, hm⟩
  · have h_s := inR_bdS c5 (by omega)
    have h2_s := h_s.2
    refine aj.aload_n dX11_beats_8 rfl ?_
    refine aj.iload_n dX11_beats_9 rfl ?_
    refine aj.callE1 (d' := 0) (As := [.int o]) (rest := []) dX11_beats_10 v_X11_124 li_X11_isShooter ⟨_, hA.ob (i := 0) rfl (by decide)⟩ rfl rfl rfl (Nat.le_of_ble_eq_true rfl) (Nat.le_of_ble_eq_true rfl) (k_isShooter o hH hA) (fun M hM => ?_)
    subst hM
    refine aj.if_eqB (tgt := 29) dX11_beats_13 rfl (fun c13 => ?_) (fun c13 => ?_)
    · refine aj.ldc2 dX11_beats_29 w1004 ?_
      exact aj.lret rfl dX11_beats_32 ⟨by rw [if_neg (fun z => c13 z.2.1)], M0, p, q, f, g, s_, w, ⟨V, W, hA, hv, hw⟩, hm⟩
    · have h_o := inR_bdS c13 (by omega)
      have h2_o := h_o.2
      refine aj.iload_n dX11_beats_16 rfl ?_
      refine aj.iload_n dX11_beats_17 rfl ?_
      refine aj.icmp_eq (tgt := 29) dX11_beats_18 rfl (fun c18 => ?_) (fun c18 => ?_)
      · refine aj.ldc2 dX11_beats_29 w1004 ?_
        exact aj.lret rfl dX11_beats_32 ⟨by rw [if_neg (fun z => z.2.2.1 c18)], M0, p, q, f, g, s_, w, ⟨V, W, hA, hv, hw⟩, hm⟩
      · refine aj.iload dX11_beats_21 rfl ?_
        refine aj.callS1 (d' := 0) (As := [.int qq]) (rest := []) dX11_beats_23 v_X11_128 w720 rfl rfl (Nat.le_of_ble_eq_true rfl) (Nat.le_of_ble_eq_true rfl) (k_isHalf _ qq) (fun M hM => ?_)
        subst hM
        refine aj.if_neB (tgt := 33) dX11_beats_26 rfl (fun c26 => ?_) (fun c26 => ?_)
        · have h_qq := inR_bd (n := 1) c26 (by decide)
          have h2_qq := h_qq.2
          refine aj.iload_n dX11_beats_33 rfl ?_
          refine aj.iconst (v := 1) dX11_beats_34 rfl ?_
          refine aj.icmp_lt (tgt := 43) dX11_beats_35 rfl (fun c35 => ?_) (fun c35 => ?_)
          · refine aj.ldc2 dX11_beats_43 w1005 ?_
            exact aj.lret rfl dX11_beats_46 ⟨by rw [if_pos (⟨c5, c13, c18, c26⟩ : _ ∧ _ ∧ _ ∧ _), if_neg (by unfold inR; simp only [Int32.lt_iff_toInt_lt, Int32.le_iff_toInt_le] at *; have e1 : (1 : Int32).toInt = 1 := rfl; have e3 : (3 : Int32).toInt = 3 := rfl; omega)], M0, p, q, f, g, s_, w, ⟨V, W, hA, hv, hw⟩, hm⟩
          · refine aj.iload_n dX11_beats_38 rfl ?_
            refine aj.iconst (v := 3) dX11_beats_39 rfl ?_
            refine aj.icmp_le (tgt := 47) dX11_beats_40 rfl (fun c40 => ?_) (fun c40 => ?_)
            · have c_n : inR n 1 3 := by unfold inR; simp only [Int32.lt_iff_toInt_lt, Int32.le_iff_toInt_le] at *; have e1 : (1 : Int32).toInt = 1 := rfl; have e3 : (3 : Int32).toInt = 3 := rfl; omega
              have h_n := inR_bd1 (n := 3) c_n (by decide)
              have h2_n := h_n.2.1
              have h3_n := h_n.2.2
              refine aj.aload_n dX11_beats_47 rfl ?_
              refine gMt hR1 hA w389 dX11_beats_48 ?_
              refine aj.ifnonnull (tgt := 65) dX11_beats_51 rfl ?_
              refine aj.pick [0, 1, 2, 3, 4] rfl ?_
              refine aj.mono (beats_t (mN s) h_s.1 (mN o) h_o.1 (mN n) h_n.1 qq (by omega) (by omega) h2_n hko hT hR1 hbF hS hB hv hm hA) (fun r M' hq => ⟨hq.1.trans (by rw [if_pos (⟨c5, c13, c18, c26⟩ : _ ∧ _ ∧ _ ∧ _), if_pos c_n]), ?_⟩)
              obtain ⟨V1, M1, p1, q1, f1, g1, s1, w1, k1, k2, k3⟩ := hq.2
              exact ⟨M1, p1, q1, f1, g1, s1, w1, ⟨V1, W, k1, k2, hw⟩, k3⟩
            · refine aj.ldc2 dX11_beats_43 w1005 ?_
              exact aj.lret rfl dX11_beats_46 ⟨by rw [if_pos (⟨c5, c13, c18, c26⟩ : _ ∧ _ ∧ _ ∧ _), if_neg (by unfold inR; simp only [Int32.lt_iff_toInt_lt, Int32.le_iff_toInt_le] at *; have e1 : (1 : Int32).toInt = 1 := rfl; have e3 : (3 : Int32).toInt = 3 := rfl; omega)], M0, p, q, f, g, s_, w, ⟨V, W, hA, hv, hw⟩, hm⟩
        · refine aj.ldc2 dX11_beats_29 w1004 ?_
          exact aj.lret rfl dX11_beats_32 ⟨by rw [if_neg (fun z => c26 z.2.2.2)], M0, p, q, f, g, s_, w, ⟨V, W, hA, hv, hw⟩, hm⟩
