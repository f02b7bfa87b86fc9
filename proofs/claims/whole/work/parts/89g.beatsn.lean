theorem nB_start {M0 M : zM} {c : zC} (h : M.2 = M0.2) : nB M0.2 M (z_nw M c) 0 [c] c [] := by
  refine ⟨Nat.zero_lt_one, ?_, fun x hx => if_neg (by omega), ?_, fun j hj he => ?_, fun j hj => absurd hj (Nat.not_lt_zero j)⟩
  · show M.2 + 1 = _
    rw [h]
    rfl
  · rw [← h]
    exact if_pos rfl
  · have : j < 1 := hj
    omega
theorem mk_match {a : Nat} {M0 M M' : zM} {V : Nat → Nat → Int32} {W : Nat → Nat → Int64} {R : Nat → Nat → Option Nat} {d : zC} (hA : kA a M0 M V W R) (hfr : a + 87 ≤ M0.2) (hN : nB M0.2 M M' 0 [d] (.inr (3, [.ref (M0.2 + 1), .ref (M0.2 + (1 + 1)), .ref (M0.2 + (1 + 2)), .long 1])) [.inl (0, 1189, .inl (fun _ => 0)), .inl (0, 1189, .inl (fun _ => 0)), .inl (0, 10, .inl (fun _ => 0))]) : ∃ M1 : zM, kA a M1 M' V W R ∧ mt M1 M1 M0.2 (M0.2 + 1) (M0.2 + 2) (M0.2 + 1) (M0.2 + 2) (fun _ => 0) (fun _ => 0) (fun _ => 0) 1 ∧ M1.2 = M0.2 + 4 ∧ ∀ x, x < M0.2 → M1.1 x = M0.1 x := by
  obtain ⟨h1, h2, h3, h4, h5, h6⟩ := hN
  obtain ⟨k1, k2, k3⟩ := hA
  have e : ∀ x, M0.2 ≤ x → (if x < M0.2 then M0.1 x else M'.1 x) = M'.1 x := fun x hx => if_neg (by omega)
  refine ⟨(fun x => if x < M0.2 then M0.1 x else M'.1 x, M'.2), ⟨rfl, fun x hx => ?_, fun i hi => ?_⟩, ⟨⟨rfl, fun _ _ => rfl⟩, Or.inl ⟨rfl, rfl⟩, (e _ (by omega)).trans h4, ⟨_, (e _ (by omega)).trans (h6 0 (by decide)), fun _ _ => rfl⟩, ⟨_, (e _ (by omega)).trans (h6 1 (by decide)), fun _ _ => rfl⟩, ⟨_, (e _ (by omega)).trans (h6 2 (by decide)), fun _ _ => rfl⟩⟩, h2, fun x hx => if_pos hx⟩
  · by_cases q : x < M0.2
    · rw [h3 x q]
      exact (k2 x hx).trans (if_pos q).symm
    · exact (e x (by omega)).symm
  · rw [h3 (a + i) (by unfold kIn at hi; omega)]
    exact k3 i hi
theorem bW_new {a : Nat} {M0 M1 : zM} {T : Nat} {B : Nat → Int32} {sl ol : Option (List Nat)} (hb : bW a M0 T B sl ol) (hcl : ∀ x, M0.2 ≤ x → M0.1 x = none) (h : ∀ x, x < M0.2 → M1.1 x = M0.1 x) : bW a (rs M1 M0.2) T B sl ol := hb.of (fun x _ hc => by
  obtain ⟨c, hc⟩ := hc
  by_cases e : x < M0.2
  · exact (if_neg (by omega)).trans (h x e)
  · rw [hcl x (by omega)] at hc
    exact absurd hc.symm (Option.some_ne_none c))
section R89g
variable {G : zG} {l : Launch} {k : zY} {d pc bc bs : Nat} {lv : List (Nat × Value)} {st : List Value} {Q : Option Value → zM → Prop}
theorem gMn {a idx : Nat} {M0 M : zM} {V : Nat → Nat → Int32} {W : Nat → Nat → Int64} {R : Nat → Nat → Option Nat} (hR1 : R 0 1 = none) (hA : kA a M0 M V W R) (hl : Cond.fieldLink k.1.cls idx (TX11 14).1 (TX11 14).2.1 (TX11 14).2.2.1 ∈ z_W) (hd : decode k.2.1 pc = .ok (.getfield idx, 3)) (h : aj G l k d (pc + 3) lv (.null :: st) M bc bs Q) : aj G l k d pc lv (.ref a :: st) M bc bs Q := gX11_match (i := 0) rfl hA hl hd (by rw [hR1]; exact h)
end R89g
theorem p_beatsN {G : zG} {l : Launch} {a : Nat} {M0 M : zM} {V0 : Nat → Nat → Int32} {W0 : Nat → Nat → Int64} {R : Nat → Nat → Option Nat} {T : Nat} {B : Nat → Int32} {sl ol : Option (List Nat)} {Tm : Nat} (s o n qq : Int32) (hM : kW a M0 M V0 W0 R) (hH : cH a M0 V0 R T B sl ol Tm) (hR1 : R 0 1 = none) (hfr : a + 87 ≤ M0.2) (hcl : ∀ x, M0.2 ≤ x → M0.1 x = none) : am G l kX11_beats 7 [.ref a, .int s, .int o, .int n, .int qq] M 4 2392 (zr (.long (if (inR s 0 ((mN (B 6) : Int) - 1) ∧ inR o 0 ((mN (B 6) : Int) - 1) ∧ ¬ s = o ∧ inR qq 0 1) then (if inR n 1 3 then mPart (lN (mBeat (mSc B sl (mN s) (mBest B sl (mN s) (mN (B (21 + (mN s)))) (mOpen ol (mN (B 26)) (mN (B 27)) (mN (B 25)) = true) 20) (mOpen ol (mN (B 26)) (mN (B 27)) (mN (B 25)) = true)) (mSc B sl (mN o) (mBest B sl (mN o) (mN (B (21 + (mN o)))) (mOpen ol (mN (B 26)) (mN (B 27)) (mN (B 25)) = true) 20) (mOpen ol (mN (B 26)) (mN (B 27)) (mN (B 25)) = true)) (mN n))) (lN (10 ^ (2 * mN n))) qq else -3) else -2)) (fun M' => kW a M0 M' V0 W0 R ∨ ∃ F M1 p q f g s w, kW a M1 M' V0 W0 (va_up R 0 (va_up (R 0) 1 (some M0.2))) ∧ mt F M1 M0.2 p q p q f g s w ∧ F.2 = M0.2 + 4 ∧ ∀ x, x < M0.2 → F.1 x = M0.1 x)) := by
  obtain ⟨V, W, hA, hv, hw⟩ := hM
  obtain ⟨hT, hb, hS, hB⟩ := id hH
  have hd0 := (dLaw_of hB).1
  have hd1 := (dLaw_of hB).2
  have h25 := hB.2.2.2.2.2.1
  have h26 := hB.2.2.2.2.2.2.1
  have h27 := hB.2.2.2.2.2.2.2.1
  have h6 := hB.2.2.1
  have hag := hB.2.2.2.2.1
  have hTm := hB.2.2.2.2.2.2.2.2.1
  have h25b := h25.2
  have h26b := h26.2
  have h27b := h27.2
  have h6b := h6.2
  refine am.of (by decide) (Nat.le_of_ble_eq_true rfl) ?_
  refine aj.aload_n dX11_beats_0 rfl ?_
  refine aj.iload_n dX11_beats_1 rfl ?_
  refine aj.callE1 (d' := 0) (As := [.int s]) (rest := []) dX11_beats_2 v_X11_124 li_X11_isShooter ⟨_, hA.ob (i := 0) rfl (by decide)⟩ rfl rfl rfl (Nat.le_of_ble_eq_true rfl) (Nat.le_of_ble_eq_true rfl) (k_isShooter s hH hA) (fun M hM => ?_)
  subst hM
  refine aj.if_eqB (tgt := 29) dX11_beats_5 rfl (fun c5 => ?_) (fun c5 => ?_)
  · refine aj.ldc2 dX11_beats_29 w1004 ?_
    exact aj.lret rfl dX11_beats_32 ⟨by rw [if_neg (fun z => c5 z.1)], Or.inl ⟨V, W, hA, hv, hw⟩⟩
  · have h_s := inR_bdS c5 (by omega)
    have h2_s := h_s.2
    refine aj.aload_n dX11_beats_8 rfl ?_
    refine aj.iload_n dX11_beats_9 rfl ?_
    refine aj.callE1 (d' := 0) (As := [.int o]) (rest := []) dX11_beats_10 v_X11_124 li_X11_isShooter ⟨_, hA.ob (i := 0) rfl (by decide)⟩ rfl rfl rfl (Nat.le_of_ble_eq_true rfl) (Nat.le_of_ble_eq_true rfl) (k_isShooter o hH hA) (fun M hM => ?_)
    subst hM
    refine aj.if_eqB (tgt := 29) dX11_beats_13 rfl (fun c13 => ?_) (fun c13 => ?_)
    · refine aj.ldc2 dX11_beats_29 w1004 ?_
      exact aj.lret rfl dX11_beats_32 ⟨by rw [if_neg (fun z => c13 z.2.1)], Or.inl ⟨V, W, hA, hv, hw⟩⟩
    · have h_o := inR_bdS c13 (by omega)
      have h2_o := h_o.2
      refine aj.iload_n dX11_beats_16 rfl ?_
      refine aj.iload_n dX11_beats_17 rfl ?_
      refine aj.icmp_eq (tgt := 29) dX11_beats_18 rfl (fun c18 => ?_) (fun c18 => ?_)
      · refine aj.ldc2 dX11_beats_29 w1004 ?_
        exact aj.lret rfl dX11_beats_32 ⟨by rw [if_neg (fun z => z.2.2.1 c18)], Or.inl ⟨V, W, hA, hv, hw⟩⟩
      · refine aj.iload dX11_beats_21 rfl ?_
        refine aj.callS1 (d' := 0) (As := [.int qq]) (rest := []) dX11_beats_23 v_X11_128 w720 rfl rfl (Nat.le_of_ble_eq_true rfl) (Nat.le_of_ble_eq_true rfl) (k_isHalf _ qq) (fun M hM => ?_)
        subst hM
        refine aj.if_neB (tgt := 33) dX11_beats_26 rfl (fun c26 => ?_) (fun c26 => ?_)
        · have h_qq := inR_bd (n := 1) c26 (by decide)
          have h2_qq := h_qq.2
          refine aj.iload_n dX11_beats_33 rfl ?_
          refine aj.iconst (v := 1) dX11_beats_34 rfl ?_
          refine aj.icmp_lt (tgt := 43) dX11_beats_35 rfl (fun c35 => ?_) (fun c35 => ?_)
          · refine aj.ldc2 dX11_beats_43 w1005 ?_
            exact aj.lret rfl dX11_beats_46 ⟨by rw [if_pos (⟨c5, c13, c18, c26⟩ : _ ∧ _ ∧ _ ∧ _), if_neg (by unfold inR; simp only [Int32.lt_iff_toInt_lt, Int32.le_iff_toInt_le] at *; have e1 : (1 : Int32).toInt = 1 := rfl; have e3 : (3 : Int32).toInt = 3 := rfl; omega)], Or.inl ⟨V, W, hA, hv, hw⟩⟩
          · refine aj.iload_n dX11_beats_38 rfl ?_
            refine aj.iconst (v := 3) dX11_beats_39 rfl ?_
            refine aj.icmp_le (tgt := 47) dX11_beats_40 rfl (fun c40 => ?_) (fun c40 => ?_)
            · have c_n : inR n 1 3 := by unfold inR; simp only [Int32.lt_iff_toInt_lt, Int32.le_iff_toInt_le] at *; have e1 : (1 : Int32).toInt = 1 := rfl; have e3 : (3 : Int32).toInt = 3 := rfl; omega
              have h_n := inR_bd1 (n := 3) c_n (by decide)
              have h2_n := h_n.2.1
              have h3_n := h_n.2.2
              refine aj.aload_n dX11_beats_47 rfl ?_
              refine gMn hR1 hA w389 dX11_beats_48 ?_
              refine aj.ifnonnullN dX11_beats_51 ?_
              refine aj.aload_n dX11_beats_54 rfl ?_
              refine aj.new (ci := 3) (cq := (RX3, TX3, 4)) (fs := [.null, .null, .null, .long 0]) dX11_beats_55 rfl w1006 w1007 w140 (by decide) ?_
              have hNs : nB M0.2 M (z_nw M (.inr (3, [.null, .null, .null, .long 0]))) 0 [.inr (3, [.null, .null, .null, .long 0])] (.inr (3, [.null, .null, .null, .long 0])) [] := nB_start hA.1
              rw [hA.1]
              refine aj.dup dX11_beats_58 rfl ?_
              refine aj.callIN (d' := 1) (As := []) (rest := [.ref M0.2, .ref a]) dX11_beats_59 v_X11_257 rfl w1009 rfl rfl rfl (Nat.le_of_ble_eq_true rfl) (Nat.le_of_ble_eq_true rfl) (k_mtInit (b := M0.2) (i := 0) hNs) (fun r M hM => ?_)
              obtain ⟨rfl, hN⟩ := hM
              obtain ⟨M1, hA, hm, hM12, hM1⟩ := mk_match hA hfr hN
              have hbF := bW_new hb hcl hM1
              refine pX11_match (i := 0) rfl hA w389 dX11_beats_62 (fun M hA => ?_)
              refine aj.pick [0, 1, 2, 3, 4] rfl ?_
              have hT2 : va_up R 0 (va_up (R 0) 1 (some M0.2)) 0 0 = some T := by rw [va_up_self, va_up_ne _ _ (by decide)]; exact hT
              have hR2 : va_up R 0 (va_up (R 0) 1 (some M0.2)) 0 1 = some M0.2 := by rw [va_up_self, va_up_self]
              refine aj.mono (beats_t (F := M1) (t := M0.2) (mN s) h_s.1 (mN o) h_o.1 (mN n) h_n.1 qq (by omega) (by omega) h2_n (Or.inr hfr) hT2 hR2 hbF hS hB hv hm hA) (fun r M' hq => ⟨hq.1.trans (by rw [if_pos (⟨c5, c13, c18, c26⟩ : _ ∧ _ ∧ _ ∧ _), if_pos c_n]), Or.inr ?_⟩)
              obtain ⟨V1, M2, p1, q1, f1, g1, s1, w1, k1, k2, k3⟩ := hq.2
              exact ⟨M1, M2, p1, q1, f1, g1, s1, w1, ⟨V1, W, k1, k2, hw⟩, k3, hM12, hM1⟩
            · refine aj.ldc2 dX11_beats_43 w1005 ?_
              exact aj.lret rfl dX11_beats_46 ⟨by rw [if_pos (⟨c5, c13, c18, c26⟩ : _ ∧ _ ∧ _ ∧ _), if_neg (by unfold inR; simp only [Int32.lt_iff_toInt_lt, Int32.le_iff_toInt_le] at *; have e1 : (1 : Int32).toInt = 1 := rfl; have e3 : (3 : Int32).toInt = 3 := rfl; omega)], Or.inl ⟨V, W, hA, hv, hw⟩⟩
        · refine aj.ldc2 dX11_beats_29 w1004 ?_
          exact aj.lret rfl dX11_beats_32 ⟨by rw [if_neg (fun z => c26 z.2.2.2)], Or.inl ⟨V, W, hA, hv, hw⟩⟩
