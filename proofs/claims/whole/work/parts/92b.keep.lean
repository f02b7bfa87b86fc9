section G92b
variable {a b t n : Nat} {M M1 Mb : zM} {V0 V1 : Nat → Nat → Int32} {W0 W1 : Nat → Nat → Int64} {R R1 : Nat → Nat → Option Nat} {I I1 : Nat → Int32} {A A1 : Nat → Nat → Int32} {L L1 : Nat → Nat → Int64} {Tm Tm1 : Nat}
theorem bd_255 (x : Int32) : bd (x &&& 255) 255 := by
  obtain ⟨j, hj, e⟩ := pk_andE x (m := 255) 8 (by decide)
  have e1 : mN (x &&& 255) = j := by rw [e]; exact mN_nI (by omega)
  exact ⟨by rw [e1]; exact e, by rw [e1]; omega⟩
/-- numbers fed -/
theorem gS.feed {H : zM} {x1 x2 x3 x4 x5 : Int32} (h : gS a H V0 W0 R I A L Tm) (hv : ∀ q, q ≠ 0 → q ≠ 1 → V1 q = V0 q) (h00 : V1 0 0 = if mN (V0 0 0) + 20 ≤ 900 then nI (mN (V0 0 0) + 20) else V0 0 0) (hT : ∀ j, j < mN (V1 0 0) → V1 1 j = vp_nar .byte ((if mN (V0 0 0) + 20 ≤ 900 then va_cpy (fedV x1 x2 x3 x4 x5) (A 3) 0 (mN (V0 0 0)) 20 else A 3) j)) : gS a H V1 W0 R (if mN (I 5) + 20 ≤ 900 then va_up I 5 (nI (mN (I 5) + 20)) else I) (if mN (I 5) + 20 ≤ 900 then va_up A 3 (va_cpy (fedV x1 x2 x3 x4 x5) (A 3) 0 (mN (I 5)) 20) else A) L Tm := by
  obtain ⟨h1, ⟨g1, g2, g3⟩, h5, h6, ⟨h7, h8, h9, h10⟩, h11, h12, h13⟩ := h
  have q1 : stR V1 8 (A 1) := by
    unfold stR at g1 ⊢
    rw [hv 8 (by decide) (by decide), hv (8 + 1) (by decide) (by decide), hv (8 + 2) (by decide) (by decide)]
    exact g1
  have q2 : hisR V1 (A 1) := by
    obtain ⟨nx, hh⟩ := g2
    exact ⟨nx, his_V hh (fun q z1 z2 => hv q (by omega) (by omega)) (fun _ _ => rfl)⟩
  have q5 : trR V1 W0 A L := fun k hk4 => by
    have q := h5 k hk4
    rw [hv (57 + 2 * k) (by omega) (by omega)]
    exact q
  have q6 : ∀ i, i < 2 → (A 2 i = 0 ↔ R 47 i = none) ∧ ∀ T, R 47 i = some T → (∃ sl ol, bW a H T (gI A i) sl ol ∧ mOK (gI A i) sl ol Tm) ∧ stR V1 (65 + 3 * i) (gI A i) := fun i hi => by
    refine ⟨(h6 i hi).1, fun T hTi => ⟨((h6 i hi).2 T hTi).1, ?_⟩⟩
    have g := ((h6 i hi).2 T hTi).2
    unfold stR at g ⊢
    rw [hv (65 + 3 * i) (by omega) (by omega), hv (65 + 3 * i + 1) (by omega) (by omega), hv (65 + 3 * i + 2) (by omega) (by omega)]
    exact g
  have q2v : V1 2 = V0 2 := hv 2 (by decide) (by decide)
  rw [h7] at h00 hT
  have h89 := h8.2
  by_cases e : mN (I 5) + 20 ≤ 900
  · rw [if_pos e] at h00
    rw [if_pos e, if_pos e]
    have hT' : ∀ j, j < mN (V1 0 0) → V1 1 j = vp_nar .byte (va_cpy (fedV x1 x2 x3 x4 x5) (A 3) 0 (mN (I 5)) 20 j) := fun j hj => by have := hT j hj; rw [if_pos e] at this; exact this
    have em : mN (nI (mN (I 5) + 20)) = mN (I 5) + 20 := mN_nI (by omega)
    refine ⟨h1, ⟨q1, q2, g3⟩, q5, q6, ⟨by rw [va_up_self]; exact h00, by rw [va_up_self]; exact ⟨by rw [em], by rw [em]; exact e⟩, fun k hk => ?_, fun j hj => ?_⟩, ?_, ?_, by rw [q2v]; exact h13⟩
    · rw [va_up_self]
      by_cases z : mN (I 5) ≤ k ∧ k < mN (I 5) + 20
      · rw [pk_cpy_in z.1 z.2]
        exact bd_255 _
      · rw [pk_cpy_out (by omega)]
        exact h9 k hk
    · rw [va_up_self] at hj ⊢
      exact hT' j (by rw [h00]; exact hj)
    · rw [va_up_ne _ _ (by decide), q2v]; exact h11
    · rw [va_up_ne _ _ (by decide), q2v]; exact h12
  · rw [if_neg e] at h00
    rw [if_neg e, if_neg e]
    refine ⟨h1, ⟨q1, q2, g3⟩, q5, q6, ⟨h00, h8, h9, fun j hj => ?_⟩, by rw [q2v]; exact h11, by rw [q2v]; exact h12, by rw [q2v]; exact h13⟩
    have := hT j (by rw [h00]; exact hj)
    rw [if_neg e] at this
    exact this
/-- an image taken -/
theorem gS.image {H : zM} {i0 T : Nat} (h : gS a H V0 W0 R I A L Tm) (hi0 : i0 < 2) (hT : R 0 0 = some T) (e1 : A1 1 = va_cpy (A 1) (A 1) 0 (1040 * (i0 + 1)) 1040) (e2 : A1 2 = upd (A 2) i0 1) (eA : ∀ j, j ≠ 1 → j ≠ 2 → A1 j = A j) : gS a H (cpS V0 (65 + 3 * i0) 8) W0 (va_up R 47 (va_up (R 47) i0 (some T))) I A1 L Tm := by
  obtain ⟨⟨T', sl, ol, h1, h2, h3⟩, ⟨g1, g2, g3⟩, h5, h6, ⟨h7, h8, h9, h10⟩, h11, h12, h13⟩ := h
  have hTT : T' = T := Option.some.inj (h1.symm.trans hT)
  subst hTT
  have hk : ∀ k, k < 1040 → A1 1 k = A 1 k := fun k hk1 => by rw [e1]; exact pk_cpy_out (by omega)
  have hv : ∀ q, q < 65 → cpS V0 (65 + 3 * i0) 8 q = V0 q := fun q hq => cpS_n (by omega)
  refine ⟨⟨T', sl, ol, by rw [va_up_ne _ _ (by decide)]; exact h1, h2.cB (fun k hk1 => hk k (by omega)), mOK_c h3 (fun k hk1 => hk k (by omega))⟩, ⟨?_, ?_, fun i hi => ?_⟩, fun k hk4 => ?_, fun i hi => ?_, ⟨by rw [hv 0 (by decide)]; exact h7, h8, by rw [eA 3 (by decide) (by decide)]; exact h9, by rw [eA 3 (by decide) (by decide), hv 1 (by decide)]; exact h10⟩, by rw [hv 2 (by decide)]; exact h11, by rw [hv 2 (by decide)]; exact h12, by rw [hv 2 (by decide)]; exact h13⟩
  · unfold stR at g1 ⊢
    rw [hv 8 (by decide), hv (8 + 1) (by decide), hv (8 + 2) (by decide), hk 25 (by decide), hk 26 (by decide), hk 27 (by decide)]
    exact ⟨fun j hj => by rw [hk _ (by omega)]; exact g1.1 j hj, fun j hj => by rw [hk _ (by omega)]; exact g1.2.1 j hj, g1.2.2⟩
  · obtain ⟨nx, z1, z2, z3, z4, z5⟩ := g2
    have z2' := z2.2
    refine ⟨nx, z1, by rw [hk 28 (by decide)]; exact z2, by rw [hv 14 (by decide)]; exact z3, by rw [hv 14 (by decide), hk 28 (by decide)]; exact z4, fun i hi j hj => ?_⟩
    rw [hk 28 (by decide)] at hi ⊢
    rw [hk _ (by omega), ← z5 i hi j hj]
    exact sX_eq (hv _ (by omega)) (hv _ (by omega)) (hv _ (by omega))
  · have h28 := hisR_b g2
    have h10' := h28.2
    rw [hk 28 (by decide)] at hi
    have g := g3 i hi
    rw [hk _ (by omega), hk _ (by omega), hk _ (by omega)]
    exact ⟨fun s hs => by rw [hk _ (by omega)]; exact g.1 s hs, g.2⟩
  · have q := h5 k hk4
    rw [eA 32 (by decide) (by decide), eA 33 (by decide) (by decide), hv (57 + 2 * k) (by omega)]
    exact q
  · rw [e2, va_up_self]
    by_cases e : i = i0
    · subst e
      have hg : ∀ k, k < 1040 → gI A1 i k = A 1 k := fun k hk1 => by
        show A1 1 (1040 * (i + 1) + k) = _
        rw [e1, pk_cpy_in (by omega) (by omega)]
        exact congrArg (A 1) (by omega)
      refine ⟨⟨fun z => absurd z (by rw [pk_us]; decide), fun z => absurd z (by rw [va_up_self]; exact Option.some_ne_none T')⟩, fun Ti hTi => ?_⟩
      rw [va_up_self] at hTi
      cases hTi
      refine ⟨⟨sl, ol, h2.cB (fun k hk1 => hg k (by omega)), mOK_c h3 (fun k hk1 => hg k (by omega))⟩, ?_⟩
      unfold stR at g1 ⊢
      rw [cpS_0, cpS_1, cpS_2, hg 25 (by decide), hg 26 (by decide), hg 27 (by decide)]
      exact ⟨fun j hj => by rw [hg _ (by omega)]; exact g1.1 j hj, fun j hj => by rw [hg _ (by omega)]; exact g1.2.1 j hj, g1.2.2⟩
    · have hg : ∀ k, k < 1040 → gI A1 i k = gI A i k := fun k hk1 => by
        show A1 1 (1040 * (i + 1) + k) = _
        rw [e1]
        exact pk_cpy_out (by omega)
      rw [pk_un e, va_up_ne _ _ e]
      refine ⟨(h6 i hi).1, fun Ti hTi => ?_⟩
      obtain ⟨⟨sl', ol', k1, k2⟩, k3⟩ := (h6 i hi).2 Ti hTi
      refine ⟨⟨sl', ol', k1.cB (fun k hk1 => hg k (by omega)), mOK_c k2 (fun k hk1 => hg k (by omega))⟩, ?_⟩
      unfold stR at k3 ⊢
      rw [cpS_n (by omega), cpS_n (by omega), cpS_n (by omega), hg 25 (by decide), hg 26 (by decide), hg 27 (by decide)]
      exact ⟨fun j hj => by rw [hg _ (by omega)]; exact k3.1 j hj, fun j hj => by rw [hg _ (by omega)]; exact k3.2.1 j hj, k3.2.2⟩
/-- another butt is at hand: an image's, or one that was read -/
theorem gS.other {H : zM} {Tn : Nat} {sl ol : Option (List Nat)} (h : gS a H V0 W0 R I A L Tm) (hb : bW a H Tn (A1 1) sl ol) (hm : mOK (A1 1) sl ol Tm) (hS : stR V1 8 (A1 1)) (h28 : A1 1 28 = 0) (hk : ∀ k, 1040 ≤ k → A1 1 k = A 1 k) (eA : ∀ j, j ≠ 1 → j ≠ 4 → A1 j = A j) (hv : ∀ q, ¬ sc q → q ≠ 0 → q ≠ 1 → q ≠ 2 → q ≠ 3 → q ≠ 4 → q ≠ 5 → q ≠ 8 → q ≠ 9 → q ≠ 10 → q ≠ 14 → V1 q = V0 q) (h140 : V1 14 0 = V0 14 0) (h141 : V1 14 1 = 0) (ht : V1 0 0 = I1 5 ∧ bd (I1 5) 900 ∧ ∀ j, j < mN (I1 5) → V1 1 j = vp_nar .byte (A 3 j)) (h24 : V1 2 4 = I1 13) (h25 : V1 2 5 = I1 14) (h22 : bd (V1 2 2) 900) : gS a H V1 W0 (va_up R 0 (va_up (R 0) 0 (some Tn))) I1 A1 L Tm := by
  obtain ⟨-, ⟨g1, g2, g3⟩, h5, h6, ⟨h7, h8, h9, h10⟩, h11, h12, h13⟩ := h
  have hm0 : mN (A1 1 28) = 0 := by rw [h28]; rfl
  refine ⟨⟨Tn, sl, ol, by rw [va_up_self, va_up_self], hb, hm⟩, ⟨hS, ?_, fun i hi => absurd hi (by omega)⟩, fun k hk4 => ?_, fun i hi => ?_, ⟨ht.1, ht.2.1, by rw [eA 3 (by decide) (by decide)]; exact h9, by rw [eA 3 (by decide) (by decide)]; exact ht.2.2⟩, h24, h25, h22⟩
  · obtain ⟨nx, z1, z2, z3, z4, z5⟩ := g2
    exact ⟨nx, z1, by rw [h28]; exact ⟨rfl, by decide⟩, by rw [h140]; exact z3, by rw [h141, h28], fun i hi => absurd hi (by omega)⟩
  · have q := h5 k hk4
    rw [eA 32 (by decide) (by decide), eA 33 (by decide) (by decide), hv (57 + 2 * k) (nsc_t hk4).1 (by omega) (by omega) (by omega) (by omega) (by omega) (by omega) (by omega) (by omega) (by omega) (by omega)]
    exact q
  · have eg : gI A1 i = gI A i := by
      funext k
      exact hk _ (by omega)
    rw [eA 2 (by decide) (by decide), eg, va_up_ne _ _ (by decide)]
    refine ⟨(h6 i hi).1, fun T hTi => ⟨((h6 i hi).2 T hTi).1, ?_⟩⟩
    have g := ((h6 i hi).2 T hTi).2
    unfold stR at g ⊢
    have hq : ∀ q, 65 ≤ q → q < 71 → V1 q = V0 q := fun q z1 z2 => hv q (by unfold sc; omega) (by omega) (by omega) (by omega) (by omega) (by omega) (by omega) (by omega) (by omega) (by omega) (by omega)
    rw [hq (65 + 3 * i) (by omega) (by omega), hq (65 + 3 * i + 1) (by omega) (by omega), hq (65 + 3 * i + 2) (by omega) (by omega)]
    exact g
/-- an image brought back -/
theorem gS.restore {H : zM} {i0 : Nat} (h : gS a H V0 W0 R I A L Tm) (hi0 : i0 < 2) (hne : ¬ A 2 i0 = 0) (e1 : A1 1 = upd (va_cpy (A 1) (A 1) (1040 * (i0 + 1)) 0 1040) 28 0) (eA : ∀ j, j ≠ 1 → A1 j = A j) : gS a H (va_up (cpS V0 8 (65 + 3 * i0)) 14 (upd (cpS V0 8 (65 + 3 * i0) 14) 1 0)) W0 (va_up R 0 (va_up (R 0) 0 (R 47 i0))) I A1 L Tm := by
  have h6 := h.2.2.2.1 i0 hi0
  have h7 := h.2.2.2.2.1
  have h8 := h.2.2.2.2.2
  have hg : ∀ k, k < 1040 → k ≠ 28 → A1 1 k = gI A i0 k := fun k hk1 hk2 => by
    rw [e1, pk_un hk2, pk_cpy_in (by omega) (by omega)]
    exact congrArg (A 1) (by omega)
  match hR : R 47 i0 with
  | none => exact absurd (h6.1.mpr hR) hne
  | some Ti =>
    obtain ⟨⟨sl, ol, k1, k2⟩, k3⟩ := h6.2 Ti hR
    have hc : ∀ q, q ≠ 8 → q ≠ 9 → q ≠ 10 → cpS V0 8 (65 + 3 * i0) q = V0 q := fun q q8 q9 q10 => cpS_n (by omega)
    have hv : ∀ q, q ≠ 8 → q ≠ 9 → q ≠ 10 → q ≠ 14 → va_up (cpS V0 8 (65 + 3 * i0)) 14 (upd (cpS V0 8 (65 + 3 * i0) 14) 1 0) q = V0 q := fun q q8 q9 q10 q14 => by rw [va_up_ne _ _ q14]; exact hc q q8 q9 q10
    refine h.other (k1.cB (fun k hk1 => hg k (by omega) (by omega))) (mOK_c k2 (fun k hk1 => hg k (by omega) (by omega))) ?_ (by rw [e1]; exact pk_us) (fun k hk1 => by rw [e1, pk_un (by omega)]; exact pk_cpy_out (by omega)) (fun j j1 _ => eA j j1) (fun q _ _ _ _ _ _ _ q8 q9 q10 q14 => hv q q8 q9 q10 q14) (by rw [va_up_self, pk_un (by decide), hc 14 (by decide) (by decide) (by decide)]) (by rw [va_up_self, pk_us]) ⟨by rw [hv 0 (by decide) (by decide) (by decide) (by decide)]; exact h7.1, h7.2.1, by rw [hv 1 (by decide) (by decide) (by decide) (by decide)]; exact h7.2.2.2⟩ (by rw [hv 2 (by decide) (by decide) (by decide) (by decide)]; exact h8.1) (by rw [hv 2 (by decide) (by decide) (by decide) (by decide)]; exact h8.2.1) (by rw [hv 2 (by decide) (by decide) (by decide) (by decide)]; exact h8.2.2)
    unfold stR at k3 ⊢
    rw [va_up_ne _ _ (show 8 ≠ 14 by decide), va_up_ne _ _ (show 8 + 1 ≠ 14 by decide), va_up_ne _ _ (show 8 + 2 ≠ 14 by decide), cpS_0, cpS_1, cpS_2, hg 25 (by decide) (by decide), hg 26 (by decide) (by decide), hg 27 (by decide) (by decide)]
    exact ⟨fun j hj => by rw [hg _ (by omega) (by omega)]; exact k3.1 j hj, fun j hj => by rw [hg _ (by omega) (by omega)]; exact k3.2.1 j hj, k3.2.2⟩
/-- a text with a fault -/
theorem gS.fault {H : zM} (h : gS a H V0 W0 R I A L Tm) (e1 : A1 1 = A 1) (eA : ∀ j, j ≠ 1 → j ≠ 4 → A1 j = A j) (hv : ∀ q, ¬ sc q → q ≠ 0 → q ≠ 1 → q ≠ 2 → q ≠ 3 → q ≠ 4 → q ≠ 5 → V1 q = V0 q) (ht : V1 0 0 = I1 5 ∧ bd (I1 5) 900 ∧ ∀ j, j < mN (I1 5) → V1 1 j = vp_nar .byte (A 3 j)) (h24 : V1 2 4 = I1 13) (h25 : V1 2 5 = I1 14) (h22 : bd (V1 2 2) 900) : gS a H V1 W0 R I1 A1 L Tm := by
  obtain ⟨h1, ⟨g1, g2, g3⟩, h5, h6, ⟨h7, h8, h9, h10⟩, h11, h12, h13⟩ := h
  have hq : ∀ q, 6 ≤ q → ¬ sc q → V1 q = V0 q := fun q z1 z2 => hv q z2 (by omega) (by omega) (by omega) (by omega) (by omega) (by omega)
  have eg : ∀ i, gI A1 i = gI A i := fun i => by unfold gI; rw [e1]
  refine ⟨by rw [e1]; exact h1, ⟨?_, ?_, by rw [e1]; exact g3⟩, fun k hk4 => ?_, fun i hi => ?_, ⟨ht.1, ht.2.1, by rw [eA 3 (by decide) (by decide)]; exact h9, by rw [eA 3 (by decide) (by decide)]; exact ht.2.2⟩, h24, h25, h22⟩
  · unfold stR at g1 ⊢
    rw [e1, hq 8 (by decide) (by decide), hq (8 + 1) (by decide) (by decide), hq (8 + 2) (by decide) (by decide)]
    exact g1
  · rw [e1]
    obtain ⟨nx, hh⟩ := g2
    exact ⟨nx, his_V hh (fun q z1 z2 => hq q (by omega) (by unfold sc; omega)) (fun _ _ => rfl)⟩
  · have q := h5 k hk4
    rw [eA 32 (by decide) (by decide), eA 33 (by decide) (by decide), hq (57 + 2 * k) (by omega) (nsc_t hk4).1]
    exact q
  · rw [eA 2 (by decide) (by decide), eg i]
    refine ⟨(h6 i hi).1, fun T hTi => ⟨((h6 i hi).2 T hTi).1, ?_⟩⟩
    have g := ((h6 i hi).2 T hTi).2
    unfold stR at g ⊢
    rw [hq (65 + 3 * i) (by omega) (by unfold sc; omega), hq (65 + 3 * i + 1) (by omega) (by unfold sc; omega), hq (65 + 3 * i + 2) (by omega) (by unfold sc; omega)]
    exact g
end G92b
