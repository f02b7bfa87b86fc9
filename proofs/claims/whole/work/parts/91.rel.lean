/-- a memory without the reference's cells and the match's -/
def hm (b t n : Nat) (M : zM) : zM := (fun x => if (b ≤ x ∧ x < b + 20) ∨ (t ≤ x ∧ x < t + n) then none else M.1 x, M.2)
/-- an image's numbers; states that are kept -/
def gI (A : Nat → Nat → Int32) (i : Nat) : Nat → Int32 := fun k => A 1 (1040 * (i + 1) + k)
def gH (B : Nat → Int32) (Tm : Nat) : Prop := ∀ i, i < mN (B 28) → (∀ s, s < 4 → bd (B (29 + 11 * i + (4 + s))) 9) ∧ bd (B (29 + 11 * i + 8)) Tm ∧ bd (B (29 + 11 * i + 9)) 9 ∧ bd (B (29 + 11 * i + 10)) Tm
/-- the class's numbers are the reference's -/
def gS (a : Nat) (H : zM) (V0 : Nat → Nat → Int32) (W0 : Nat → Nat → Int64) (R : Nat → Nat → Option Nat) (I : Nat → Int32) (A : Nat → Nat → Int32) (L : Nat → Nat → Int64) (Tm : Nat) : Prop :=
  (∃ T sl ol, R 0 0 = some T ∧ bW a H T (A 1) sl ol ∧ mOK (A 1) sl ol Tm) ∧ (stR V0 8 (A 1) ∧ hisR V0 (A 1) ∧ gH (A 1) Tm) ∧ trR V0 W0 A L ∧ (∀ i, i < 2 → (A 2 i = 0 ↔ R 47 i = none) ∧ ∀ T, R 47 i = some T → (∃ sl ol, bW a H T (gI A i) sl ol ∧ mOK (gI A i) sl ol Tm) ∧ stR V0 (65 + 3 * i) (gI A i)) ∧ (V0 0 0 = I 5 ∧ bd (I 5) 900 ∧ (∀ k, k < 900 → bd (A 3 k) 255) ∧ ∀ j, j < mN (I 5) → V0 1 j = vp_nar .byte (A 3 j)) ∧ V0 2 4 = I 13 ∧ V0 2 5 = I 14 ∧ bd (V0 2 2) 900
/-- both objects in one memory -/
def gM (a b t n : Nat) (M : zM) (V0 : Nat → Nat → Int32) (W0 : Nat → Nat → Int64) (R : Nat → Nat → Option Nat) (I : Nat → Int32) (A : Nat → Nat → Int32) (L : Nat → Nat → Int64) : Prop := b = a + 87 ∧ b + 20 ≤ M.2 ∧ (∀ x, M.2 ≤ x → M.1 x = none) ∧ kW a M M V0 W0 R ∧ mW b M M I A L ∧ ((n = 0 ∧ R 0 1 = none) ∨ (n = 4 ∧ R 0 1 = some t ∧ b + 20 ≤ t ∧ t + 4 ≤ M.2 ∧ ∃ p q f g s w, mt M M t p q p q f g s w))
def kp (a : Nat) (H H' : zM) : Prop := ∀ q, kOut a q → (∃ c, H.1 q = some c) → H'.1 q = H.1 q
section G91
variable {a b t n : Nat} {M M1 Mb : zM} {V0 V1 : Nat → Nat → Int32} {W0 W1 : Nat → Nat → Int64} {R R1 : Nat → Nat → Option Nat} {I I1 : Nat → Int32} {A A1 : Nat → Nat → Int32} {L L1 : Nat → Nat → Int64} {Tm Tm1 : Nat}
theorem gS.kp {H H' : zM} (h : gS a H V0 W0 R I A L Tm) (hk : kp a H H') : gS a H' V0 W0 R I A L Tm := by
  obtain ⟨⟨T, sl, ol, h1, h2, h3⟩, h4, h5, h6, h7⟩ := h
  exact ⟨⟨T, sl, ol, h1, h2.of hk, h3⟩, h4, h5, fun i hi => ⟨(h6 i hi).1, fun T hT => by
    obtain ⟨⟨sl, ol, g1, g2⟩, g3⟩ := (h6 i hi).2 T hT
    exact ⟨⟨sl, ol, g1.of hk, g2⟩, g3⟩⟩, h7⟩
theorem kp.trans {H H1 H2 : zM} (h : kp a H H1) (h' : kp a H1 H2) : kp a H H2 := fun q hq hc => by
  have e := h q hq hc
  rw [← e]
  exact h' q hq (by rw [e]; exact hc)
theorem hm_some {q : Nat} {c : zC} (h : (hm b t n M).1 q = some c) : ¬ (b ≤ q ∧ q < b + 20) ∧ ¬ (t ≤ q ∧ q < t + n) ∧ M.1 q = some c := by
  have h' : (if (b ≤ q ∧ q < b + 20) ∨ (t ≤ q ∧ q < t + n) then none else M.1 q) = some c := h
  by_cases e : (b ≤ q ∧ q < b + 20) ∨ (t ≤ q ∧ q < t + n)
  · rw [if_pos e] at h'
    cases h'
  · rw [if_neg e] at h'
    exact ⟨fun z => e (Or.inl z), fun z => e (Or.inr z), h'⟩
theorem hm_eq {q : Nat} (h1 : ¬ (b ≤ q ∧ q < b + 20)) (h2 : ¬ (t ≤ q ∧ q < t + n)) : (hm b t n M).1 q = M.1 q := if_neg (fun z => z.elim h1 h2)
theorem hm_bW {T : Nat} {B : Nat → Int32} {sl ol : Option (List Nat)} (h : bW a (hm b t n M) T B sl ol) : bW a M T B sl ol := h.of (fun q _ hc => by
  obtain ⟨c, hc⟩ := hc
  obtain ⟨h1, h2, h3⟩ := hm_some hc
  rw [hm_eq h1 h2])
theorem mW_at {M0 : zM} (h : mW b M0 M I A L) (hq : ∀ q, b ≤ q → q < b + 20 → M1.1 q = M.1 q) : mW b M1 M1 I A L := by
  obtain ⟨u, v, w, c0, ci, -, -⟩ := h
  exact ⟨u, v, w, (hq b (by omega) (by omega)).trans c0, fun i h1 h2 => (hq (b + i) (by omega) (by omega)).trans (ci i h1 h2), rfl, fun _ _ => rfl⟩
theorem mt_at {F : zM} {p q : Nat} {f g s : Nat → Int32} {w : Int64} (h : mt F M t p q p q f g s w) (hq : ∀ x, t ≤ x → x < t + 4 → M1.1 x = M.1 x) : mt M1 M1 t p q p q f g s w := by
  obtain ⟨-, h2, h3, h4, h5, h6⟩ := h
  exact ⟨⟨rfl, fun _ _ => rfl⟩, h2, (hq t (by omega) (by omega)).trans h3, h4.of (hq p (by omega) (by omega)), h5.of (hq q (by omega) (by omega)), h6.of (hq (t + 3) (by omega) (by omega))⟩
/-- a call of the class -/
theorem gM.cB (h : gM a b t n M V0 W0 R I A L) (hk : kW a Mb M1 V1 W1 R1) (hx : ∀ x, x < M.2 → Mb.1 x = M.1 x) (hle : M.2 ≤ Mb.2) (hn : ∀ x, Mb.2 ≤ x → Mb.1 x = none) (hR : R1 0 1 = R 0 1) : gM a b t n M1 V1 W1 R1 I A L ∧ kp a (hm b t n M) (hm b t n M1) := by
  obtain ⟨hb, hb2, hno, -, hmW, hmt⟩ := h
  obtain ⟨V, W, ⟨e2, eo, ek⟩, hv, hw⟩ := hk
  have e : ∀ q, kOut a q → q < M.2 → M1.1 q = M.1 q := fun q hq h2 => (eo q hq).trans (hx q h2)
  refine ⟨⟨hb, by omega, fun x hx1 => (eo x (Or.inr (Or.inl (by omega)))).trans (hn x (by omega)), ⟨V, W, ⟨rfl, fun _ _ => rfl, ek⟩, hv, hw⟩, mW_at hmW (fun q h1 h2 => e q (Or.inr (Or.inl (by omega))) (by omega)), ?_⟩, fun q hq hc => ?_⟩
  · rcases hmt with ⟨h1, h2⟩ | ⟨h1, h2, h3, h4, p, q, f, g, s, w, h5⟩
    · exact Or.inl ⟨h1, hR.trans h2⟩
    · exact Or.inr ⟨h1, hR.trans h2, h3, by omega, p, q, f, g, s, w, mt_at h5 (fun x x1 x2 => e x (Or.inr (Or.inl (by omega))) (by omega))⟩
  · obtain ⟨c, hc⟩ := hc
    obtain ⟨h1, h2, h3⟩ := hm_some hc
    rw [hm_eq h1 h2, hm_eq h1 h2]
    refine e q hq (Nat.lt_of_not_le (fun z => ?_))
    rw [hno q z] at h3
    cases h3
theorem gM.c (h : gM a b t n M V0 W0 R I A L) (hk : kW a M M1 V1 W1 R1) (hR : R1 0 1 = R 0 1) : gM a b t n M1 V1 W1 R1 I A L ∧ kp a (hm b t n M) (hm b t n M1) := h.cB hk (fun _ _ => rfl) (Nat.le_refl _) h.2.2.1 hR
/-- a call of the reference -/
theorem gM.r (h : gM a b t n M V0 W0 R I A L) (hk : mW b M M1 I1 A1 L1) : gM a b t n M1 V0 W0 R I1 A1 L1 ∧ kp a (hm b t n M) (hm b t n M1) := by
  obtain ⟨hb, hb2, hno, hkW, -, hmt⟩ := h
  have hk' := hk
  obtain ⟨u, v, w, c0, ci, e2, eo⟩ := hk
  obtain ⟨V, W, ⟨-, -, ek⟩, hv, hw⟩ := hkW
  refine ⟨⟨hb, by omega, fun x hx1 => (eo x (by omega)).trans (hno x (by omega)), ⟨V, W, ⟨rfl, fun _ _ => rfl, fun i hi => ?_⟩, hv, hw⟩, mW_at hk' (fun _ _ _ => rfl), ?_⟩, fun q hq hc => ?_⟩
  · have hi2 := hi
    unfold kIn at hi2
    rw [eo (a + i) (by omega)]
    exact ek i hi
  · rcases hmt with ⟨h1, h2⟩ | ⟨h1, h2, h3, h4, p, q, f, g, s, w, h5⟩
    · exact Or.inl ⟨h1, h2⟩
    · exact Or.inr ⟨h1, h2, h3, by omega, p, q, f, g, s, w, mt_at h5 (fun x x1 x2 => eo x (by omega))⟩
  · obtain ⟨c, hc⟩ := hc
    obtain ⟨h1, h2, h3⟩ := hm_some hc
    rw [hm_eq h1 h2, hm_eq h1 h2]
    exact eo q (by omega)
/-- a match with one made before -/
theorem gM.bS {p q : Nat} {f g s : Nat → Int32} {w : Int64} (h : gM a b t 4 M V0 W0 R I A L) (hk : kW a Mb M1 V0 W0 R) (hm' : mt M Mb t p q p q f g s w) (hR : R 0 1 = some t) : gM a b t 4 M1 V0 W0 R I A L ∧ kp a (hm b t 4 M) (hm b t 4 M1) := by
  obtain ⟨hb, hb2, hno, -, hmW, hmt⟩ := h
  obtain ⟨V, W, ⟨e2, eo, ek⟩, hv, hw⟩ := hk
  have hf := hm'.1
  have hF2 := hf.1
  rcases hmt with ⟨h1, h2⟩ | ⟨h1, h2, h3, h4, -⟩
  · rw [hR] at h2
    cases h2
  · have e : ∀ x, kOut a x → (x < t ∨ t + 4 ≤ x) → M1.1 x = M.1 x := fun x hx h2 => (eo x hx).trans (hf.2 x h2)
    refine ⟨⟨hb, by omega, fun x hx1 => (e x (Or.inr (Or.inl (by omega))) (by omega)).trans (hno x (by omega)), ⟨V, W, ⟨rfl, fun _ _ => rfl, ek⟩, hv, hw⟩, mW_at hmW (fun q h1 h2 => e q (Or.inr (Or.inl (by omega))) (by omega)), Or.inr ⟨rfl, hR, h3, by omega, p, q, f, g, s, w, mt_at hm' (fun x x1 x2 => eo x (Or.inr (Or.inl (by omega))))⟩⟩, fun x hx hc => ?_⟩
    obtain ⟨c, hc⟩ := hc
    obtain ⟨g1, g2, g3⟩ := hm_some hc
    rw [hm_eq g1 g2, hm_eq g1 g2]
    exact e x hx (by omega)
/-- the first match -/
theorem gM.bN {F : zM} {p q : Nat} {f g s : Nat → Int32} {w : Int64} (h : gM a b t 0 M V0 W0 R I A L) (hk : kW a Mb M1 V0 W0 (va_up R 0 (va_up (R 0) 1 (some M.2)))) (hm' : mt F Mb M.2 p q p q f g s w) (hF2 : F.2 = M.2 + 4) (hF : ∀ x, x < M.2 → F.1 x = M.1 x) : gM a b M.2 4 (trM M1) V0 W0 (va_up R 0 (va_up (R 0) 1 (some M.2))) I A L ∧ kp a (hm b t 0 M) (hm b M.2 4 (trM M1)) := by
  obtain ⟨hb, hb2, hno, -, hmW, hmt⟩ := h
  obtain ⟨V, W, ⟨e2, eo, ek⟩, hv, hw⟩ := hk
  have hf := hm'.1
  have hf2 := hf.1
  have hM1 : M1.2 = M.2 + 4 := by omega
  have ht : ∀ x, x < M1.2 → (trM M1).1 x = M1.1 x := fun x hx => if_pos hx
  have e : ∀ x, kOut a x → x < M.2 → (trM M1).1 x = M.1 x := fun x hx h2 => (ht x (by omega)).trans ((eo x hx).trans ((hf.2 x (by omega)).trans (hF x h2)))
  refine ⟨⟨hb, by show b + 20 ≤ M1.2; omega, fun x hx1 => if_neg (Nat.not_lt.mpr hx1), ⟨V, W, ⟨rfl, fun _ _ => rfl, fun i hi => ?_⟩, hv, hw⟩, mW_at hmW (fun q h1 h2 => e q (Or.inr (Or.inl (by omega))) (by omega)), Or.inr ⟨rfl, by rw [va_up_self, va_up_self], by omega, by show M.2 + 4 ≤ M1.2; omega, p, q, f, g, s, w, mt_at hm' (fun x x1 x2 => (ht x (by omega)).trans (eo x (Or.inr (Or.inl (by omega)))))⟩⟩, fun x hx hc => ?_⟩
  · have hi2 := hi
    unfold kIn at hi2
    rw [ht (a + i) (by omega)]
    exact ek i hi
  · obtain ⟨c, hc⟩ := hc
    obtain ⟨g1, g2, g3⟩ := hm_some hc
    have hx2 : x < M.2 := Nat.lt_of_not_le (fun z => by rw [hno x z] at g3; cases g3)
    rw [hm_eq g1 g2, hm_eq g1 (by omega)]
    exact e x hx hx2
theorem gM.tr (h : gM a b t n M V0 W0 R I A L) : trM M = M := by
  obtain ⟨-, -, hno, -⟩ := h
  unfold trM
  rw [show (fun x => if x < M.2 then M.1 x else none) = M.1 from funext (fun x => by
    by_cases e : x < M.2
    · exact if_pos e
    · rw [if_neg e, hno x (by omega)])]
/-- what the class's contracts ask for -/
theorem gS.cH (h : gS a (hm b t n M) V0 W0 R I A L Tm) : ∃ T sl ol, cH a M V0 R T (A 1) sl ol Tm := by
  obtain ⟨⟨T, sl, ol, h1, h2, h3⟩, h4, -⟩ := h
  exact ⟨T, sl, ol, h1, hm_bW h2, h4.1, h3⟩
theorem gS.cong {H : zM} (h : gS a H V0 W0 R I A L Tm) (e5 : I1 5 = I 5) (e13 : I1 13 = I 13) (e14 : I1 14 = I 14) (e1 : A1 1 = A 1) (e2 : A1 2 = A 2) (e3 : A1 3 = A 3) (e32 : A1 32 = A 32) (e33 : A1 33 = A 33) (e34 : L1 34 = L 34) : gS a H V0 W0 R I1 A1 L1 Tm := by
  obtain ⟨h1, h4, h5, h6, h7, h8, h9, h10⟩ := h
  have eg : ∀ i, gI A1 i = gI A i := fun i => by unfold gI; rw [e1]
  refine ⟨by rw [e1]; exact h1, by rw [e1]; exact h4, ?_, fun i hi => ?_, by rw [e5, e3]; exact h7, by rw [e13]; exact h8, by rw [e14]; exact h9, h10⟩
  · unfold trR at h5 ⊢
    rw [e32, e33, e34]
    exact h5
  · rw [e2, eg i]
    exact h6 i hi
theorem gH.more {B : Nat → Int32} (h : gH B Tm) (hT : Tm ≤ Tm1) : gH B Tm1 := fun i hi => ⟨(h i hi).1, bd_mono (h i hi).2.1 hT, (h i hi).2.2.1, bd_mono (h i hi).2.2.2 hT⟩
theorem gS.more {H : zM} (h : gS a H V0 W0 R I A L Tm) (hT : Tm ≤ Tm1) (hT1 : Tm1 < 2 ^ 24) : gS a H V0 W0 R I A L Tm1 := by
  obtain ⟨⟨T, sl, ol, h1, h2, h3⟩, ⟨g1, g2, g3⟩, h5, h6, h7⟩ := h
  exact ⟨⟨T, sl, ol, h1, h2, mOK_more h3 hT hT1⟩, ⟨g1, g2, g3.more hT⟩, h5, fun i hi => ⟨(h6 i hi).1, fun T hTi => by
    obtain ⟨⟨sl, ol, k1, k2⟩, k3⟩ := (h6 i hi).2 T hTi
    exact ⟨⟨sl, ol, k1, mOK_more k2 hT hT1⟩, k3⟩⟩, h7⟩
end G91
