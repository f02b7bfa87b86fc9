section G92
variable {a b t n : Nat} {M M1 Mb : zM} {V0 V1 : Nat → Nat → Int32} {W0 W1 : Nat → Nat → Int64} {R R1 : Nat → Nat → Option Nat} {I I1 : Nat → Int32} {A A1 : Nat → Nat → Int32} {L L1 : Nat → Nat → Int64} {Tm Tm1 : Nat}
theorem lwIs_c {B C : Nat → Int32} {j : Nat} {x : Option (List Nat)} {ty : Bool} {ws : List Nat} (hj : j < 2) (h : ∀ k, k < 28 ∨ (139 ≤ k ∧ k < 1040) → C k = B k) (hB : lwIs B j x ty ws) : lwIs C j x ty ws := by
  match x, hB with
  | none, hB => exact (h (7 + j) (by omega)).trans hB
  | some cs, hB =>
    obtain ⟨h1, ⟨h2, ⟨fr, h3, h4, h5⟩, h6⟩, h7⟩ := hB
    exact ⟨(h (7 + j) (by omega)).trans h1, ⟨(h (11 + j) (by omega)).trans h2, ⟨fr, (h (9 + j) (by omega)).trans h3, h4, fun k hk => (h _ (by omega)).trans (h5 k hk)⟩, h6⟩, h7⟩
theorem mOK_c {B C : Nat → Int32} {sl ol : Option (List Nat)} {T : Nat} (hB : mOK B sl ol T) (h : ∀ k, k < 28 ∨ (139 ≤ k ∧ k < 1040) → C k = B k) : mOK C sl ol T := by
  obtain ⟨⟨h1, h2, h3⟩, ⟨h4, h5, h6⟩, h7, h8, h9, h10, h11, h12, h13, h14, h15⟩ := hB
  refine ⟨?_, ?_, ?_, fun s hs => ?_, fun s hs => ?_, ?_, ?_, ?_, h13, lwIs_c (by decide) h h14, lwIs_c (by decide) h h15⟩
  · rw [h 1 (by omega), h 2 (by omega)]; exact ⟨h1, h2, h3⟩
  · rw [h 3 (by omega), h 4 (by omega), h 5 (by omega)]; exact ⟨h4, h5, h6⟩
  · rw [h 6 (by omega)]; exact h7
  · rw [h (13 + s) (by omega)]; exact h8 s hs
  · rw [h (21 + s) (by omega)]; exact h9 s hs
  · rw [h 25 (by omega)]; exact h10
  · rw [h 26 (by omega)]; exact h11
  · rw [h 27 (by omega)]; exact h12
/-- behind a deed -/
theorem gS.deed {H : zM} {B' : Nat → Int32} (h : gS a H V0 W0 R I A L Tm) (hS : stR V1 8 B') (hI : hisR V1 B') (hE : dE V0 V1) (hk : ∀ k, k < 17 ∨ 139 ≤ k → B' k = A 1 k) (hag : ∀ s, s < 4 → bd (B' (21 + s)) 9) (h25 : bd (B' 25) Tm1) (h26 : bd (B' 26) 9) (h27 : bd (B' 27) Tm1) (hg : gH B' Tm1) (hT : Tm ≤ Tm1) (hT1 : Tm1 < 2 ^ 24) (e1 : A1 1 = B') (eA : ∀ j, j ≠ 1 → j ≠ 18 → A1 j = A j) (e5 : I1 5 = I 5) (e13 : I1 13 = I 13) (e14 : I1 14 = I 14) : gS a H V1 W0 R I1 A1 L Tm1 := by
  obtain ⟨⟨T, sl, ol, h1, h2, h3⟩, -, h5, h6, ⟨h7, h8, h9, h10⟩, h11, h12, h13⟩ := h
  have eg : ∀ i, gI A1 i = gI A i := fun i => by
    unfold gI
    funext k
    rw [e1]
    exact hk _ (by omega)
  have hv : ∀ q, ¬ sc q → q ≠ 0 → q ≠ 8 → q ≠ 9 → q ≠ 10 → ¬ (14 ≤ q ∧ q ≤ 45) → V1 q = V0 q := hE.1
  refine ⟨⟨T, sl, ol, h1, by rw [e1]; exact h2.cB (fun k hk1 => hk k (Or.inl hk1)), by rw [e1]; exact mOK_st h3 hk hag h25 h26 h27 hT1⟩, by rw [e1]; exact ⟨hS, hI, hg⟩, fun k hk4 => ?_, fun i hi => ?_, ⟨?_, ?_, ?_, ?_⟩, ?_, ?_, ?_⟩
  · have q := h5 k hk4
    rw [eA 32 (by decide) (by decide), eA 33 (by decide) (by decide), hv (57 + 2 * k) (nsc_t hk4).1 (by omega) (by omega) (by omega) (by omega) (by omega)]
    exact q
  · rw [eA 2 (by decide) (by decide), eg i]
    refine ⟨(h6 i hi).1, fun Ti hTi => ?_⟩
    obtain ⟨⟨sl, ol, g1, g2⟩, g3⟩ := (h6 i hi).2 Ti hTi
    refine ⟨⟨sl, ol, g1, mOK_more g2 hT hT1⟩, ?_⟩
    unfold stR at g3 ⊢
    rw [hv (65 + 3 * i) (by unfold sc; omega) (by omega) (by omega) (by omega) (by omega) (by omega), hv (65 + 3 * i + 1) (by unfold sc; omega) (by omega) (by omega) (by omega) (by omega) (by omega), hv (65 + 3 * i + 2) (by unfold sc; omega) (by omega) (by omega) (by omega) (by omega) (by omega)]
    exact g3
  · rw [hE.2, e5]; exact h7
  · rw [e5]; exact h8
  · rw [eA 3 (by decide) (by decide)]; exact h9
  · rw [e5, eA 3 (by decide) (by decide), hv 1 (by decide) (by decide) (by decide) (by decide) (by decide) (by decide)]; exact h10
  · rw [e13, hv 2 (by decide) (by decide) (by decide) (by decide) (by decide) (by decide)]; exact h11
  · rw [e14, hv 2 (by decide) (by decide) (by decide) (by decide) (by decide) (by decide)]; exact h12
  · rw [hv 2 (by decide) (by decide) (by decide) (by decide) (by decide) (by decide)]; exact h13
theorem note_28 {C W : Nat → Int32} {nd : Nat} : noteF C W nd 28 = if nd = 10 then nI 10 else nI (nd + 1) := by
  unfold noteF
  split
  · exact pk_us
  · exact pk_us
theorem note_at {C W : Nat → Int32} {nd i j : Nat} (hn : nd ≤ 10) (hj : j < 11) (hi : i < (if nd = 10 then 10 else nd + 1)) : noteF C W nd (29 + 11 * i + j) = if nd = 10 then (if i = 9 then W j else C (29 + 11 * (i + 1) + j)) else (if i = nd then W j else C (29 + 11 * i + j)) := by
  unfold noteF
  by_cases e : nd = 10
  · rw [if_pos e] at hi
    rw [if_pos e, if_pos e, pk_un (by omega)]
    by_cases e9 : i = 9
    · rw [if_pos e9, pk_cpy_in (by omega) (by omega)]
      exact congrArg W (by omega)
    · rw [if_neg e9, pk_cpy_out (by omega), pk_un (by omega), pk_cpy_in (by omega) (by omega)]
      exact congrArg C (by omega)
  · rw [if_neg e] at hi
    rw [if_neg e, if_neg e, pk_un (by omega)]
    by_cases e9 : i = nd
    · rw [if_pos e9, pk_cpy_in (by omega) (by omega)]
      exact congrArg W (by omega)
    · rw [if_neg e9, pk_cpy_out (by omega)]
theorem gH_note {B C : Nat → Int32} {sl ol : Option (List Nat)} (h28 : bd (B 28) 10) (hB : mOK B sl ol Tm) (hg : gH B Tm) (hC : ∀ k, k < 17 ∨ 28 ≤ k → C k = B k) (hT : Tm ≤ Tm1) : gH (noteF C (stF B) (mN (B 28))) Tm1 := by
  obtain ⟨-, -, -, -, hag, h25, h26, h27, -⟩ := hB
  obtain ⟨nd, hnd⟩ : ∃ z, z = mN (B 28) := ⟨_, rfl⟩
  have hn : nd ≤ 10 := by rw [hnd]; exact h28.2
  rw [← hnd]
  intro i hi
  have hi2 : i < (if nd = 10 then 10 else nd + 1) := by
    rw [note_28] at hi
    by_cases e : nd = 10
    · rw [if_pos e, mN_nI (by decide)] at hi
      rw [if_pos e]; exact hi
    · rw [if_neg e, mN_nI (by omega)] at hi
      rw [if_neg e]; exact hi
  have key : ∀ j, j < 11 → noteF C (stF B) nd (29 + 11 * i + j) = B (17 + j) ∨ ∃ i', i' < mN (B 28) ∧ noteF C (stF B) nd (29 + 11 * i + j) = B (29 + 11 * i' + j) := fun j hj => by
    rw [note_at hn hj hi2]
    by_cases e : nd = 10
    · rw [if_pos e] at hi2 ⊢
      by_cases e9 : i = 9
      · rw [if_pos e9]; exact Or.inl rfl
      · rw [if_neg e9]; exact Or.inr ⟨i + 1, by omega, hC _ (by omega)⟩
    · rw [if_neg e] at hi2 ⊢
      by_cases e9 : i = nd
      · rw [if_pos e9]; exact Or.inl rfl
      · rw [if_neg e9]; exact Or.inr ⟨i, by omega, hC _ (by omega)⟩
  refine ⟨fun s hs => ?_, ?_, ?_, ?_⟩
  · rcases key (4 + s) (by omega) with z | ⟨i', hi', z⟩
    · rw [z, show 17 + (4 + s) = 21 + s by omega]; exact hag s hs
    · rw [z]; exact (hg i' hi').1 s hs
  · rcases key 8 (by decide) with z | ⟨i', hi', z⟩
    · rw [z]; exact bd_mono h25 hT
    · rw [z]; exact bd_mono (hg i' hi').2.1 hT
  · rcases key 9 (by decide) with z | ⟨i', hi', z⟩
    · rw [z]; exact h26
    · rw [z]; exact (hg i' hi').2.2.1
  · rcases key 10 (by decide) with z | ⟨i', hi', z⟩
    · rw [z]; exact bd_mono h27 hT
    · rw [z]; exact bd_mono (hg i' hi').2.2.2 hT
theorem hisR_b {V : Nat → Nat → Int32} {B : Nat → Int32} (h : hisR V B) : bd (B 28) 10 := by
  obtain ⟨nx, -, h2, -⟩ := h
  exact h2
/-- a deed that is noted -/
theorem gS.note {H : zM} {C : Nat → Int32} {sl ol : Option (List Nat)} (h : gS a H V0 W0 R I A L Tm) (hC : ∀ k, k < 17 ∨ 28 ≤ k → C k = A 1 k) (hCm : mOK C sl ol Tm1) (hS : stR V1 8 (noteF C (stF (A 1)) (mN (A 1 28)))) (hI : hisR V1 (noteF C (stF (A 1)) (mN (A 1 28)))) (hE : dE V0 V1) (hT : Tm ≤ Tm1) (e1 : A1 1 = noteF C (stF (A 1)) (mN (A 1 28))) (eA : ∀ j, j ≠ 1 → j ≠ 18 → A1 j = A j) (e5 : I1 5 = I 5) (e13 : I1 13 = I 13) (e14 : I1 14 = I 14) : gS a H V1 W0 R I1 A1 L Tm1 := by
  have h28 := hisR_b h.2.1.2.1
  have hg := h.2.1.2.2
  obtain ⟨T, sl0, ol0, -, -, hB⟩ := h.1
  have ho : ∀ k, k < 28 ∨ 139 ≤ k → noteF C (stF (A 1)) (mN (A 1 28)) k = C k := fun k hk => noteF_o hk h28.2
  obtain ⟨-, -, -, -, hag, h25, h26, h27, hlt, -⟩ := hCm
  exact h.deed hS hI hE (fun k hk => (ho k (by omega)).trans (hC k (by omega))) (fun s hs => by rw [ho _ (by omega)]; exact hag s hs) (by rw [ho 25 (by omega)]; exact h25) (by rw [ho 26 (by omega)]; exact h26) (by rw [ho 27 (by omega)]; exact h27) (gH_note h28 hB hg hC hT) hT hlt e1 eA e5 e13 e14
/-- a deed that was refused -/
theorem gS.nodeed {H : zM} (h : gS a H V0 W0 R I A L Tm) (hS : stR V1 8 (A 1)) (hI : hisR V1 (A 1)) (hE : dE V0 V1) (hT : Tm ≤ Tm1) (hT1 : Tm1 < 2 ^ 24) (e1 : A1 1 = A 1) (eA : ∀ j, j ≠ 1 → j ≠ 18 → A1 j = A j) (e5 : I1 5 = I 5) (e13 : I1 13 = I 13) (e14 : I1 14 = I 14) : gS a H V1 W0 R I1 A1 L Tm1 := by
  obtain ⟨T, sl0, ol0, -, -, hB⟩ := h.1
  obtain ⟨-, -, -, -, hag, h25, h26, h27, -⟩ := hB
  exact h.deed hS hI hE (fun _ _ => rfl) hag (bd_mono h25 hT) h26 (bd_mono h27 hT) (h.2.1.2.2.more hT) hT hT1 e1 eA e5 e13 e14
/-- undoing -/
theorem gS.undo {H : zM} {m : Nat} (h : gS a H V0 W0 R I A L Tm) (hm1 : 1 ≤ m) (hm : m ≤ mN (A 1 28)) (hS : stR V1 8 (va_cpy (upd (A 1) 28 (nI (mN (A 1 28) - m))) (upd (A 1) 28 (nI (mN (A 1 28) - m))) (29 + 11 * (mN (A 1 28) - m)) 17 11)) (hI : hisR V1 (va_cpy (upd (A 1) 28 (nI (mN (A 1 28) - m))) (upd (A 1) 28 (nI (mN (A 1 28) - m))) (29 + 11 * (mN (A 1 28) - m)) 17 11)) (hE : dE V0 V1) (hT : Tm ≤ Tm1) (hT1 : Tm1 < 2 ^ 24) (e1 : A1 1 = va_cpy (upd (A 1) 28 (nI (mN (A 1 28) - m))) (upd (A 1) 28 (nI (mN (A 1 28) - m))) (29 + 11 * (mN (A 1 28) - m)) 17 11) (eA : ∀ j, j ≠ 1 → j ≠ 18 → A1 j = A j) (e5 : I1 5 = I 5) (e13 : I1 13 = I 13) (e14 : I1 14 = I 14) : gS a H V1 W0 R I1 A1 L Tm1 := by
  have h28 := hisR_b h.2.1.2.1
  have h10 := h28.2
  have hg := h.2.1.2.2
  obtain ⟨z, hz⟩ : ∃ z, z = mN (A 1 28) - m := ⟨_, rfl⟩
  rw [← hz] at hS hI e1
  have hzl : z < mN (A 1 28) := by omega
  have hin : ∀ j, j < 11 → va_cpy (upd (A 1) 28 (nI z)) (upd (A 1) 28 (nI z)) (29 + 11 * z) 17 11 (17 + j) = A 1 (29 + 11 * z + j) := fun j hj => by
    rw [pk_cpy_in (by omega) (by omega), pk_un (by omega)]
    exact congrArg (A 1) (by omega)
  have hou : ∀ k, k < 17 ∨ 28 < k → va_cpy (upd (A 1) 28 (nI z)) (upd (A 1) 28 (nI z)) (29 + 11 * z) 17 11 k = A 1 k := fun k hk => by
    rw [pk_cpy_out (by omega), pk_un (by omega)]
  have g := hg z hzl
  refine h.deed hS hI hE (fun k hk => hou k (by omega)) (fun s hs => ?_) ?_ ?_ ?_ (fun i hi => ?_) hT hT1 e1 eA e5 e13 e14
  · rw [show 21 + s = 17 + (4 + s) by omega, hin (4 + s) (by omega)]; exact g.1 s hs
  · rw [show 25 = 17 + 8 by rfl, hin 8 (by decide)]; exact bd_mono g.2.1 hT
  · rw [show 26 = 17 + 9 by rfl, hin 9 (by decide)]; exact g.2.2.1
  · rw [show 27 = 17 + 10 by rfl, hin 10 (by decide)]; exact bd_mono g.2.2.2 hT
  · rw [pk_cpy_out (by omega), pk_us, mN_nI (by omega)] at hi
    rw [hou _ (by omega), hou _ (by omega), hou _ (by omega)]
    have gi := hg i (by omega)
    exact ⟨fun s hs => by rw [hou _ (by omega)]; exact gi.1 s hs, bd_mono gi.2.1 hT, gi.2.2.1, bd_mono gi.2.2.2 hT⟩
/-- trays -/
theorem gS.tray {H : zM} (h : gS a H V0 W0 R I A L Tm) (hv : ∀ q, ¬ (57 ≤ q ∧ q ≤ 64) → V1 q = V0 q) (ht : trR V1 W1 A1 L1) (eA : ∀ j, j ≠ 32 → j ≠ 33 → A1 j = A j) : gS a H V1 W1 R I A1 L1 Tm := by
  obtain ⟨h1, ⟨g1, g2, g3⟩, -, h6, h7, h8, h9, h10⟩ := h
  have eg : ∀ i, gI A1 i = gI A i := fun i => by unfold gI; rw [eA 1 (by decide) (by decide)]
  have e1 := eA 1 (by decide) (by decide)
  refine ⟨by rw [e1]; exact h1, ⟨?_, ?_, by rw [e1]; exact g3⟩, ht, fun i hi => ?_, ?_, by rw [hv 2 (by omega)]; exact h8, by rw [hv 2 (by omega)]; exact h9, by rw [hv 2 (by omega)]; exact h10⟩
  · unfold stR at g1 ⊢
    rw [e1, hv 8 (by omega), hv (8 + 1) (by omega), hv (8 + 2) (by omega)]
    exact g1
  · rw [e1]
    obtain ⟨nx, hh⟩ := g2
    exact ⟨nx, his_V hh (fun q q1 q2 => hv q (by omega)) (fun _ _ => rfl)⟩
  · rw [eA 2 (by decide) (by decide), eg i]
    refine ⟨(h6 i hi).1, fun T hT => ⟨((h6 i hi).2 T hT).1, ?_⟩⟩
    have g := ((h6 i hi).2 T hT).2
    unfold stR at g ⊢
    rw [hv (65 + 3 * i) (by omega), hv (65 + 3 * i + 1) (by omega), hv (65 + 3 * i + 2) (by omega)]
    exact g
  · rw [eA 3 (by decide) (by decide), hv 0 (by omega), hv 1 (by omega)]
    exact h7
end G92
