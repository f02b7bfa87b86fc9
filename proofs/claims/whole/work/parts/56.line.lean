def rLw (F : Nat → Int32) (acc : List Nat) (j : Nat) (o : Option (List Nat)) : Prop := match o with
  | none => F (7 + j) = 0
  | some cs => F (7 + j) = 1 ∧ F (11 + j) = nI cs.length ∧ ∃ fr, F (9 + j) = nI fr ∧ fr + cs.length ≤ acc.length ∧ ∀ (k : Nat) (h : k < cs.length), acc[fr + k]? = some cs[k]
def rDf (I0 : Nat → Int32) (A0 : Nat → Nat → Int32) (I1 : Nat → Int32) (A1 : Nat → Nat → Int32) (acc : List Nat) (D : dT) : Prop := (∀ j, j ≠ 6 → j ≠ 7 → j ≠ 9 → j ≠ 10 → j ≠ 11 → j ≠ 12 → j ≠ 15 → I1 j = I0 j) ∧ (∀ j, j ≠ 4 → A1 j = A0 j) ∧ ((∃ cs ts, D.1 = .inr (cs, ts)) → (∀ k, k < 29 → k < 7 ∨ 13 ≤ k → A1 4 k = nI (D.2.1 k)) ∧ D.2.1 6 ≤ 4 ∧ rLw (A1 4) acc 0 D.2.2.1 ∧ rLw (A1 4) acc 1 D.2.2.2)
/-- the reference, having read so far -/
def rD (b : Nat) (M0 M : zM) (I0 : Nat → Int32) (A0 : Nat → Nat → Int32) (L : Nat → Nat → Int64) (tx : Nat → Nat) (n : Nat) (D : dT) : Prop := ∃ I1 A1 acc, rW b M0 M I1 A1 L tx n (pLift acc D.1) ∧ rDf I0 A0 I1 A1 acc D
theorem rLw.cong {F F' : Nat → Int32} {acc : List Nat} {j : Nat} {o : Option (List Nat)} (h : rLw F acc j o) (h7 : F' (7 + j) = F (7 + j)) (h9 : F' (9 + j) = F (9 + j)) (h11 : F' (11 + j) = F (11 + j)) (x : List Nat) : rLw F' (acc ++ x) j o := by
  match o, h with
  | none, h => exact h7.trans h
  | some cs, h =>
    obtain ⟨h1, h2, fr, h3, h4, h5⟩ := h
    refine ⟨h7.trans h1, h11.trans h2, fr, h9.trans h3, by rw [List.length_append]; omega, fun k hk => ?_⟩
    rw [List.getElem?_append_left (by omega)]
    exact h5 k hk
theorem rLw.cong0 {F F' : Nat → Int32} {acc : List Nat} {j : Nat} {o : Option (List Nat)} (h : rLw F acc j o) (h7 : F' (7 + j) = F (7 + j)) (h9 : F' (9 + j) = F (9 + j)) (h11 : F' (11 + j) = F (11 + j)) : rLw F' acc j o := by
  have := h.cong h7 h9 h11 []
  rw [List.append_nil] at this
  exact this
theorem pLift_in {pre : List Nat} {S : pS} {cs : List Nat} {ts : List tkT} (h : S = .inr (cs, ts)) : pLift pre S = .inr (pre ++ cs, ts) := by rw [h]; rfl
theorem pLift_in' {pre : List Nat} {S : pS} : (∃ cs ts, S = .inr (cs, ts)) → ∃ cs ts, pLift pre S = .inr (cs, ts) := fun ⟨cs, ts, h⟩ => ⟨_, _, pLift_in h⟩
section RD
variable {b : Nat} {M0 M : zM} {I0 I1 : Nat → Int32} {A0 A1 : Nat → Nat → Int32} {L : Nat → Nat → Int64} {tx : Nat → Nat} {n : Nat} {acc : List Nat} {D : dT}
theorem rDf.mk (hf : rDf I0 A0 I1 A1 acc D) {A2 : Nat → Nat → Int32} {D' : dT} (hA : ∀ j, j ≠ 4 → A2 j = A1 j) (h : (∃ cs ts, D'.1 = .inr (cs, ts)) → (∃ cs ts, D.1 = .inr (cs, ts)) ∧ (∀ k, k < 29 → k < 7 ∨ 13 ≤ k → A2 4 k = nI (D'.2.1 k)) ∧ D'.2.1 6 ≤ 4) (hl : ∀ k, 7 ≤ k → k < 13 → A2 4 k = A1 4 k) (h2 : D'.2.2 = D.2.2) : rDf I0 A0 I1 A2 acc D' := by
  refine ⟨hf.1, fun j hj => (hA j hj).trans (hf.2.1 j hj), fun hS => ?_⟩
  obtain ⟨h1, h3, h4⟩ := h hS
  obtain ⟨g1, g2, g3, g4⟩ := hf.2.2 h1
  rw [h2]
  exact ⟨h3, h4, g3.cong0 (hl _ (by decide) (by decide)) (hl _ (by decide) (by decide)) (hl _ (by decide) (by decide)), g4.cong0 (hl _ (by decide) (by decide)) (hl _ (by decide) (by decide)) (hl _ (by decide) (by decide))⟩
theorem dLine_0 (h : ¬ pHd D.1 = 2 ∧ ¬ pHd D.1 = 5 ∧ ¬ pHd D.1 = 7 ∧ ¬ pHd D.1 = 8 ∧ ¬ pHd D.1 = 9) : dLine D = (pFail 2 D.1, D.2) := by
  unfold dLine
  rw [if_neg h.1, if_neg h.2.1, if_neg h.2.2.1, if_neg h.2.2.2.1, if_neg h.2.2.2.2]
theorem rD_fail {k : Nat} (hf : rDf I0 A0 I1 A1 acc D) (hR : rW b M0 M I1 A1 L tx n (pFail k (pLift acc D.1))) (e : dLine D = (pFail k D.1, D.2)) : rD b M0 M I0 A0 L tx n (dLine D) := by
  rw [e]
  refine ⟨I1, A1, acc, by rw [pFail_fr] at hR; exact hR, hf.mk (fun _ _ => rfl) (fun ⟨cs, ts, hS⟩ => (pFail_no hS).elim) (fun _ _ _ => rfl) rfl⟩
theorem rD_top (hf : rDf I0 A0 I1 A1 acc D) (h2 : pHd D.1 = 2) (hT : rT b M0 M I1 A1 L tx n (dTop3 (pLift acc D.1)) (fun k => k = 3 ∨ k = 4 ∨ k = 5) (fun F => F 3 = nI (pNm (pNext (pLift acc D.1))) ∧ F 4 = nI (pNm (pExp 3 (dTop1 (pLift acc D.1)))) ∧ F 5 = nI (pNm (pExp 4 (dTop2 (pLift acc D.1)))))) : rD b M0 M I0 A0 L tx n (dLine D) := by
  have e : dLine D = (dTop3 D.1, dTop D.1 D.2.1, D.2.2) := if_pos h2
  obtain ⟨A2, hR, hA, hk, hP⟩ := hT
  have e3 : dTop3 (pLift acc D.1) = pLift acc (dTop3 D.1) := by
    show pTake 0 99 (pExp 4 (pTake 0 99 (pExp 3 (pTake 0 99 (pNext (pLift acc D.1)))))) = _
    rw [pNext_fr, pTake_fr, pExp_fr, pTake_fr, pExp_fr, pTake_fr]
  have e2 : pNm (pExp 4 (dTop2 (pLift acc D.1))) = pNm (pExp 4 (dTop2 D.1)) := by
    show pNm (pExp 4 (pTake 0 99 (pExp 3 (pTake 0 99 (pNext (pLift acc D.1)))))) = _
    rw [pNext_fr, pTake_fr, pExp_fr, pTake_fr, pExp_fr, pLift_nm]
  have e1 : pNm (pExp 3 (dTop1 (pLift acc D.1))) = pNm (pExp 3 (dTop1 D.1)) := by
    show pNm (pExp 3 (pTake 0 99 (pNext (pLift acc D.1)))) = _
    rw [pNext_fr, pTake_fr, pExp_fr, pLift_nm]
  have e0 : pNm (pNext (pLift acc D.1)) = pNm (pNext D.1) := by rw [pNext_fr, pLift_nm]
  rw [e3] at hR hP
  rw [e]
  refine ⟨I1, A2, acc, hR, hf.mk hA (fun hS => ?_) (fun k h7 h13 => hk k (by omega)) rfl⟩
  obtain ⟨cs, ts, hS1⟩ := hS
  obtain ⟨c3, t3, d3⟩ := (pTake_in (show pTake 0 99 _ = _ from hS1)).2.2.2
  obtain ⟨c2, t2, d2⟩ := pExp_in (by decide) d3
  obtain ⟨c1, t1, d1⟩ := (pTake_in d2).2.2.2
  obtain ⟨c0, t0, d0⟩ := pExp_in (by decide) d1
  obtain ⟨cx, tx', dx'⟩ := (pTake_in d0).2.2.2
  obtain ⟨cy, t, ty, dy, -⟩ := pHd_in h2 (by decide)
  have hI := hf.2.2 ⟨_, _, dy⟩
  obtain ⟨p1, p2, p3⟩ := hP (pLift_in' ⟨_, _, hS1⟩)
  refine ⟨⟨_, _, dy⟩, fun k hk1 hk2 => ?_, ?_⟩
  · show A2 4 k = nI (nu (nu (nu _ 3 _) 4 _) 5 _ k)
    by_cases q5 : k = 5
    · subst q5; rw [nu_s, p3, e2]
    · rw [nu_n q5]
      by_cases q4 : k = 4
      · subst q4; rw [nu_s, p2, e1]
      · rw [nu_n q4]
        by_cases q3 : k = 3
        · subst q3; rw [nu_s, p1, e0]
        · rw [nu_n q3, hk k (by omega)]; exact hI.1 k hk1 hk2
  · have e6 : dTop D.1 D.2.1 6 = D.2.1 6 := by unfold dTop; rw [nu_n (by decide), nu_n (by decide), nu_n (by decide)]
    show dTop D.1 D.2.1 6 ≤ 4
    rw [e6]
    exact hI.2.1
theorem rD_sho (hf : rDf I0 A0 I1 A1 acc D) (h2 : pHd D.1 = 5) (hT : rT b M0 M I1 A1 L tx n (if D.2.1 6 = 4 then pFail 4 (pLift acc D.1) else dSho (pLift acc D.1)) (fun k => k = 6 ∨ k = 13 + D.2.1 6) (fun F => F (13 + D.2.1 6) = nI (pNm (pExp 6 (pNext (pLift acc D.1)))) ∧ F 6 = nI (D.2.1 6 + 1))) : rD b M0 M I0 A0 L tx n (dLine D) := by
  have e : dLine D = (if D.2.1 6 = 4 then (pFail 4 D.1, D.2) else (dSho D.1, nu (nu D.2.1 (13 + D.2.1 6) (pNm (pExp 6 (pNext D.1)))) 6 (D.2.1 6 + 1), D.2.2)) := by
    unfold dLine
    rw [if_neg (by omega), if_pos h2]
  obtain ⟨A2, hR, hA, hk, hP⟩ := hT
  obtain ⟨cy, t, ty, dy, -⟩ := pHd_in h2 (by decide)
  have hI := hf.2.2 ⟨_, _, dy⟩
  by_cases q : D.2.1 6 = 4
  · rw [if_pos q] at hR
    have e' : dLine D = (pFail 4 D.1, D.2) := by rw [e, if_pos q]
    rw [e']
    refine ⟨I1, A2, acc, by rw [pFail_fr] at hR; exact hR, hf.mk hA (fun ⟨cs, ts, hS⟩ => (pFail_no hS).elim) (fun k h7 h13 => hk k (by omega)) rfl⟩
  · rw [if_neg q] at hR hP
    have e' : dLine D = (dSho D.1, nu (nu D.2.1 (13 + D.2.1 6) (pNm (pExp 6 (pNext D.1)))) 6 (D.2.1 6 + 1), D.2.2) := by rw [e, if_neg q]
    have e3 : dSho (pLift acc D.1) = pLift acc (dSho D.1) := by
      show pTake 0 9 (pExp 6 (pNext (pLift acc D.1))) = _
      rw [pNext_fr, pExp_fr, pTake_fr]
    have e2 : pNm (pExp 6 (pNext (pLift acc D.1))) = pNm (pExp 6 (pNext D.1)) := by rw [pNext_fr, pExp_fr, pLift_nm]
    rw [e3] at hR hP
    rw [e']
    refine ⟨I1, A2, acc, hR, hf.mk hA (fun hS => ?_) (fun k h7 h13 => hk k (by omega)) rfl⟩
    obtain ⟨p1, p2⟩ := hP (pLift_in' hS)
    refine ⟨⟨_, _, dy⟩, fun k hk1 hk2 => ?_, ?_⟩
    · show A2 4 k = nI (nu (nu _ _ _) 6 _ k)
      by_cases q5 : k = 6
      · subst q5; rw [nu_s, p2]
      · rw [nu_n q5]
        by_cases q4 : k = 13 + D.2.1 6
        · rw [q4, nu_s, p1, e2]
        · rw [nu_n q4, hk k (by omega)]; exact hI.1 k hk1 hk2
    · have h64 := hI.2.1
      show D.2.1 6 + 1 ≤ 4
      omega
theorem rD_wind {x : Int32} (hf : rDf I0 A0 I1 A1 acc D) (h2 : pHd D.1 = 7) (hx : ∀ cs ts, pTake 0 9 (pNext (pLift acc D.1)) = .inr (cs, ts) → x = nI (pNm (pNext (pLift acc D.1)))) (hR : rW b M0 M I1 (va_up A1 4 (upd (A1 4) 26 x)) L tx n (pTake 0 9 (pNext (pLift acc D.1)))) : rD b M0 M I0 A0 L tx n (dLine D) := by
  have e : dLine D = (pTake 0 9 (pNext D.1), nu D.2.1 26 (pNm (pNext D.1)), D.2.2) := by
    unfold dLine
    rw [if_neg (by omega), if_neg (by omega), if_pos h2]
  obtain ⟨cy, t, ty, dy, -⟩ := pHd_in h2 (by decide)
  have hI := hf.2.2 ⟨_, _, dy⟩
  have e3 : pTake 0 9 (pNext (pLift acc D.1)) = pLift acc (pTake 0 9 (pNext D.1)) := by rw [pNext_fr, pTake_fr]
  have e2 : pNm (pNext (pLift acc D.1)) = pNm (pNext D.1) := by rw [pNext_fr, pLift_nm]
  rw [e3] at hR hx
  rw [e]
  refine ⟨I1, _, acc, hR, hf.mk (fun j hj => va_up_ne _ _ hj) (fun hS => ?_) (fun k h7 h13 => by rw [va_up_self, pk_un (by omega)]) rfl⟩
  obtain ⟨cs, ts, hS1⟩ := hS
  refine ⟨⟨_, _, dy⟩, fun k hk1 hk2 => ?_, ?_⟩
  · show va_up A1 4 (upd (A1 4) 26 x) 4 k = nI (nu _ 26 _ k)
    rw [va_up_self]
    by_cases q5 : k = 26
    · subst q5; rw [nu_s, pk_us, hx _ _ (pLift_in hS1), e2]
    · rw [nu_n q5, pk_un q5]; exact hI.1 k hk1 hk2
  · exact hI.2.1
theorem rD_law (st : Bool) {y : Int32} (hf : rDf I0 A0 I1 A1 acc D) (hN : pN0 D.1) {h0 : Nat} (hd : pHd D.1 = h0) (h98 : h0 < 98) (hT : rT b M0 M (va_up I1 15 y) A1 L tx n (dLw st (pLift acc D.1)) (fun k => k = 7 + lwJ st ∨ k = 9 + lwJ st ∨ k = 11 + lwJ st) (fun F => F (7 + lwJ st) = 1 ∧ F (9 + lwJ st) = nI (pCs (pExp 31 (pNext (pLift acc D.1)))).length ∧ F (11 + lwJ st) = nI (pCs (dLw st (pLift acc D.1))).length - nI (pCs (pExp 31 (pNext (pLift acc D.1)))).length)) (e : dLine D = (pCl (dLw st D.1), D.2.1, if st then some (pCs (dLw st D.1)) else D.2.2.1, if st then D.2.2.2 else some (pCs (dLw st D.1)))) : rD b M0 M I0 A0 L tx n (dLine D) := by
  obtain ⟨A2, hR, hA, hk, hP⟩ := hT
  obtain ⟨cy, t, ty, dy, -⟩ := pHd_in hd h98
  have hcy := hN _ _ dy
  subst hcy
  have hI := hf.2.2 ⟨_, _, dy⟩
  have hj : lwJ st = 0 ∨ lwJ st = 1 := by
    cases st with
    | true => exact Or.inl rfl
    | false => exact Or.inr rfl
  rw [dLw_fr st acc D.1] at hR hP
  rw [e]
  rw [pCl_lift] at hR
  refine ⟨_, A2, _, hR, ⟨fun j h1 h2 h3 h4 h5 h6 h7 => by rw [va_up_ne _ _ h7]; exact hf.1 j h1 h2 h3 h4 h5 h6 h7, fun j hj => (hA j hj).trans (hf.2.1 j hj), fun hS => ?_⟩⟩
  have hS2 : ∃ cs ts, dLw st D.1 = .inr (cs, ts) := by
    obtain ⟨cs, ts, hS⟩ := hS
    match hq : dLw st D.1 with
    | .inl z => have hS' : pCl (dLw st D.1) = .inr (cs, ts) := hS; rw [hq] at hS'; cases hS'
    | .inr (c, t) => exact ⟨c, t, rfl⟩
  obtain ⟨cs, ts, hS3⟩ := hS2
  obtain ⟨p1, p2, p3⟩ := hP (pLift_in' ⟨_, _, hS3⟩)
  have hcs : pCs (dLw st D.1) = cs := by rw [hS3]; rfl
  obtain ⟨c1, t1, e1⟩ : ∃ c t, pExp 31 (pNext D.1) = .inr (c, t) := by
    match hq : pExp 31 (pNext D.1) with
    | .inl z =>
      rw [dLw_e st hq] at hS3; cases hS3
    | .inr (c, t) => exact ⟨c, t, rfl⟩
  have hc1 := pN0_exp (k := 31) (pN0_next hN) _ _ e1
  subst hc1
  have e4 : pCs (pExp 31 (pNext (pLift acc D.1))) = acc := by rw [pNext_fr, pExp_fr, e1]; exact List.append_nil acc
  have e5 : pCs (pLift acc (dLw st D.1)) = acc ++ cs := by rw [hS3]; rfl
  rw [e4] at p2 p3
  rw [e5, List.length_append, z_nI_sub (by omega), show acc.length + cs.length - acc.length = cs.length by omega] at p3
  have hw : rLw (A2 4) (acc ++ cs) (lwJ st) (some cs) := ⟨p1, p3, acc.length, p2, by rw [List.length_append]; omega, fun k hk => by rw [List.getElem?_append_right (by omega), show acc.length + k - acc.length = k by omega, List.getElem?_eq_getElem hk]⟩
  rw [hcs]
  have hgo : ∀ i, i ≠ lwJ st → i < 2 → ∀ {o}, rLw (A1 4) acc i o → rLw (A2 4) (acc ++ cs) i o := fun i hi h2 o ho => ho.cong (hk _ (by omega)) (hk _ (by omega)) (hk _ (by omega)) cs
  refine ⟨fun k h1 h2 => by rw [hk k (by omega)]; exact hI.1 k h1 h2, hI.2.1, ?_, ?_⟩
  · cases st with
    | true => exact hw
    | false => exact hgo 0 (by decide) (by decide) hI.2.2.1
  · cases st with
    | true => exact hgo 1 (by decide) (by decide) hI.2.2.2
    | false => exact hw
theorem rD_close (hf : rDf I0 A0 I1 A1 acc D) (hT : rT b M0 M I1 A1 L tx n (pExp 30 (pLift acc D.1)) (fun k => k = 0) (fun F => F 0 = A1 4 0 + 1)) : rD b M0 M I0 A0 L tx n (dClose D) := by
  obtain ⟨A2, hR, hA, hk, hP⟩ := hT
  rw [pExp_fr] at hR hP
  refine ⟨I1, A2, acc, hR, hf.mk hA (fun hS => ?_) (fun k h7 h13 => hk k (by omega)) rfl⟩
  obtain ⟨cs, ts, hS1⟩ := hS
  obtain ⟨c2, t2, d2⟩ := pExp_in (by decide) (show pExp 30 D.1 = _ from hS1)
  have hI := hf.2.2 ⟨_, _, d2⟩
  have p1 := hP (pLift_in' ⟨_, _, hS1⟩)
  refine ⟨⟨_, _, d2⟩, fun k hk1 hk2 => ?_, ?_⟩
  · show A2 4 k = nI (nu _ 0 _ k)
    by_cases q : k = 0
    · subst q; rw [nu_s, p1, hI.1 0 (by decide) (by decide)]; exact (show nI (D.2.1 0) + nI 1 = nI (D.2.1 0 + 1) from nI_add _ _)
    · rw [nu_n q, hk k q]; exact hI.1 k hk1 hk2
  · exact hI.2.1
end RD
theorem rDf.C {tx : Nat → Nat} {n : Nat} {I0 I1 : Nat → Int32} {A0 A1 : Nat → Nat → Int32} {acc : List Nat} {D : dT} (hC : rC tx n I0 A0) (hf : rDf I0 A0 I1 A1 acc D) : rC tx n I1 A1 := ⟨hC.1, fun k hk => by rw [hf.2.1 3 (by decide)]; exact hC.2.1 k hk, hC.2.2.1, by rw [hf.1 8 (by decide) (by decide) (by decide) (by decide) (by decide) (by decide) (by decide)]; exact hC.2.2.2⟩
theorem d_closes {G : zG} {l : Launch} {b : Nat} {M0 M : zM} {I0 : Nat → Int32} {A0 : Nat → Nat → Int32} {L : Nat → Nat → Int64} {tx : Nat → Nat} {n : Nat} {D : dT} {av : Nat → Nat} {fm : Nat} (hG : zSt G av fm) (hC : rC tx n I0 A0) (hD : rD b M0 M I0 A0 L tx n D) : am G l kX12_closes 7 [.ref b] M 0 0 (zv (fun M' => rD b M0 M' I0 A0 L tx n (dClose D))) := by
  obtain ⟨I1, A1, acc, hR, hf⟩ := hD
  exact am.mono (r_closes hG (hf.C hC) hR) (fun r M' hq => ⟨hq.1, rD_close hf hq.2⟩)
theorem d_readLine {G : zG} {l : Launch} {b : Nat} {M0 M : zM} {I0 : Nat → Int32} {A0 : Nat → Nat → Int32} {L : Nat → Nat → Int64} {tx : Nat → Nat} {n : Nat} {D : dT} {av : Nat → Nat} {fm : Nat} (hG : zSt G av fm) (hC : rC tx n I0 A0) (hN : pN0 D.1) (hD : rD b M0 M I0 A0 L tx n D) : am G l kX12_readLine 63 [.ref b] M 0 0 (zv (fun M' => rD b M0 M' I0 A0 L tx n (dLine D))) := by
  obtain ⟨I1, A1, acc, hR, hf⟩ := hD
  have hC1 := hf.C hC
  have hh0 := hR.hd
  refine am.of (by decide) (Nat.le_of_ble_eq_true rfl) ?_
  refine aj.aload_n dX12_readLine_0 rfl ?_
  have hw1 := hR.hd
  refine aj.rWr rfl dX12_readLine_1 hR ?_
  refine aj.if_eqN (a := pWr (pLift acc D.1)) (tgt := 8) dX12_readLine_4 rfl (by omega) rfl (fun c4 => ?_) (fun c4 => ?_)
  · refine aj.aload_n dX12_readLine_8 rfl ?_
    refine aj.iconst (v := 2) dX12_readLine_9 rfl ?_
    refine aj.rCall1 (d' := 0) (As := [.int 2]) (rest := []) hR dX12_readLine_10 v_X12_132 li_X12_is rfl rfl rfl (Nat.le_of_ble_eq_true rfl) (Nat.le_of_ble_eq_true rfl) (r_is 2 rfl (by decide) hR) (fun M hR => ?_)
    refine aj.if_eqB (tgt := 23) dX12_readLine_13 rfl (fun c13 => ?_) (fun c13 => ?_)
    · refine aj.aload_n dX12_readLine_23 rfl ?_
      refine aj.iconst (v := 5) dX12_readLine_24 rfl ?_
      refine aj.rCall1 (d' := 0) (As := [.int 5]) (rest := []) hR dX12_readLine_25 v_X12_132 li_X12_is rfl rfl rfl (Nat.le_of_ble_eq_true rfl) (Nat.le_of_ble_eq_true rfl) (r_is 5 rfl (by decide) hR) (fun M hR => ?_)
      refine aj.if_eqB (tgt := 38) dX12_readLine_28 rfl (fun c28 => ?_) (fun c28 => ?_)
      · refine aj.aload_n dX12_readLine_38 rfl ?_
        refine aj.bipush (v := 7) dX12_readLine_39 rfl ?_
        refine aj.rCall1 (d' := 6) (As := [.int 7]) (rest := []) hR dX12_readLine_41 v_X12_161 li_X12_eats rfl rfl rfl (Nat.le_of_ble_eq_true rfl) (Nat.le_of_ble_eq_true rfl) (r_eats hG hC1 7 rfl (by decide) (by decide) hR) (fun M hR => ?_)
        refine aj.if_eqB (tgt := 64) dX12_readLine_44 rfl (fun c44 => ?_) (fun c44 => ?_)
        · rw [if_neg c44] at hR
          refine aj.aload_n dX12_readLine_64 rfl ?_
          refine aj.bipush (v := 8) dX12_readLine_65 rfl ?_
          refine aj.rCall1 (d' := 0) (As := [.int 8]) (rest := []) hR dX12_readLine_67 v_X12_132 li_X12_is rfl rfl rfl (Nat.le_of_ble_eq_true rfl) (Nat.le_of_ble_eq_true rfl) (r_is 8 rfl (by decide) hR) (fun M hR => ?_)
          refine aj.if_neB (tgt := 82) dX12_readLine_70 rfl (fun c70 => ?_) (fun c70 => ?_)
          · refine aj.aload_n dX12_readLine_82 rfl ?_
            refine aj.aload_n dX12_readLine_83 rfl ?_
            refine aj.rKd rfl dX12_readLine_84 hR (hh0.2.2.1.mpr (by omega)) ?_
            rw [c70]
            refine aj.bipush (v := 8) dX12_readLine_87 rfl ?_
            refine aj.isubN (a := 8) (b := 8) dX12_readLine_89 rfl rfl (by omega) ?_
            show aj G l kX12_readLine 63 90 _ [.int 0, .ref b] M 0 0 _
            refine aj.rCall0 (d' := 62) (As := [.int 0]) (rest := []) hR dX12_readLine_90 v_X12_196 li_X12_readLaw rfl rfl rfl (Nat.le_of_ble_eq_true rfl) (Nat.le_of_ble_eq_true rfl) (r_readLaw_t hG hC1 c70 (by decide) (by decide) hR) (fun M hR => ?_)
            refine aj.goto (tgt := 101) dX12_readLine_93 rfl ?_
            exact aj.vret rfl dX12_readLine_101 ⟨rfl, rD_law (h0 := 8) true hf hN (by rw [pLift_hd] at c70; exact c70) (by decide) hR (by unfold dLine; rw [pLift_hd] at c70; rw [if_neg (by omega), if_neg (by omega), if_neg (by omega), if_pos c70]; rfl)⟩
          · refine aj.aload_n dX12_readLine_73 rfl ?_
            refine aj.bipush (v := 9) dX12_readLine_74 rfl ?_
            refine aj.rCall1 (d' := 0) (As := [.int 9]) (rest := []) hR dX12_readLine_76 v_X12_132 li_X12_is rfl rfl rfl (Nat.le_of_ble_eq_true rfl) (Nat.le_of_ble_eq_true rfl) (r_is 9 rfl (by decide) hR) (fun M hR => ?_)
            refine aj.if_eqB (tgt := 96) dX12_readLine_79 rfl (fun c79 => ?_) (fun c79 => ?_)
            · refine aj.aload_n dX12_readLine_96 rfl ?_
              refine aj.iconst (v := 2) dX12_readLine_97 rfl ?_
              refine aj.rCall0 (d' := 0) (As := [.int 2]) (rest := []) hR dX12_readLine_98 v_X12_138 li_X12_fails rfl rfl rfl (Nat.le_of_ble_eq_true rfl) (Nat.le_of_ble_eq_true rfl) (r_fails 2 rfl (by decide) hR) (fun M hR => ?_)
              exact aj.vret rfl dX12_readLine_101 ⟨rfl, rD_fail (k := 2) hf hR (dLine_0 (by rw [pLift_hd] at c13 c28 c44 c70 c79; exact ⟨c13, c28, c44, c70, c79⟩))⟩
            · refine aj.aload_n dX12_readLine_82 rfl ?_
              refine aj.aload_n dX12_readLine_83 rfl ?_
              refine aj.rKd rfl dX12_readLine_84 hR (hh0.2.2.1.mpr (by omega)) ?_
              rw [c79]
              refine aj.bipush (v := 8) dX12_readLine_87 rfl ?_
              refine aj.isubN (a := 9) (b := 8) dX12_readLine_89 rfl rfl (by omega) ?_
              show aj G l kX12_readLine 63 90 _ [.int 1, .ref b] M 0 0 _
              refine aj.rCall0 (d' := 62) (As := [.int 1]) (rest := []) hR dX12_readLine_90 v_X12_196 li_X12_readLaw rfl rfl rfl (Nat.le_of_ble_eq_true rfl) (Nat.le_of_ble_eq_true rfl) (r_readLaw_f hG hC1 c79 (by decide) (by decide) hR) (fun M hR => ?_)
              refine aj.goto (tgt := 101) dX12_readLine_93 rfl ?_
              exact aj.vret rfl dX12_readLine_101 ⟨rfl, rD_law (h0 := 9) false hf hN (by rw [pLift_hd] at c79; exact c79) (by decide) hR (by unfold dLine; rw [pLift_hd] at c79; rw [if_neg (by omega), if_neg (by omega), if_neg (by omega), if_neg (by omega), if_pos c79]; rfl)⟩
        · rw [if_pos c44] at hR
          refine aj.aload_n dX12_readLine_47 rfl ?_
          refine aj.rFg rfl dX12_readLine_48 hR ?_
          refine aj.bipush (v := 26) dX12_readLine_51 rfl ?_
          refine aj.aload_n dX12_readLine_53 rfl ?_
          refine aj.iconst (v := 0) dX12_readLine_54 rfl ?_
          refine aj.bipush (v := 9) dX12_readLine_55 rfl ?_
          refine aj.rCallX (d' := 6) (As := [.int 0, .int 9]) (rest := [.int 26, .ref (b + 4)]) hR dX12_readLine_57 v_X12_182 li_X12_takes rfl rfl rfl (Nat.le_of_ble_eq_true rfl) (Nat.le_of_ble_eq_true rfl) (r_takes hG hC1 0 9 (fun _ => ⟨rfl, by decide⟩) rfl (by decide) hR) (fun x57 M hR => ?_)
          obtain ⟨hx57, hR⟩ := hR
          refine aj.rFs (i := 26) dX12_readLine_60 hR rfl (by omega) (fun M hR => ?_)
          refine aj.goto (tgt := 101) dX12_readLine_61 rfl ?_
          exact aj.vret rfl dX12_readLine_101 ⟨rfl, rD_wind hf (by rw [pLift_hd] at c44; exact c44) hx57 hR⟩
      · have hin : ∃ cs ts, D.1 = .inr (cs, ts) := by
          obtain ⟨cs, t, ts, e, -⟩ := pHd_in (S := D.1) (k := 5) (by rw [pLift_hd] at c28; exact c28) (by decide)
          exact ⟨_, _, e⟩
        refine aj.aload_n dX12_readLine_31 rfl ?_
        refine aj.rCall0 (d' := 8) (As := []) (rest := []) hR dX12_readLine_32 v_X12_193 li_X12_readShooter rfl rfl rfl (Nat.le_of_ble_eq_true rfl) (Nat.le_of_ble_eq_true rfl) (r_readShooter hG hC1 c28 ((hf.2.2 hin).1 6 (by decide) (by decide)) (hf.2.2 hin).2.1 hR) (fun M hR => ?_)
        refine aj.goto (tgt := 101) dX12_readLine_35 rfl ?_
        exact aj.vret rfl dX12_readLine_101 ⟨rfl, rD_sho hf (by rw [pLift_hd] at c28; exact c28) hR⟩
    · refine aj.aload_n dX12_readLine_16 rfl ?_
      refine aj.rCall0 (d' := 8) (As := []) (rest := []) hR dX12_readLine_17 v_X12_190 li_X12_readTop rfl rfl rfl (Nat.le_of_ble_eq_true rfl) (Nat.le_of_ble_eq_true rfl) (r_readTop hG hC1 c13 hR) (fun M hR => ?_)
      refine aj.goto (tgt := 101) dX12_readLine_20 rfl ?_
      exact aj.vret rfl dX12_readLine_101 ⟨rfl, rD_top hf (by rw [pLift_hd] at c13; exact c13) hR⟩
  · have hx : ∃ e, D.1 = .inl e := by
      match hq : D.1 with
      | .inl e => exact ⟨e, rfl⟩
      | .inr (cs, ts) => rw [hq] at c4; exact absurd rfl c4
    obtain ⟨e, he⟩ := hx
    have e9 : dLine D = (pFail 2 D.1, D.2) := dLine_0 (by rw [he]; exact ⟨by show ¬ 99 = 2; decide, by show ¬ 99 = 5; decide, by show ¬ 99 = 7; decide, by show ¬ 99 = 8; decide, by show ¬ 99 = 9; decide⟩)
    exact aj.vret rfl dX12_readLine_7 ⟨rfl, rD_fail (k := 2) hf (by rw [he] at hR ⊢; exact hR) e9⟩
