/-- what is read of a text: the reader's state, numbers, laws -/
abbrev dT : Type := pS × (Nat → Nat) × Option (List Nat) × Option (List Nat)
def nu (E : Nat → Nat) (j v : Nat) : Nat → Nat := fun k => if k = j then v else E k
theorem nu_s {E : Nat → Nat} {j v : Nat} : nu E j v j = v := if_pos rfl
theorem nu_n {E : Nat → Nat} {j v k : Nat} (h : k ≠ j) : nu E j v k = E k := if_neg h
def pCl : pS → pS
  | .inl e => .inl e
  | .inr (_, ts) => .inr ([], ts)
def pCs : pS → List Nat
  | .inl _ => []
  | .inr (cs, _) => cs
def dLw (st : Bool) (S : pS) : pS := (if st then pSm true 6 else pTr false 6) (pExp 31 (pNext S))
theorem dLw_t (S : pS) : dLw true S = pSm true 6 (pExp 31 (pNext S)) := by unfold dLw; rw [if_pos rfl]
theorem dLw_f (S : pS) : dLw false S = pTr false 6 (pExp 31 (pNext S)) := by unfold dLw; rw [if_neg (by decide)]
theorem dLw_e (st : Bool) {S : pS} {e : Nat × Nat} (h : pExp 31 (pNext S) = .inl e) : dLw st S = .inl e := by
  cases st with
  | true => rw [dLw_t, h, (pSm_G true 6).1]
  | false => rw [dLw_f, h, (pTr_G false 6).1]
abbrev dTop1 (S : pS) : pS := pTake 0 99 (pNext S)
abbrev dTop2 (S : pS) : pS := pTake 0 99 (pExp 3 (dTop1 S))
abbrev dTop3 (S : pS) : pS := pTake 0 99 (pExp 4 (dTop2 S))
def dTop (S : pS) (E : Nat → Nat) : Nat → Nat := nu (nu (nu E 3 (pNm (pNext S))) 4 (pNm (pExp 3 (dTop1 S)))) 5 (pNm (pExp 4 (dTop2 S)))
abbrev dSho (S : pS) : pS := pTake 0 9 (pExp 6 (pNext S))
def dLine (D : dT) : dT :=
  if pHd D.1 = 2 then (dTop3 D.1, dTop D.1 D.2.1, D.2.2)
  else if pHd D.1 = 5 then (if D.2.1 6 = 4 then (pFail 4 D.1, D.2) else (dSho D.1, nu (nu D.2.1 (13 + D.2.1 6) (pNm (pExp 6 (pNext D.1)))) 6 (D.2.1 6 + 1), D.2.2))
  else if pHd D.1 = 7 then (pTake 0 9 (pNext D.1), nu D.2.1 26 (pNm (pNext D.1)), D.2.2)
  else if pHd D.1 = 8 then (pCl (dLw true D.1), D.2.1, some (pCs (dLw true D.1)), D.2.2.2)
  else if pHd D.1 = 9 then (pCl (dLw false D.1), D.2.1, D.2.2.1, some (pCs (dLw false D.1)))
  else (pFail 2 D.1, D.2)
def dClose (D : dT) : dT := (pExp 30 D.1, nu D.2.1 0 (D.2.1 0 + 1), D.2.2)
def dLoop : Nat → dT → dT
  | 0, D => D
  | m + 1, D => if pHd D.1 = 99 ∨ pHd D.1 = 24 then D else dLoop m (dClose (dLine D))
def dE0 : Nat → Nat := nu (nu (nu (nu (nu (fun _ => 0) 1 10) 2 10) 3 10) 4 1) 5 10
abbrev dSt1 (tx : Nat → Nat) (n : Nat) : pS := pExp 1 (pExp 0 (.inr ([], lx tx n 0)))
abbrev dSt2 (tx : Nat → Nat) (n : Nat) : pS := pTake 0 20 (dSt1 tx n)
abbrev dSt3 (tx : Nat → Nat) (n : Nat) : pS := pTake (pNm (dSt1 tx n)) 20 (dSt2 tx n)
def dStart (tx : Nat → Nat) (n : Nat) : dT := dClose (dSt3 tx n, nu (nu dE0 1 (pNm (dSt1 tx n))) 2 (pNm (dSt2 tx n)), none, none)
def dRun (tx : Nat → Nat) (n : Nat) : dT := dLoop 901 (dStart tx n)
theorem pTake_G {lo hi : Nat} : pG (pTake lo hi) := by
  refine ⟨fun e => if_neg (by show ¬ 99 = 23; decide), fun S h => ?_⟩
  unfold pTake
  split
  · rename_i q
    split
    · have := pNext_lt h q (by decide) (by decide)
      exact ⟨this.1, by omega, by omega⟩
    · exact (pFail_G (by decide)).2 S h
  · exact (pFail_G (by decide)).2 S h
theorem pTake_fr (lo hi : Nat) : pFrm (pTake lo hi) := fun pre S => by
  unfold pTake
  rw [pLift_hd, pLift_nm]
  split
  · split
    · exact pNext_fr pre S
    · exact pFail_fr 3 pre S
  · exact pFail_fr 2 pre S
theorem pTake_in {lo hi : Nat} {S : pS} {cs : List Nat} {ts : List tkT} (h : pTake lo hi S = .inr (cs, ts)) : pHd S = 23 ∧ lo ≤ pNm S ∧ pNm S ≤ hi ∧ ∃ cs' ts', S = .inr (cs', ts') := by
  unfold pTake at h
  split at h
  · rename_i q
    split at h
    · rename_i q2
      obtain ⟨cs', t, ts', hS, -⟩ := pHd_in q (by decide)
      exact ⟨q, q2.1, q2.2, cs', _, hS⟩
    · exact (pFail_no h).elim
  · exact (pFail_no h).elim
theorem pExp_in {k : Nat} {S : pS} {cs : List Nat} {ts : List tkT} (hk : k < 98) (h : pExp k S = .inr (cs, ts)) : ∃ cs' ts', S = .inr (cs', ts') := by
  unfold pExp at h
  split at h
  · rename_i q
    obtain ⟨cs', t, ts', hS, -⟩ := pHd_in q hk
    exact ⟨cs', _, hS⟩
  · exact (pFail_no h).elim
theorem dLw_G (st : Bool) {S : pS} (hT : pT S) {k : Nat} (h : pHd S = k) (h1 : k < 98) (h2 : k ≠ 24) : pT (dLw st S) ∧ pSz (dLw st S) + 1 ≤ pSz S ∧ pLen (dLw st S) + 1 ≤ pLen S := by
  have g1 := pNext_lt hT h h1 h2
  have g2 := (pExp_G (k := 31) (by decide) (by decide)).2 _ g1.1
  unfold dLw
  cases st with
  | true =>
    have g3 := (pSm_G true 6).2 _ g2.1
    exact ⟨g3.1, by show pSz (pSm true 6 _) + 1 ≤ _; omega, by show pLen (pSm true 6 _) + 1 ≤ _; omega⟩
  | false =>
    have g3 := (pTr_G false 6).2 _ g2.1
    exact ⟨g3.1, by show pSz (pTr false 6 _) + 1 ≤ _; omega, by show pLen (pTr false 6 _) + 1 ≤ _; omega⟩
theorem dLw_fr (st : Bool) : pFrm (dLw st) := fun pre S => by
  unfold dLw
  rw [pNext_fr, pExp_fr]
  cases st with
  | true => exact pSm_fr true 6 pre _
  | false => exact pTr_fr false 6 pre _
theorem pCl_T {S : pS} (h : pT S) : pT (pCl S) := by
  match S, h with
  | .inl _, h => exact h
  | .inr (_, _), h => exact h
theorem pCl_len (S : pS) : pLen (pCl S) = pLen S := by
  match S with
  | .inl _ => rfl
  | .inr (_, _) => rfl
theorem pCl_hd (S : pS) : pHd (pCl S) = pHd S := by
  match S with
  | .inl _ => rfl
  | .inr (_, []) => rfl
  | .inr (_, _ :: _) => rfl
theorem pCl_lift {pre : List Nat} {S : pS} : pLift pre S = pLift (pre ++ pCs S) (pCl S) := by
  match S with
  | .inl _ => rfl
  | .inr (cs, ts) => show Sum.inr (pre ++ cs, ts) = Sum.inr ((pre ++ cs) ++ [], ts); rw [List.append_nil]
/-- codes are none between lines -/
def pN0 (S : pS) : Prop := ∀ cs ts, S = .inr (cs, ts) → cs = []
theorem pN0_inl (e : Nat × Nat) : pN0 (.inl e) := fun _ _ h => by cases h
theorem pN0_fail (k : Nat) (S : pS) : pN0 (pFail k S) := fun _ _ h => (pFail_no h).elim
theorem pN0_next {S : pS} (h : pN0 S) : pN0 (pNext S) := fun cs ts e => by
  match S, h, e with
  | .inl _, _, e => cases e
  | .inr (c, t), h, e => cases e; exact h _ _ rfl
theorem pN0_exp {k : Nat} {S : pS} (h : pN0 S) : pN0 (pExp k S) := by
  unfold pExp
  split
  · exact pN0_next h
  · exact pN0_fail 2 S
theorem pN0_take {lo hi : Nat} {S : pS} (h : pN0 S) : pN0 (pTake lo hi S) := by
  unfold pTake
  split
  · split
    · exact pN0_next h
    · exact pN0_fail 3 S
  · exact pN0_fail 2 S
theorem pN0_cl (S : pS) : pN0 (pCl S) := fun cs ts e => by
  match S, e with
  | .inl _, e => cases e
  | .inr (c, t), e => cases e; rfl
theorem pN0_line {D : dT} (h : pN0 D.1) : pN0 (dLine D).1 := by
  unfold dLine
  split
  · exact pN0_take (pN0_exp (pN0_take (pN0_exp (pN0_take (pN0_next h)))))
  · split
    · split
      · exact pN0_fail 4 D.1
      · exact pN0_take (pN0_exp (pN0_next h))
    · split
      · exact pN0_take (pN0_next h)
      · split
        · exact pN0_cl _
        · split
          · exact pN0_cl _
          · exact pN0_fail 2 D.1
theorem dLine_G {D : dT} (hT : pT D.1) (h : pHd D.1 < 98) (h24 : pHd D.1 ≠ 24) : pT (dLine D).1 ∧ (pLen (dLine D).1 + 1 ≤ pLen D.1) := by
  have hp : 1 ≤ pLen D.1 := by
    obtain ⟨cs, t, ts, hS, -⟩ := pHd_in (S := D.1) rfl h
    rw [hS]; exact Nat.succ_le_succ (Nat.zero_le _)
  have hf : ∀ k, 1 ≤ k ∧ k ≤ 4 → pT (pFail k D.1) ∧ pLen (pFail k D.1) + 1 ≤ pLen D.1 := fun k hk => ⟨pFail_T hk hT, by rw [(pFail_sz k D.1).2]; omega⟩
  have g1 := pNext_lt hT rfl h h24
  have hc : ∀ f : pS → pS, pG f → pT (f (pNext D.1)) ∧ pLen (f (pNext D.1)) + 1 ≤ pLen D.1 := fun f hf => by
    have := hf.2 _ g1.1
    exact ⟨this.1, by omega⟩
  unfold dLine
  split
  · exact hc (fun S => pTake 0 99 (pExp 4 (pTake 0 99 (pExp 3 (pTake 0 99 S))))) (pTake_G.comp ((pExp_G (by decide) (by decide)).comp (pTake_G.comp ((pExp_G (by decide) (by decide)).comp pTake_G))))
  · split
    · split
      · exact hf 4 (by decide)
      · exact hc (fun S => pTake 0 9 (pExp 6 S)) (pTake_G.comp (pExp_G (by decide) (by decide)))
    · split
      · exact hc (fun S => pTake 0 9 S) pTake_G
      · split
        · rename_i q
          have := dLw_G true hT rfl h h24
          exact ⟨pCl_T this.1, by show pLen (pCl _) + 1 ≤ _; rw [pCl_len]; exact this.2.2⟩
        · split
          · have := dLw_G false hT rfl h h24
            exact ⟨pCl_T this.1, by show pLen (pCl _) + 1 ≤ _; rw [pCl_len]; exact this.2.2⟩
          · exact hf 2 (by decide)
theorem dClose_G {D : dT} (hT : pT D.1) : pT (dClose D).1 ∧ pLen (dClose D).1 ≤ pLen D.1 := by
  have := (pExp_G (k := 30) (by decide) (by decide)).2 _ hT
  exact ⟨this.1, this.2.2⟩
