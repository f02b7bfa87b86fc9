def dNum (E : Nat → Nat) : Prop := E 1 ≤ E 2 ∧ E 2 ≤ 20 ∧ E 3 ≤ 99 ∧ E 4 ≤ 99 ∧ E 5 ≤ 99 ∧ E 6 ≤ 4 ∧ (∀ s, s < 4 → E (13 + s) ≤ 9) ∧ E 26 ≤ 9 ∧ ∀ k, 17 ≤ k → k < 29 → k ≠ 26 → E k = 0
def dLaw (o : Option (List Nat)) (t : Bool) (ws : List Nat) : Prop := ∀ cs, o = some cs → lwTys cs [] = some [t] ∧ ∀ c ∈ cs, 1000 ≤ c → c < 3000 → c - 1000 ∈ ws
/-- a document as it may be -/
def dOk (D : dT) : Prop := pN0 D.1 ∧ ∀ cs ts, D.1 = .inr (cs, ts) → tsN ts ∧ dNum D.2.1 ∧ dLaw D.2.2.1 false [0, 1, 2, 3, 4] ∧ dLaw D.2.2.2 true [0, 5, 6]
theorem pNext_ts {S : pS} {cs : List Nat} {ts : List tkT} (h : pNext S = .inr (cs, ts)) : ∃ t, S = .inr (cs, t) ∧ ∀ x ∈ ts, x ∈ t := by
  match S, h with
  | .inl _, h => cases h
  | .inr (c, t), h => cases h; exact ⟨t, rfl, fun x hx => List.mem_of_mem_tail hx⟩
theorem pExp_ts {k : Nat} {S : pS} {cs : List Nat} {ts : List tkT} (h : pExp k S = .inr (cs, ts)) : ∃ t, S = .inr (cs, t) ∧ ∀ x ∈ ts, x ∈ t := by
  unfold pExp at h
  split at h
  · exact pNext_ts h
  · exact (pFail_no h).elim
theorem pTake_ts {lo hi : Nat} {S : pS} {cs : List Nat} {ts : List tkT} (h : pTake lo hi S = .inr (cs, ts)) : ∃ t, S = .inr (cs, t) ∧ ∀ x ∈ ts, x ∈ t := by
  unfold pTake at h
  split at h
  · split at h
    · exact pNext_ts h
    · exact (pFail_no h).elim
  · exact (pFail_no h).elim
theorem tsN_sub {ts t : List tkT} (h : tsN t) (hs : ∀ x ∈ ts, x ∈ t) : tsN ts := fun x hx => h x (hs x hx)
theorem dOk_close {D : dT} (h : dOk D) : dOk (dClose D) := by
  refine ⟨pN0_exp h.1, fun cs ts e => ?_⟩
  obtain ⟨t, e1, hs⟩ := pExp_ts (show pExp 30 D.1 = _ from e)
  obtain ⟨h1, h2, h3, h4⟩ := h.2 _ _ e1
  refine ⟨tsN_sub h1 hs, ?_, h3, h4⟩
  obtain ⟨g1, g2, g3, g4, g5, g6, g7, g8, g9⟩ := h2
  show dNum (nu D.2.1 0 _)
  refine ⟨?_, ?_, ?_, ?_, ?_, ?_, fun s hs => ?_, ?_, fun k k1 k2 k3 => ?_⟩
  · rw [nu_n (by decide), nu_n (by decide)]; exact g1
  · rw [nu_n (by decide)]; exact g2
  · rw [nu_n (by decide)]; exact g3
  · rw [nu_n (by decide)]; exact g4
  · rw [nu_n (by decide)]; exact g5
  · rw [nu_n (by decide)]; exact g6
  · rw [nu_n (by omega)]; exact g7 s hs
  · rw [nu_n (by decide)]; exact g8
  · rw [nu_n (by omega)]; exact g9 k k1 k2 k3
theorem dLw_ok (st : Bool) {S : pS} (hN : pN0 S) {cs : List Nat} {ts : List tkT} (h : dLw st S = .inr (cs, ts)) (hn : ∀ c t, S = .inr (c, t) → tsN t) : tsN ts ∧ lwTys cs [] = some [!st] ∧ ∀ c ∈ cs, 1000 ≤ c → c < 3000 → c - 1000 ∈ wsOf st := by
  match hq : pExp 31 (pNext S) with
  | .inl e => rw [dLw_e st hq] at h; cases h
  | .inr (c1, t1) =>
    have hc1 := pN0_exp (k := 31) (pN0_next hN) _ _ hq
    subst hc1
    obtain ⟨t2, e2, s2⟩ := pExp_ts hq
    obtain ⟨t3, e3, s3⟩ := pNext_ts e2
    have ht1 : tsN t1 := tsN_sub (hn _ _ e3) (fun x hx => s3 x (s2 x hx))
    cases st with
    | true =>
      rw [dLw_t, hq] at h
      obtain ⟨g1, new, g2, g3, g4⟩ := (pLv_ty true 6).1 [] t1 cs ts ht1 h
      rw [List.nil_append] at g2
      subst g2
      exact ⟨g1, g3 [] (by decide), g4⟩
    | false =>
      rw [dLw_f, hq] at h
      obtain ⟨g1, new, g2, g3, g4⟩ := (pLv_ty false 6).2.1 [] t1 cs ts ht1 h
      rw [List.nil_append] at g2
      subst g2
      exact ⟨g1, g3 [] (by decide), g4⟩
theorem pCl_in {S : pS} {cs : List Nat} {ts : List tkT} (h : pCl S = .inr (cs, ts)) : ∃ c, S = .inr (c, ts) := by
  match S, h with
  | .inl _, h => cases h
  | .inr (c, t), h => cases h; exact ⟨c, rfl⟩
theorem dOk_line {D : dT} (h : dOk D) : dOk (dLine D) := by
  refine ⟨pN0_line h.1, fun cs ts e => ?_⟩
  unfold dLine at e ⊢
  split
  · rename_i q
    rw [if_pos q] at e
    have e' : pTake 0 99 (pExp 4 (dTop2 D.1)) = .inr (cs, ts) := e
    have b3 := pTake_in e'
    obtain ⟨t4, e4, s4⟩ := pTake_ts e'
    obtain ⟨t3, e3, s3⟩ := pExp_ts e4
    have b2 := pTake_in e3
    obtain ⟨t2, e2, s2⟩ := pTake_ts e3
    obtain ⟨t1, e1, s1⟩ := pExp_ts e2
    have b1 := pTake_in e1
    obtain ⟨t0, e0, s0⟩ := pTake_ts e1
    obtain ⟨tz, ez, sz⟩ := pNext_ts e0
    obtain ⟨h1, h2, h3, h4⟩ := h.2 _ _ ez
    refine ⟨tsN_sub h1 (fun x hx => sz x (s0 x (s1 x (s2 x (s3 x (s4 x hx)))))), ?_, h3, h4⟩
    obtain ⟨g1, g2, g3, g4, g5, g6, g7, g8, g9⟩ := h2
    show dNum (dTop D.1 D.2.1)
    have hk : ∀ k, k ≠ 3 → k ≠ 4 → k ≠ 5 → dTop D.1 D.2.1 k = D.2.1 k := fun k k3 k4 k5 => by unfold dTop; rw [nu_n k5, nu_n k4, nu_n k3]
    refine ⟨?_, ?_, ?_, ?_, ?_, ?_, fun s hs => ?_, ?_, fun k k1 k2 k3 => ?_⟩
    · rw [hk _ (by decide) (by decide) (by decide), hk _ (by decide) (by decide) (by decide)]; exact g1
    · rw [hk _ (by decide) (by decide) (by decide)]; exact g2
    · unfold dTop; rw [nu_n (by decide), nu_n (by decide), nu_s]; exact b1.2.2.1
    · unfold dTop; rw [nu_n (by decide), nu_s]; exact b2.2.2.1
    · unfold dTop; rw [nu_s]; exact b3.2.2.1
    · rw [hk _ (by decide) (by decide) (by decide)]; exact g6
    · rw [hk _ (by omega) (by omega) (by omega)]; exact g7 s hs
    · rw [hk _ (by decide) (by decide) (by decide)]; exact g8
    · rw [hk _ (by omega) (by omega) (by omega)]; exact g9 k k1 k2 k3
  · rename_i q2
    rw [if_neg q2] at e
    split
    · rename_i q
      rw [if_pos q] at e
      split
      · rename_i q4
        rw [if_pos q4] at e
        exact (pFail_no (show pFail 4 D.1 = _ from e)).elim
      · rename_i q4
        rw [if_neg q4] at e
        have e' : pTake 0 9 (pExp 6 (pNext D.1)) = .inr (cs, ts) := e
        have b3 := pTake_in e'
        obtain ⟨t4, e4, s4⟩ := pTake_ts e'
        obtain ⟨t3, e3, s3⟩ := pExp_ts e4
        obtain ⟨tz, ez, sz⟩ := pNext_ts e3
        obtain ⟨h1, h2, h3, h4⟩ := h.2 _ _ ez
        refine ⟨tsN_sub h1 (fun x hx => sz x (s3 x (s4 x hx))), ?_, h3, h4⟩
        obtain ⟨g1, g2, g3, g4, g5, g6, g7, g8, g9⟩ := h2
        have g64 : D.2.1 6 < 4 := by omega
        show dNum (nu (nu D.2.1 (13 + D.2.1 6) _) 6 (D.2.1 6 + 1))
        refine ⟨?_, ?_, ?_, ?_, ?_, ?_, fun s hs => ?_, ?_, fun k k1 k2 k3 => ?_⟩
        · rw [nu_n (by decide), nu_n (by omega), nu_n (by decide), nu_n (by omega)]; exact g1
        · rw [nu_n (by decide), nu_n (by omega)]; exact g2
        · rw [nu_n (by decide), nu_n (by omega)]; exact g3
        · rw [nu_n (by decide), nu_n (by omega)]; exact g4
        · rw [nu_n (by decide), nu_n (by omega)]; exact g5
        · rw [nu_s]; omega
        · rw [nu_n (by omega)]
          by_cases z : 13 + s = 13 + D.2.1 6
          · rw [z, nu_s]; exact b3.2.2.1
          · rw [nu_n z]; exact g7 s hs
        · rw [nu_n (by decide), nu_n (by omega)]; exact g8
        · rw [nu_n (by omega), nu_n (by omega)]; exact g9 k k1 k2 k3
    · rename_i q5
      rw [if_neg q5] at e
      split
      · rename_i q
        rw [if_pos q] at e
        have e' : pTake 0 9 (pNext D.1) = .inr (cs, ts) := e
        have b3 := pTake_in e'
        obtain ⟨t4, e4, s4⟩ := pTake_ts e'
        obtain ⟨tz, ez, sz⟩ := pNext_ts e4
        obtain ⟨h1, h2, h3, h4⟩ := h.2 _ _ ez
        refine ⟨tsN_sub h1 (fun x hx => sz x (s4 x hx)), ?_, h3, h4⟩
        obtain ⟨g1, g2, g3, g4, g5, g6, g7, g8, g9⟩ := h2
        show dNum (nu D.2.1 26 _)
        refine ⟨?_, ?_, ?_, ?_, ?_, ?_, fun s hs => ?_, ?_, fun k k1 k2 k3 => ?_⟩
        · rw [nu_n (by decide), nu_n (by decide)]; exact g1
        · rw [nu_n (by decide)]; exact g2
        · rw [nu_n (by decide)]; exact g3
        · rw [nu_n (by decide)]; exact g4
        · rw [nu_n (by decide)]; exact g5
        · rw [nu_n (by decide)]; exact g6
        · rw [nu_n (by omega)]; exact g7 s hs
        · rw [nu_s]; exact b3.2.2.1
        · rw [nu_n (by omega)]; exact g9 k k1 k2 k3
      · rename_i q7
        rw [if_neg q7] at e
        split
        · rename_i q
          rw [if_pos q] at e
          obtain ⟨c, ec⟩ := pCl_in (show pCl (dLw true D.1) = _ from e)
          obtain ⟨cy, t, ty, dy, -⟩ := pHd_in q (by decide)
          have hw := dLw_ok true h.1 ec (fun c t hc => (h.2 _ _ hc).1)
          obtain ⟨h1, h2, h3, h4⟩ := h.2 _ _ dy
          refine ⟨hw.1, h2, fun cs hcs => ?_, h4⟩
          have hcs' : some (pCs (dLw true D.1)) = some cs := hcs
          rw [ec] at hcs'
          cases hcs'
          exact hw.2
        · rename_i q8
          rw [if_neg q8] at e
          split
          · rename_i q
            rw [if_pos q] at e
            obtain ⟨c, ec⟩ := pCl_in (show pCl (dLw false D.1) = _ from e)
            obtain ⟨cy, t, ty, dy, -⟩ := pHd_in q (by decide)
            have hw := dLw_ok false h.1 ec (fun c t hc => (h.2 _ _ hc).1)
            obtain ⟨h1, h2, h3, h4⟩ := h.2 _ _ dy
            refine ⟨hw.1, h2, h3, fun cs hcs => ?_⟩
            have hcs' : some (pCs (dLw false D.1)) = some cs := hcs
            rw [ec] at hcs'
            cases hcs'
            exact hw.2
          · rename_i q9
            rw [if_neg q9] at e
            exact (pFail_no (show pFail 2 D.1 = _ from e)).elim
theorem lx_N {tx : Nat → Nat} {n : Nat} : ∀ (m p : Nat), p ≤ n → n - p = m → tsN (lx tx n p) := by
  intro m
  induction m using Nat.strongRecOn with
  | _ m ih =>
    intro p hp hm
    by_cases h : (tokA tx n p).1 = 24
    · rw [lx_24 h]
      intro t ht
      rw [List.mem_singleton.mp ht]
      exact tokB_n
    · rw [lx_c hp h]
      intro t ht
      rcases List.mem_cons.mp ht with e | e
      · rw [e]; exact tokB_n
      · have h2 : ¬ n ≤ advTo cWh tx n p := fun q => h (tokB_24.mpr q)
        have hb := tokB_b (tx := tx) (n := n) (a := advTo cWh tx n p) (by omega)
        have hge := advTo_ge cWh tx n p
        have hb' : advTo cWh tx n p < (tokA tx n p).2.2.2 ∧ (tokA tx n p).2.2.2 ≤ n := hb
        exact ih (n - (tokA tx n p).2.2.2) (by omega) _ hb'.2 rfl t e
theorem dOk_start (tx : Nat → Nat) (n : Nat) : dOk (dStart tx n) := by
  refine dOk_close ⟨pN0_take (pN0_take (pN0_exp (pN0_exp (fun cs ts e => by cases e; rfl)))), fun cs ts e => ?_⟩
  have e' : pTake (pNm (dSt1 tx n)) 20 (dSt2 tx n) = .inr (cs, ts) := e
  have b2 := pTake_in e'
  obtain ⟨t2, e2, s2⟩ := pTake_ts e'
  have b1 := pTake_in e2
  obtain ⟨t1, e1, s1⟩ := pTake_ts e2
  obtain ⟨t0, e0, s0⟩ := pExp_ts e1
  obtain ⟨tz, ez, sz⟩ := pExp_ts e0
  cases ez
  refine ⟨tsN_sub (lx_N n 0 (Nat.zero_le _) rfl) (fun x hx => sz x (s0 x (s1 x (s2 x hx)))), ?_, fun cs h => (by cases h), fun cs h => (by cases h)⟩
  show dNum (nu (nu dE0 1 (pNm (dSt1 tx n))) 2 (pNm (dSt2 tx n)))
  refine ⟨?_, ?_, (by decide : 10 ≤ 99), (by decide : 1 ≤ 99), (by decide : 10 ≤ 99), (by decide : 0 ≤ 4), fun s hs => ?_, (by decide : 0 ≤ 9), fun k k1 k2 k3 => ?_⟩
  · rw [nu_n (by decide), nu_s, nu_s]; exact b2.2.1
  · rw [nu_s]; exact b2.2.2.1
  · rw [nu_n (by omega), nu_n (by omega)]
    unfold dE0
    rw [nu_n (by omega), nu_n (by omega), nu_n (by omega), nu_n (by omega), nu_n (by omega)]
    exact Nat.zero_le _
  · rw [nu_n (by omega), nu_n (by omega)]
    unfold dE0
    rw [nu_n (by omega), nu_n (by omega), nu_n (by omega), nu_n (by omega), nu_n (by omega)]
theorem dOk_loop : ∀ (m : Nat) {D : dT}, dOk D → dOk (dLoop m D)
  | 0, _, h => h
  | m + 1, D, h => by
    unfold dLoop
    split
    · exact h
    · exact dOk_loop m (dOk_close (dOk_line h))
theorem dOk_run (tx : Nat → Nat) (n : Nat) : dOk (dRun tx n) := dOk_loop 901 (dOk_start tx n)
theorem pLift_nil (S : pS) : pLift [] S = S := by
  match S with
  | .inl _ => rfl
  | .inr (_, _) => rfl
def dFk (D : dT) : Nat := pWr D.1
def dFp (D : dT) : Int32 := match D.1 with
  | .inl e => nI e.2
  | .inr _ => -1
def dRes (D : dT) : Int32 := match D.1 with
  | .inl e => -30 - nI e.1
  | .inr _ => nI (D.2.1 0)
