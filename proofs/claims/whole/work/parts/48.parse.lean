/-- a parser's state: a fault and its place, or codes and the tokens to come -/
abbrev pS : Type := (Nat × Nat) ⊕ (List Nat × List tkT)
def pHd : pS → Nat
  | .inl _ => 99
  | .inr (_, []) => 98
  | .inr (_, t :: _) => t.1
def pNm : pS → Nat
  | .inl _ => 0
  | .inr (_, []) => 0
  | .inr (_, t :: _) => t.2.1
def pPush (c : Nat) : pS → pS
  | .inl e => .inl e
  | .inr (cs, ts) => .inr (cs ++ [c], ts)
def pNext : pS → pS
  | .inl e => .inl e
  | .inr (cs, ts) => .inr (cs, ts.tail)
def pFail (k : Nat) : pS → pS
  | .inl e => .inl e
  | .inr (_, []) => .inl (k, 0)
  | .inr (_, t :: _) => .inl (if t.1 = 25 then 1 else k, t.2.2)
def pExp (k : Nat) (S : pS) : pS := if pHd S = k then pNext S else pFail 2 S
def pLoop (op : Nat → Option Nat) (f : pS → pS) : Nat → pS → pS
  | 0, S => S
  | m + 1, S => if (op (pHd S)).isSome then pLoop op f m (pPush ((op (pHd S)).getD 0) (f (pNext S))) else S
def opStar (k : Nat) : Option Nat := if k = 34 then some 3002 else none
def opSum (k : Nat) : Option Nat := if k = 32 then some 3000 else if k = 33 then some 3001 else none
def opAnd (k : Nat) : Option Nat := if k = 19 then some 3007 else none
def opOr (k : Nat) : Option Nat := if k = 20 then some 3008 else none
def opCmp (k : Nat) : Option Nat := if k = 39 then some 3003 else if k = 40 then some 3004 else if k = 41 then some 3005 else none
/-- words of a law of straying (true), of opening -/
def wdOf (st : Bool) (k : Nat) : Option Nat := if k = 7 then some 0 else if st then (if k = 14 then some 1 else if k = 6 then some 2 else if k = 15 then some 3 else if k = 16 then some 4 else none) else (if k = 17 then some 5 else if k = 18 then some 6 else none)
def pAtom (st : Bool) (go sm tr : pS → pS) (S : pS) : pS :=
  if pHd S = 23 then pNext (pPush (pNm S) S)
  else if (wdOf st (pHd S)).isSome then pNext (pPush (1000 + (wdOf st (pHd S)).getD 0) S)
  else if pHd S = 35 then pExp 36 (sm (go S))
  else if pHd S = 10 then pPush 3009 (pExp 13 (sm (pExp 12 (sm (pExp 11 (tr (go S)))))))
  else pFail 2 S
def pRep (op : Nat → Option Nat) (f : pS → pS) (S : pS) : pS := pLoop op f 900 (f S)
def pUnit (go un tr sum : pS → pS) (S : pS) : pS :=
  if pHd S = 21 then pPush 3006 (un (go S))
  else if pHd S = 37 then pExp 38 (tr (go S))
  else if (opCmp (pHd (sum S))).isSome then pPush ((opCmp (pHd (sum S))).getD 0) (sum (pNext (sum S)))
  else pFail 2 (sum S)
def pGo (r : Nat) : pS → pS := if r = 0 then pFail 4 else pNext
/-- sums, truths, units with r more within -/
def pLv (st : Bool) : Nat → (pS → pS) × (pS → pS) × (pS → pS)
  | 0 => (id, id, id)
  | r + 1 => (pRep opSum (pRep opStar (pAtom st (pGo r) (pLv st r).1 (pLv st r).2.1)),
      pRep opOr (pRep opAnd (pUnit (pGo r) (pLv st r).2.2 (pLv st r).2.1 (pRep opSum (pRep opStar (pAtom st (pGo r) (pLv st r).1 (pLv st r).2.1))))),
      pUnit (pGo r) (pLv st r).2.2 (pLv st r).2.1 (pRep opSum (pRep opStar (pAtom st (pGo r) (pLv st r).1 (pLv st r).2.1))))
def pAt (st : Bool) (r : Nat) : pS → pS := pAtom st (pGo r) (pLv st r).1 (pLv st r).2.1
def pTm (st : Bool) (r : Nat) : pS → pS := pRep opStar (pAt st r)
def pSm (st : Bool) (r : Nat) : pS → pS := pRep opSum (pTm st r)
def pUn (st : Bool) (r : Nat) : pS → pS := pUnit (pGo r) (pLv st r).2.2 (pLv st r).2.1 (pSm st r)
def pBo (st : Bool) (r : Nat) : pS → pS := pRep opAnd (pUn st r)
def pTr (st : Bool) (r : Nat) : pS → pS := pRep opOr (pBo st r)
theorem pLv_s (st : Bool) (r : Nat) : pLv st (r + 1) = (pSm st r, pTr st r, pUn st r) := rfl
/-- sizes -/
def pSz : pS → Nat
  | .inl _ => 0
  | .inr (cs, ts) => cs.length + ts.length
def pLen : pS → Nat
  | .inl _ => 0
  | .inr (_, ts) => ts.length
def pT : pS → Prop
  | .inl e => 1 ≤ e.1 ∧ e.1 ≤ 4
  | .inr (_, ts) => tkOK ts
theorem tk_c {t : tkT} {ts : List tkT} (h : tkOK (t :: ts)) : (t.1 = 24 ∧ ts = []) ∨ (t.1 ≠ 24 ∧ tkOK ts) := by
  obtain ⟨pre, e, h1, h2, h3⟩ := h
  cases pre with
  | nil =>
    have h1' : t = e ∧ ts = [] := by simpa using h1
    exact Or.inl ⟨by rw [h1'.1]; exact h2, h1'.2⟩
  | cons a pre =>
    have h1' : t = a ∧ ts = pre ++ [e] := by simpa using h1
    exact Or.inr ⟨by rw [h1'.1]; exact h3 a List.mem_cons_self, pre, e, h1'.2, h2, fun x hx => h3 x (List.mem_cons_of_mem _ hx)⟩
theorem tk_0 (h : tkOK []) : False := by
  obtain ⟨pre, e, h1, -⟩ := h
  cases pre <;> simp at h1
theorem pHd_in {S : pS} {k : Nat} (h : pHd S = k) (h1 : k < 98) : ∃ cs t ts, S = .inr (cs, t :: ts) ∧ t.1 = k := by
  match S, h with
  | .inl _, h => exact absurd (show 99 = k from h) (by omega)
  | .inr (_, []), h => exact absurd (show 98 = k from h) (by omega)
  | .inr (cs, t :: ts), h => exact ⟨cs, t, ts, rfl, h⟩
theorem pNext_lt {S : pS} {k : Nat} (hT : pT S) (h : pHd S = k) (h1 : k < 98) (h2 : k ≠ 24) : pT (pNext S) ∧ pSz (pNext S) + 1 = pSz S ∧ pLen (pNext S) + 1 = pLen S := by
  obtain ⟨cs, t, ts, rfl, hk⟩ := pHd_in h h1
  rcases tk_c (show tkOK (t :: ts) from hT) with ⟨q, -⟩ | ⟨-, q⟩
  · exact absurd (hk.symm.trans q) h2
  · exact ⟨q, rfl, rfl⟩
theorem pPush_hd (c : Nat) (S : pS) : pHd (pPush c S) = pHd S := by
  match S with
  | .inl _ => rfl
  | .inr (_, []) => rfl
  | .inr (_, t :: _) => rfl
theorem pPush_T {c : Nat} {S : pS} (h : pT S) : pT (pPush c S) := by
  match S, h with
  | .inl _, h => exact h
  | .inr (_, ts), h => exact h
theorem pPush_sz (c : Nat) (S : pS) : pSz (pPush c S) ≤ pSz S + 1 := by
  match S with
  | .inl _ => exact Nat.zero_le _
  | .inr (cs, ts) => show (cs ++ [c]).length + ts.length ≤ cs.length + ts.length + 1; rw [List.length_append]; show cs.length + 1 + _ ≤ _; omega
theorem pPush_len (c : Nat) (S : pS) : pLen (pPush c S) = pLen S := by
  match S with
  | .inl _ => rfl
  | .inr (cs, ts) => rfl
theorem pFail_in (k : Nat) (S : pS) : ∃ e, pFail k S = .inl e := by
  match S with
  | .inl e => exact ⟨e, rfl⟩
  | .inr (_, []) => exact ⟨_, rfl⟩
  | .inr (_, t :: _) => exact ⟨_, rfl⟩
theorem pFail_T {k : Nat} {S : pS} (hk : 1 ≤ k ∧ k ≤ 4) (h : pT S) : pT (pFail k S) := by
  match S, h with
  | .inl _, h => exact h
  | .inr (_, []), h => exact hk
  | .inr (_, t :: _), h =>
    show 1 ≤ (if t.1 = 25 then 1 else k) ∧ (if t.1 = 25 then 1 else k) ≤ 4
    split <;> omega
theorem pFail_sz (k : Nat) (S : pS) : pSz (pFail k S) = 0 ∧ pLen (pFail k S) = 0 := by
  obtain ⟨e, he⟩ := pFail_in k S
  rw [he]
  exact ⟨rfl, rfl⟩
/-- a good parser -/
def pG (f : pS → pS) : Prop := (∀ e, f (.inl e) = .inl e) ∧ ∀ S, pT S → pT (f S) ∧ pSz (f S) ≤ pSz S ∧ pLen (f S) ≤ pLen S
theorem pG_id : pG id := ⟨fun _ => rfl, fun S h => ⟨h, Nat.le_refl _, Nat.le_refl _⟩⟩
theorem pFail_G {k : Nat} (hk : 1 ≤ k ∧ k ≤ 4) : pG (pFail k) := ⟨fun _ => rfl, fun S h => ⟨pFail_T hk h, by rw [(pFail_sz k S).1]; exact Nat.zero_le _, by rw [(pFail_sz k S).2]; exact Nat.zero_le _⟩⟩
theorem pG.comp {f g : pS → pS} (hf : pG f) (hg : pG g) : pG (fun S => f (g S)) := ⟨fun e => by show f (g (.inl e)) = .inl e; rw [hg.1, hf.1], fun S h => by
  have h1 := hg.2 S h
  have h2 := hf.2 _ h1.1
  exact ⟨h2.1, Nat.le_trans h2.2.1 h1.2.1, Nat.le_trans h2.2.2 h1.2.2⟩⟩
theorem pExp_G {k : Nat} (h1 : k < 98) (h2 : k ≠ 24) : pG (pExp k) := by
  refine ⟨fun e => ?_, fun S h => ?_⟩
  · unfold pExp
    rw [if_neg (by show 99 ≠ k; omega)]
    rfl
  · unfold pExp
    split
    · rename_i q
      have := pNext_lt h q h1 h2
      exact ⟨this.1, by omega, by omega⟩
    · exact (pFail_G (by decide)).2 S h
theorem pGo_G {r k : Nat} {S : pS} (h : pT S) (hk : pHd S = k) (h1 : k < 98) (h2 : k ≠ 24) : pT (pGo r S) ∧ (pSz (pGo r S) + 1 = pSz S ∨ pSz (pGo r S) = 0) ∧ pLen (pGo r S) ≤ pLen S := by
  unfold pGo
  split
  · exact ⟨pFail_T (by decide) h, Or.inr (pFail_sz 4 S).1, by rw [(pFail_sz 4 S).2]; exact Nat.zero_le _⟩
  · have := pNext_lt h hk h1 h2
    exact ⟨this.1, Or.inl this.2.1, by omega⟩
/-- which tokens join -/
def opOK (op : Nat → Option Nat) : Prop := ∀ k, (op k).isSome → k < 98 ∧ k ≠ 24
theorem opStar_OK : opOK opStar := fun k h => by unfold opStar at h; (repeat' split at h) <;> first | omega | cases h
theorem opSum_OK : opOK opSum := fun k h => by unfold opSum at h; (repeat' split at h) <;> first | omega | cases h
theorem opAnd_OK : opOK opAnd := fun k h => by unfold opAnd at h; (repeat' split at h) <;> first | omega | cases h
theorem opOr_OK : opOK opOr := fun k h => by unfold opOr at h; (repeat' split at h) <;> first | omega | cases h
theorem opCmp_OK : opOK opCmp := fun k h => by unfold opCmp at h; (repeat' split at h) <;> first | omega | cases h
theorem wdOf_OK (st : Bool) : opOK (wdOf st) := fun k h => by unfold wdOf at h; (repeat' split at h) <;> first | omega | cases h
theorem pLoop_none {op : Nat → Option Nat} {f : pS → pS} {S : pS} (h : ¬ (op (pHd S)).isSome) : ∀ m, pLoop op f m S = S
  | 0 => rfl
  | m + 1 => if_neg h
theorem pLoop_some {op : Nat → Option Nat} {f : pS → pS} {S : pS} (h : (op (pHd S)).isSome) (m : Nat) : pLoop op f (m + 1) S = pLoop op f m (pPush ((op (pHd S)).getD 0) (f (pNext S))) := if_pos h
theorem pLoop_G {op : Nat → Option Nat} {f : pS → pS} (ho : opOK op) (hf : pG f) : ∀ m, pG (pLoop op f m)
  | 0 => pG_id
  | m + 1 => by
    have ih := pLoop_G ho hf m
    have h99 : ∀ e, ¬ (op (pHd (.inl e))).isSome := fun e q => absurd (ho _ q).1 (by show ¬ 99 < 98; decide)
    refine ⟨fun e => pLoop_none (h99 e) _, fun S h => ?_⟩
    by_cases q : (op (pHd S)).isSome
    · rw [pLoop_some q]
      have hq := ho _ q
      have h1 := pNext_lt h rfl hq.1 hq.2
      have h2 := hf.2 _ h1.1
      have h3 := ih.2 _ (pPush_T (c := (op (pHd S)).getD 0) h2.1)
      have h4 := pPush_sz ((op (pHd S)).getD 0) (f (pNext S))
      have h5 := pPush_len ((op (pHd S)).getD 0) (f (pNext S))
      exact ⟨h3.1, by omega, by omega⟩
    · rw [pLoop_none q]
      exact ⟨h, Nat.le_refl _, Nat.le_refl _⟩
/-- one token left: it is the end -/
theorem pT_1 {op : Nat → Option Nat} (ho : opOK op) {S : pS} (h : pT S) (h1 : pLen S ≤ 1) : ¬ (op (pHd S)).isSome := by
  intro q
  have hq := ho _ q
  obtain ⟨cs, t, ts, rfl, hk⟩ := pHd_in (S := S) rfl hq.1
  have hl : (t :: ts).length ≤ 1 := h1
  rcases tk_c (show tkOK (t :: ts) from h) with ⟨z, -⟩ | ⟨-, z⟩
  · exact hq.2 (hk ▸ z)
  · cases ts with
    | nil => exact tk_0 z
    | cons a b => simp at hl
theorem pRep_G {op : Nat → Option Nat} {f : pS → pS} (ho : opOK op) (hf : pG f) : pG (pRep op f) := (pLoop_G ho hf 900).comp hf
theorem pAtom_G {st : Bool} {r : Nat} {sm tr : pS → pS} (hs : pG sm) (ht : pG tr) : pG (pAtom st (pGo r) sm tr) := by
  have hw := wdOf_OK st
  refine ⟨fun e => ?_, fun S h => ?_⟩
  · unfold pAtom
    rw [if_neg (by show ¬ 99 = 23; decide), if_neg (fun q => absurd (hw _ q).1 (by show ¬ 99 < 98; decide)), if_neg (by show ¬ 99 = 35; decide), if_neg (by show ¬ 99 = 10; decide)]
    rfl
  · unfold pAtom
    have hpn : ∀ c k, pHd S = k → k < 98 → k ≠ 24 → pT (pNext (pPush c S)) ∧ pSz (pNext (pPush c S)) ≤ pSz S ∧ pLen (pNext (pPush c S)) ≤ pLen S := by
      intro c k hk h1 h2
      have h3 := pNext_lt (pPush_T (c := c) h) ((pPush_hd c S).trans hk) h1 h2
      have h4 := pPush_sz c S
      have h5 := pPush_len c S
      exact ⟨h3.1, by omega, by omega⟩
    split
    · rename_i q; exact hpn _ _ q (by decide) (by decide)
    · split
      · rename_i q; exact hpn _ _ rfl (hw _ q).1 (hw _ q).2
      · split
        · rename_i q
          have h1 := pGo_G (r := r) h q (by decide) (by decide)
          have h2 := ((pExp_G (k := 36) (by decide) (by decide)).comp hs).2 _ h1.1
          exact ⟨h2.1, Nat.le_trans h2.2.1 (by omega), Nat.le_trans h2.2.2 h1.2.2⟩
        · split
          · rename_i q
            have h1 := pGo_G (r := r) h q (by decide) (by decide)
            have h2 : pT (pExp 13 (sm (pExp 12 (sm (pExp 11 (tr (pGo r S))))))) ∧ pSz (pExp 13 (sm (pExp 12 (sm (pExp 11 (tr (pGo r S))))))) ≤ pSz (pGo r S) ∧ pLen (pExp 13 (sm (pExp 12 (sm (pExp 11 (tr (pGo r S))))))) ≤ pLen (pGo r S) := ((pExp_G (k := 13) (by decide) (by decide)).comp (hs.comp ((pExp_G (k := 12) (by decide) (by decide)).comp (hs.comp ((pExp_G (k := 11) (by decide) (by decide)).comp ht))))).2 _ h1.1
            have h4 := pPush_sz 3009 (pExp 13 (sm (pExp 12 (sm (pExp 11 (tr (pGo r S)))))))
            have h5 := pPush_len 3009 (pExp 13 (sm (pExp 12 (sm (pExp 11 (tr (pGo r S)))))))
            refine ⟨pPush_T h2.1, ?_, by omega⟩
            rcases h1.2.1 with z | z
            · omega
            · have h0 : ∀ {X : pS}, pT X → pSz X = 0 → ∃ e, X = .inl e := by
                intro X hX hz
                match X, hX, hz with
                | .inl e, _, _ => exact ⟨e, rfl⟩
                | .inr (cs, []), hX, _ => exact (tk_0 hX).elim
                | .inr (cs, t :: ts), _, hz => exact absurd hz (by show cs.length + (ts.length + 1) ≠ 0; omega)
              obtain ⟨e, he⟩ := h0 h1.1 z
              have e1 : pExp 13 (sm (pExp 12 (sm (pExp 11 (tr (pGo r S)))))) = .inl e := by
                rw [he, ht.1, (pExp_G (k := 11) (by decide) (by decide)).1, hs.1, (pExp_G (k := 12) (by decide) (by decide)).1, hs.1, (pExp_G (k := 13) (by decide) (by decide)).1]
              rw [e1]
              exact Nat.zero_le _
          · exact (pFail_G (by decide)).2 S h
theorem pT_0 {X : pS} (hX : pT X) (hz : pSz X = 0) : ∃ e, X = .inl e := by
  match X, hX, hz with
  | .inl e, _, _ => exact ⟨e, rfl⟩
  | .inr (cs, []), hX, _ => exact (tk_0 hX).elim
  | .inr (cs, t :: ts), _, hz => exact absurd hz (by show cs.length + (ts.length + 1) ≠ 0; omega)
theorem pUnit_G {r : Nat} {un tr sum : pS → pS} (hu : pG un) (ht : pG tr) (hs : pG sum) : pG (pUnit (pGo r) un tr sum) := by
  refine ⟨fun e => ?_, fun S h => ?_⟩
  · unfold pUnit
    rw [if_neg (by show ¬ 99 = 21; decide), if_neg (by show ¬ 99 = 37; decide), hs.1, if_neg (fun q => absurd (opCmp_OK _ q).1 (by show ¬ 99 < 98; decide))]
    rfl
  · unfold pUnit
    split
    · rename_i q
      have h1 := pGo_G (r := r) h q (by decide) (by decide)
      have h2 := hu.2 _ h1.1
      have h4 := pPush_sz 3006 (un (pGo r S))
      have h5 := pPush_len 3006 (un (pGo r S))
      refine ⟨pPush_T h2.1, ?_, by omega⟩
      rcases h1.2.1 with z | z
      · omega
      · obtain ⟨e, he⟩ := pT_0 h1.1 z
        rw [he, hu.1]
        exact Nat.zero_le _
    · split
      · rename_i q
        have h1 := pGo_G (r := r) h q (by decide) (by decide)
        have h2 := ((pExp_G (k := 38) (by decide) (by decide)).comp ht).2 _ h1.1
        exact ⟨h2.1, Nat.le_trans h2.2.1 (by omega), Nat.le_trans h2.2.2 h1.2.2⟩
      · have h1 := hs.2 S h
        split
        · rename_i q
          have hq := opCmp_OK _ q
          have h2 := pNext_lt h1.1 rfl hq.1 hq.2
          have h3 := hs.2 _ h2.1
          have h4 := pPush_sz ((opCmp (pHd (sum S))).getD 0) (sum (pNext (sum S)))
          have h5 := pPush_len ((opCmp (pHd (sum S))).getD 0) (sum (pNext (sum S)))
          exact ⟨pPush_T h3.1, by omega, by omega⟩
        · have h2 := (pFail_G (k := 2) (by decide)).2 _ h1.1
          exact ⟨h2.1, by omega, by omega⟩
theorem pLv_G (st : Bool) : ∀ r, pG (pLv st r).1 ∧ pG (pLv st r).2.1 ∧ pG (pLv st r).2.2
  | 0 => ⟨pG_id, pG_id, pG_id⟩
  | r + 1 => by
    obtain ⟨h1, h2, h3⟩ := pLv_G st r
    have ha : pG (pSm st r) := pRep_G opSum_OK (pRep_G opStar_OK (pAtom_G h1 h2))
    have hu : pG (pUn st r) := pUnit_G h3 h2 ha
    exact ⟨ha, pRep_G opOr_OK (pRep_G opAnd_OK hu), hu⟩
theorem pAt_G (st : Bool) (r : Nat) : pG (pAt st r) := pAtom_G (pLv_G st r).1 (pLv_G st r).2.1
theorem pTm_G (st : Bool) (r : Nat) : pG (pTm st r) := pRep_G opStar_OK (pAt_G st r)
theorem pSm_G (st : Bool) (r : Nat) : pG (pSm st r) := pRep_G opSum_OK (pTm_G st r)
theorem pUn_G (st : Bool) (r : Nat) : pG (pUn st r) := pUnit_G (pLv_G st r).2.2 (pLv_G st r).2.1 (pSm_G st r)
theorem pBo_G (st : Bool) (r : Nat) : pG (pBo st r) := pRep_G opAnd_OK (pUn_G st r)
theorem pTr_G (st : Bool) (r : Nat) : pG (pTr st r) := pRep_G opOr_OK (pBo_G st r)
