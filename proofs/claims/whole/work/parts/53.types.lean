def pLift (pre : List Nat) : pS → pS
  | .inl e => .inl e
  | .inr (cs, ts) => .inr (pre ++ cs, ts)
theorem pLift_hd (pre : List Nat) (S : pS) : pHd (pLift pre S) = pHd S := by
  match S with
  | .inl _ => rfl
  | .inr (_, []) => rfl
  | .inr (_, _ :: _) => rfl
theorem pLift_nm (pre : List Nat) (S : pS) : pNm (pLift pre S) = pNm S := by
  match S with
  | .inl _ => rfl
  | .inr (_, []) => rfl
  | .inr (_, _ :: _) => rfl
def pFrm (f : pS → pS) : Prop := ∀ pre S, f (pLift pre S) = pLift pre (f S)
theorem pNext_fr : pFrm pNext := fun pre S => by
  match S with
  | .inl _ => rfl
  | .inr (_, _) => rfl
theorem pPush_fr (c : Nat) : pFrm (pPush c) := fun pre S => by
  match S with
  | .inl _ => rfl
  | .inr (cs, ts) => show Sum.inr (pre ++ cs ++ [c], ts) = Sum.inr (pre ++ (cs ++ [c]), ts); rw [List.append_assoc]
theorem pFail_fr (k : Nat) : pFrm (pFail k) := fun pre S => by
  match S with
  | .inl _ => rfl
  | .inr (_, []) => rfl
  | .inr (_, _ :: _) => rfl
theorem pExp_fr (k : Nat) : pFrm (pExp k) := fun pre S => by
  unfold pExp
  rw [pLift_hd]
  split
  · exact pNext_fr pre S
  · exact pFail_fr 2 pre S
theorem pGo_fr (r : Nat) : pFrm (pGo r) := fun pre S => by
  unfold pGo
  split
  · exact pFail_fr 4 pre S
  · exact pNext_fr pre S
theorem pLoop_fr {op : Nat → Option Nat} {f : pS → pS} (hf : pFrm f) : ∀ m, pFrm (pLoop op f m)
  | 0 => fun _ _ => rfl
  | m + 1 => fun pre S => by
    by_cases h : (op (pHd S)).isSome
    · rw [pLoop_some h, pLoop_some (by rw [pLift_hd]; exact h), pLift_hd, pNext_fr, hf, pPush_fr, pLoop_fr hf m]
    · rw [pLoop_none h, pLoop_none (by rw [pLift_hd]; exact h)]
theorem pRep_fr {op : Nat → Option Nat} {f : pS → pS} (hf : pFrm f) : pFrm (pRep op f) := fun pre S => by
  unfold pRep
  rw [hf, pLoop_fr hf 900]
theorem pAtom_fr {st : Bool} {go sm tr : pS → pS} (hg : pFrm go) (hs : pFrm sm) (ht : pFrm tr) : pFrm (pAtom st go sm tr) := fun pre S => by
  unfold pAtom
  simp only [pLift_hd, pLift_nm]
  split
  · rw [pPush_fr, pNext_fr]
  · split
    · rw [pPush_fr, pNext_fr]
    · split
      · rw [hg, hs, pExp_fr]
      · split
        · rw [hg, ht, pExp_fr, hs, pExp_fr, hs, pExp_fr, pPush_fr]
        · rw [pFail_fr]
theorem pUnit_fr {go un tr sum : pS → pS} (hg : pFrm go) (hu : pFrm un) (ht : pFrm tr) (hs : pFrm sum) : pFrm (pUnit go un tr sum) := fun pre S => by
  unfold pUnit
  simp only [hs pre S, pLift_hd]
  split
  · rw [hg, hu, pPush_fr]
  · split
    · rw [hg, ht, pExp_fr]
    · split
      · rw [pNext_fr, hs, pPush_fr]
      · rw [pFail_fr]
theorem pLv_fr (st : Bool) : ∀ r, pFrm (pLv st r).1 ∧ pFrm (pLv st r).2.1 ∧ pFrm (pLv st r).2.2
  | 0 => ⟨fun _ _ => rfl, fun _ _ => rfl, fun _ _ => rfl⟩
  | r + 1 => by
    obtain ⟨h1, h2, h3⟩ := pLv_fr st r
    have ha : pFrm (pSm st r) := pRep_fr (pRep_fr (pAtom_fr (pGo_fr r) h1 h2))
    have hu : pFrm (pUn st r) := pUnit_fr (pGo_fr r) h3 h2 ha
    exact ⟨ha, pRep_fr (pRep_fr hu), hu⟩
theorem pSm_fr (st : Bool) (r : Nat) : pFrm (pSm st r) := (pLv_fr st (r + 1)).1
theorem pTr_fr (st : Bool) (r : Nat) : pFrm (pTr st r) := (pLv_fr st (r + 1)).2.1
/-- types -/
theorem lwTys_app : ∀ (x y : List Nat) (s : List Bool), lwTys (x ++ y) s = (lwTys x s).bind (lwTys y)
  | [], y, s => rfl
  | c :: x, y, s => by
    show (lwTy c s).bind (lwTys (x ++ y)) = ((lwTy c s).bind (lwTys x)).bind (lwTys y)
    cases lwTy c s with
    | none => rfl
    | some t => exact lwTys_app x y t
abbrev tsN (ts : List tkT) : Prop := ∀ t ∈ ts, t.2.1 < 1000
def pTyp (ws : List Nat) (f : pS → pS) (a b : List Bool) (h : Nat) : Prop := ∀ cs ts cs' ts', tsN ts → f (.inr (cs, ts)) = .inr (cs', ts') → tsN ts' ∧ ∃ new, cs' = cs ++ new ∧ (∀ s : List Bool, s.length + h ≤ 64 → lwTys new (a ++ s) = some (b ++ s)) ∧ ∀ c ∈ new, 1000 ≤ c → c < 3000 → c - 1000 ∈ ws
theorem pTyp.comp {ws : List Nat} {f g : pS → pS} {a b c : List Bool} {h : Nat} (hf : pTyp ws f a b h) (hg : pTyp ws g b c h) (hl : ∀ e, g (.inl e) = .inl e) : pTyp ws (fun S => g (f S)) a c h := by
  intro cs ts cs' ts' hn he
  have he' : g (f (.inr (cs, ts))) = .inr (cs', ts') := he
  match hx : f (.inr (cs, ts)) with
  | .inl e => rw [hx, hl] at he'; cases he'
  | .inr (c1, t1) =>
    rw [hx] at he'
    obtain ⟨h1, n1, h2, h3, h4⟩ := hf cs ts c1 t1 hn hx
    obtain ⟨g1, n2, g2, g3, g4⟩ := hg c1 t1 cs' ts' h1 he'
    refine ⟨g1, n1 ++ n2, by rw [g2, h2, List.append_assoc], fun s hs => ?_, fun x hx => ?_⟩
    · rw [lwTys_app, h3 s hs]
      exact g3 s hs
    · rcases List.mem_append.mp hx with q | q
      · exact h4 x q
      · exact g4 x q
theorem pTyp.mono {ws : List Nat} {f : pS → pS} {a b : List Bool} {h h' : Nat} (hf : pTyp ws f a b h) (hh : h ≤ h') : pTyp ws f a b h' := by
  intro cs ts cs' ts' hn he
  obtain ⟨h1, n1, h2, h3, h4⟩ := hf cs ts cs' ts' hn he
  exact ⟨h1, n1, h2, fun s hs => h3 s (by omega), h4⟩
theorem pTyp.fr {ws : List Nat} {f : pS → pS} {a b : List Bool} {h : Nat} (hf : pTyp ws f a b h) (x : List Bool) : pTyp ws f (a ++ x) (b ++ x) (h + x.length) := by
  intro cs ts cs' ts' hn he
  obtain ⟨h1, n1, h2, h3, h4⟩ := hf cs ts cs' ts' hn he
  refine ⟨h1, n1, h2, fun s hs => ?_, h4⟩
  rw [List.append_assoc, List.append_assoc]
  exact h3 (x ++ s) (by rw [List.length_append]; omega)
theorem pNext_ty (ws : List Nat) (a : List Bool) (h : Nat) : pTyp ws pNext a a h := by
  intro cs ts cs' ts' hn he
  have he' : (Sum.inr (cs, ts.tail) : pS) = .inr (cs', ts') := he
  cases he'
  exact ⟨fun t ht => hn t (List.mem_of_mem_tail ht), [], (List.append_nil _).symm, fun s _ => rfl, fun c hc => nomatch hc⟩
theorem pFail_ty (ws : List Nat) (k : Nat) (a b : List Bool) (h : Nat) : pTyp ws (pFail k) a b h := by
  intro cs ts cs' ts' hn he
  exact (pFail_no he).elim
theorem pExp_ty (ws : List Nat) (k : Nat) (a : List Bool) (h : Nat) : pTyp ws (pExp k) a a h := by
  intro cs ts cs' ts' hn he
  unfold pExp at he
  split at he
  · exact pNext_ty ws a h cs ts cs' ts' hn he
  · exact (pFail_no he).elim
theorem pGo_ty (ws : List Nat) (r : Nat) (a : List Bool) (h : Nat) : pTyp ws (pGo r) a a h := by
  unfold pGo
  split
  · exact pFail_ty ws 4 a a h
  · exact pNext_ty ws a h
theorem pPush_ty {ws : List Nat} {c : Nat} {a b : List Bool} {h : Nat} (hc : ∀ s : List Bool, s.length + h ≤ 64 → lwTy c (a ++ s) = some (b ++ s)) (hw : 1000 ≤ c → c < 3000 → c - 1000 ∈ ws) : pTyp ws (pPush c) a b h := by
  intro cs ts cs' ts' hn he
  have he' : (Sum.inr (cs ++ [c], ts) : pS) = .inr (cs', ts') := he
  cases he'
  refine ⟨hn, [c], rfl, fun s hs => ?_, fun x hx => ?_⟩
  · show (lwTy c (a ++ s)).bind (lwTys []) = _
    rw [hc s hs]
    rfl
  · rw [List.mem_singleton.mp hx]; exact hw
theorem pLoop_ty {ws : List Nat} {op : Nat → Option Nat} {f : pS → pS} {t : Bool} {h : Nat} (hf : pTyp ws f [] [t] h) (hl : ∀ e, f (.inl e) = .inl e) (hop : ∀ k, (op k).isSome → 3000 ≤ (op k).getD 0 ∧ ∀ s, lwTy ((op k).getD 0) (t :: t :: s) = some (t :: s)) : ∀ m, pTyp ws (pLoop op f m) [t] [t] (h + 1)
  | 0 => fun cs ts cs' ts' hn he => by
    cases he
    exact ⟨hn, [], (List.append_nil _).symm, fun s _ => rfl, fun c hc => nomatch hc⟩
  | m + 1 => fun cs ts cs' ts' hn he => by
    have ih := pLoop_ty hf hl hop m
    by_cases q : (op (pHd (.inr (cs, ts)))).isSome
    · rw [pLoop_some q] at he
      have hq := hop _ q
      have h1 : pTyp ws (fun S => pPush ((op (pHd (.inr (cs, ts)))).getD 0) (f (pNext S))) [t] [t] (h + 1) := ((pNext_ty ws [t] (h + 1)).comp (hf.fr [t]) hl).comp (pPush_ty (fun s _ => hq.2 s) (fun _ z => absurd hq.1 (by omega))) (fun _ => rfl)
      have hm : ∀ e, pLoop op f m (.inl e) = .inl e := by
        intro e
        cases m with
        | zero => rfl
        | succ m =>
          by_cases z : (op (pHd (.inl e))).isSome
          · have : ∀ m, pLoop op f m (.inl e) = .inl e := by
              intro m
              induction m with
              | zero => rfl
              | succ m ih2 => rw [pLoop_some z, show pNext (.inl e) = .inl e from rfl, hl]; exact ih2
            exact this _
          · exact pLoop_none z _
      exact (h1.comp ih hm) cs ts cs' ts' hn he
    · rw [pLoop_none q] at he
      cases he
      exact ⟨hn, [], (List.append_nil _).symm, fun s _ => rfl, fun c hc => nomatch hc⟩
theorem pRep_ty {ws : List Nat} {op : Nat → Option Nat} {f : pS → pS} {t : Bool} {h : Nat} (ho : opOK op) (hg : pG f) (hf : pTyp ws f [] [t] h) (hop : ∀ k, (op k).isSome → 3000 ≤ (op k).getD 0 ∧ ∀ s, lwTy ((op k).getD 0) (t :: t :: s) = some (t :: s)) : pTyp ws (pRep op f) [] [t] (h + 1) := (hf.mono (Nat.le_succ h)).comp (pLoop_ty hf hg.1 hop 900) (pLoop_G ho hg 900).1
theorem opStar_t : ∀ k, (opStar k).isSome → 3000 ≤ (opStar k).getD 0 ∧ ∀ s, lwTy ((opStar k).getD 0) (false :: false :: s) = some (false :: s) := fun k h => by
  rw [opStar_i.mp h]
  exact ⟨by decide, fun s => rfl⟩
theorem opSum_t : ∀ k, (opSum k).isSome → 3000 ≤ (opSum k).getD 0 ∧ ∀ s, lwTy ((opSum k).getD 0) (false :: false :: s) = some (false :: s) := fun k h => by
  rcases opSum_i.mp h with e | e <;> rw [e] <;> exact ⟨by decide, fun s => rfl⟩
theorem opAnd_t : ∀ k, (opAnd k).isSome → 3000 ≤ (opAnd k).getD 0 ∧ ∀ s, lwTy ((opAnd k).getD 0) (true :: true :: s) = some (true :: s) := fun k h => by
  rw [opAnd_i.mp h]
  exact ⟨by decide, fun s => rfl⟩
theorem opOr_t : ∀ k, (opOr k).isSome → 3000 ≤ (opOr k).getD 0 ∧ ∀ s, lwTy ((opOr k).getD 0) (true :: true :: s) = some (true :: s) := fun k h => by
  rw [opOr_i.mp h]
  exact ⟨by decide, fun s => rfl⟩
theorem opCmp_t : ∀ k, (opCmp k).isSome → 3000 ≤ (opCmp k).getD 0 ∧ ∀ s, lwTy ((opCmp k).getD 0) (false :: false :: s) = some (true :: s) := fun k h => by
  rcases opCmp_i.mp h with e | e | e <;> rw [e] <;> exact ⟨by decide, fun s => rfl⟩
def wsOf (st : Bool) : List Nat := if st then [0, 1, 2, 3, 4] else [0, 5, 6]
theorem wdOf_w {st : Bool} {k w : Nat} (h : wdOf st k = some w) : w < 7 ∧ w ∈ wsOf st := by
  unfold wdOf at h
  unfold wsOf
  cases st <;> simp only [Bool.false_eq_true, if_false, if_true] at h ⊢ <;> (repeat' split at h) <;> cases h <;> decide
theorem num_ty {c : Nat} (hc : c < 1007) (s : List Bool) (hs : s.length + 1 ≤ 64) : lwTy c ([] ++ s) = some ([false] ++ s) := by
  unfold lwTy
  rw [if_pos (by omega), if_pos (by show s.length < 64; omega)]
  rfl
theorem pAtom_ty {st : Bool} {r h : Nat} {sm tr : pS → pS} (hs : pTyp (wsOf st) sm [] [false] h) (ht : pTyp (wsOf st) tr [] [true] (h + 2)) (gs : pG sm) (gt : pG tr) : pTyp (wsOf st) (pAtom st (pGo r) sm tr) [] [false] (h + 2) := by
  intro cs ts cs' ts' hn he
  unfold pAtom at he
  split at he
  · rename_i q
    obtain ⟨cs0, t, ts0, hx, hk⟩ := pHd_in q (by decide)
    have hx' : cs = cs0 ∧ ts = t :: ts0 := by cases hx; exact ⟨rfl, rfl⟩
    have hnm : pNm (.inr (cs, ts)) < 1000 := by
      rw [hx]
      exact hn t (by rw [hx'.2]; exact List.mem_cons_self)
    exact ((pPush_ty (h := h + 2) (fun s h1 => num_ty (c := pNm (.inr (cs, ts))) (by omega) s (by omega)) (fun z => absurd z (by omega))).comp (pNext_ty (wsOf st) [false] (h + 2)) (fun _ => rfl)) cs ts cs' ts' hn he
  · split at he
    · rename_i q
      obtain ⟨w, hw⟩ := Option.isSome_iff_exists.mp q
      have hw2 := wdOf_w hw
      rw [hw] at he
      exact ((pPush_ty (h := h + 2) (fun s h1 => num_ty (c := 1000 + w) (by omega) s (by omega)) (fun _ _ => by rw [show 1000 + w - 1000 = w by omega]; exact hw2.2)).comp (pNext_ty (wsOf st) [false] (h + 2)) (fun _ => rfl)) cs ts cs' ts' hn he
    · split at he
      · exact (((pGo_ty (wsOf st) r [] (h + 2)).comp (hs.mono (by omega)) gs.1).comp (pExp_ty (wsOf st) 36 [false] (h + 2)) (pExp_G (by decide) (by decide)).1) cs ts cs' ts' hn he
      · split at he
        · have h1 := ((pGo_ty (wsOf st) r [] (h + 2)).comp ht gt.1).comp (pExp_ty (wsOf st) 11 [true] (h + 2)) (pExp_G (by decide) (by decide)).1
          have h2 := (h1.comp ((hs.fr [true]).mono (by show h + 1 ≤ h + 2; omega)) gs.1).comp (pExp_ty (wsOf st) 12 [false, true] (h + 2)) (pExp_G (by decide) (by decide)).1
          have h3 := (h2.comp (hs.fr [false, true]) gs.1).comp (pExp_ty (wsOf st) 13 [false, false, true] (h + 2)) (pExp_G (by decide) (by decide)).1
          have h4 := h3.comp (pPush_ty (c := 3009) (a := [false, false, true]) (b := [false]) (fun s _ => rfl) (fun _ z => absurd z (by decide))) (fun _ => rfl)
          exact h4 cs ts cs' ts' hn he
        · exact (pFail_no he).elim
theorem pUnit_ty {ws : List Nat} {r h : Nat} {un tr sum : pS → pS} (hu : pTyp ws un [] [true] (h + 1)) (ht : pTyp ws tr [] [true] (h + 1)) (hs : pTyp ws sum [] [false] h) (gu : pG un) (gt : pG tr) (gs : pG sum) : pTyp ws (pUnit (pGo r) un tr sum) [] [true] (h + 1) := by
  intro cs ts cs' ts' hn he
  unfold pUnit at he
  split at he
  · exact (((pGo_ty ws r [] (h + 1)).comp hu gu.1).comp (pPush_ty (c := 3006) (a := [true]) (b := [true]) (fun s _ => rfl) (fun _ z => absurd z (by decide))) (fun _ => rfl)) cs ts cs' ts' hn he
  · split at he
    · exact (((pGo_ty ws r [] (h + 1)).comp ht gt.1).comp (pExp_ty ws 38 [true] (h + 1)) (pExp_G (by decide) (by decide)).1) cs ts cs' ts' hn he
    · split at he
      · rename_i q
        have hq := opCmp_t _ q
        have h1 := (((hs.mono (Nat.le_succ h)).comp (pNext_ty ws [false] (h + 1)) (fun _ => rfl)).comp (hs.fr [false]) gs.1).comp (pPush_ty (c := (opCmp (pHd (sum (.inr (cs, ts))))).getD 0) (a := [false, false]) (b := [true]) (h := h + 1) (fun s _ => hq.2 s) (fun _ z => absurd hq.1 (by omega))) (fun _ => rfl)
        exact h1 cs ts cs' ts' hn he
      · exact (pFail_no he).elim
theorem pLv_ty (st : Bool) : ∀ r, pTyp (wsOf st) (pSm st r) [] [false] (5 * r + 5) ∧ pTyp (wsOf st) (pTr st r) [] [true] (5 * r + 8) ∧ pTyp (wsOf st) (pUn st r) [] [true] (5 * r + 6)
  | 0 => by
    have e : ∀ t : Bool, ∀ r, pTyp (wsOf st) (fun S => id (pGo 0 S)) [] [t] r := fun t r cs ts cs' ts' hn he => (pFail_no he).elim
    have ha : pTyp (wsOf st) (pAt st 0) [] [false] 3 := by
      intro cs ts cs' ts' hn he
      unfold pAt pAtom at he
      split at he
      · rename_i q
        obtain ⟨cs0, t, ts0, hx, hk⟩ := pHd_in q (by decide)
        have hx' : cs = cs0 ∧ ts = t :: ts0 := by cases hx; exact ⟨rfl, rfl⟩
        have hnm : pNm (.inr (cs, ts)) < 1000 := by
          rw [hx]
          exact hn t (by rw [hx'.2]; exact List.mem_cons_self)
        exact ((pPush_ty (h := 3) (fun s h1 => num_ty (c := pNm (.inr (cs, ts))) (by omega) s (by omega)) (fun z => absurd z (by omega))).comp (pNext_ty (wsOf st) [false] 3) (fun _ => rfl)) cs ts cs' ts' hn he
      · split at he
        · rename_i q
          obtain ⟨w, hw⟩ := Option.isSome_iff_exists.mp q
          have hw2 := wdOf_w hw
          rw [hw] at he
          exact ((pPush_ty (h := 3) (fun s h1 => num_ty (c := 1000 + w) (by omega) s (by omega)) (fun _ _ => by rw [show 1000 + w - 1000 = w by omega]; exact hw2.2)).comp (pNext_ty (wsOf st) [false] 3) (fun _ => rfl)) cs ts cs' ts' hn he
        · split at he
          · exact ((e false 3).comp (pExp_ty (wsOf st) 36 [false] 3) (pExp_G (by decide) (by decide)).1) cs ts cs' ts' hn he
          · split at he
            · obtain ⟨x, hx⟩ := pFail_in 4 (.inr (cs, ts))
              rw [show pGo 0 (.inr (cs, ts)) = .inl x from hx, show (pLv st 0).2.1 (.inl x) = .inl x from rfl, (pExp_G (k := 11) (by decide) (by decide)).1, show (pLv st 0).1 (.inl x) = .inl x from rfl, (pExp_G (k := 12) (by decide) (by decide)).1, show (pLv st 0).1 (.inl x) = .inl x from rfl, (pExp_G (k := 13) (by decide) (by decide)).1] at he
              cases he
            · exact (pFail_no he).elim
    have hs : pTyp (wsOf st) (pSm st 0) [] [false] 5 := pRep_ty opSum_OK (pTm_G st 0) (pRep_ty opStar_OK (pAt_G st 0) ha opStar_t) opSum_t
    have hu : pTyp (wsOf st) (pUn st 0) [] [true] 6 := by
      intro cs ts cs' ts' hn he
      unfold pUn pUnit at he
      split at he
      · exact ((e true 6).comp (pPush_ty (c := 3006) (a := [true]) (b := [true]) (fun s _ => rfl) (fun _ z => absurd z (by decide))) (fun _ => rfl)) cs ts cs' ts' hn he
      · split at he
        · exact ((e true 6).comp (pExp_ty (wsOf st) 38 [true] 6) (pExp_G (by decide) (by decide)).1) cs ts cs' ts' hn he
        · split at he
          · rename_i q
            have hq := opCmp_t _ q
            have h1 := (((hs.mono (Nat.le_succ 5)).comp (pNext_ty (wsOf st) [false] 6) (fun _ => rfl)).comp (hs.fr [false]) (pSm_G st 0).1).comp (pPush_ty (c := (opCmp (pHd (pSm st 0 (.inr (cs, ts))))).getD 0) (a := [false, false]) (b := [true]) (h := 6) (fun s _ => hq.2 s) (fun _ z => absurd hq.1 (by omega))) (fun _ => rfl)
            exact h1 cs ts cs' ts' hn he
          · exact (pFail_no he).elim
    exact ⟨hs, pRep_ty opOr_OK (pBo_G st 0) (pRep_ty opAnd_OK (pUn_G st 0) hu opAnd_t) opOr_t, hu⟩
  | r + 1 => by
    obtain ⟨h1, h2, h3⟩ := pLv_ty st r
    have ha : pTyp (wsOf st) (pAt st (r + 1)) [] [false] (5 * r + 6 + 2) := pAtom_ty (h1.mono (by omega)) h2 (pSm_G st r) (pTr_G st r)
    have hs : pTyp (wsOf st) (pSm st (r + 1)) [] [false] (5 * r + 6 + 2 + 1 + 1) := pRep_ty opSum_OK (pTm_G st (r + 1)) (pRep_ty opStar_OK (pAt_G st (r + 1)) ha opStar_t) opSum_t
    have hu : pTyp (wsOf st) (pUn st (r + 1)) [] [true] (5 * r + 6 + 2 + 1 + 1 + 1) := pUnit_ty (h3.mono (by omega)) (h2.mono (by omega)) hs (pUn_G st r) (pTr_G st r) (pSm_G st (r + 1))
    exact ⟨hs.mono (by omega), (pRep_ty opOr_OK (pBo_G st (r + 1)) (pRep_ty opAnd_OK (pUn_G st (r + 1)) hu opAnd_t) opOr_t).mono (by omega), hu.mono (by omega)⟩
