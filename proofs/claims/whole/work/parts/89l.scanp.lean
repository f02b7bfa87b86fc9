/-- the class's number of a kind of token, of a token -/
def ckI (k : Nat) : Nat := cws.idxOf (kws.getD k [])
def kcd (k : Nat) : Nat := if k ≤ 22 then 1000 + ckI k else if k = 24 then 4000 else if k = 25 then 3000 else 2000 + sgs.getD (k - 30) 0
def ctk (t : tkT) : Nat := if t.1 = 23 then t.2.1 else kcd t.1
abbrev kvl (k : Nat) : Prop := k ≤ 25 ∨ (30 ≤ k ∧ k ≤ 41)
def tkV (t : tkT) : Prop := kvl t.1 ∧ t.2.1 < 1000 ∧ t.2.2 ≤ 900
theorem kcd_inj0 : ∀ k, k < 42 → ∀ j, j < 42 → (k = 23 ∨ j = 23 ∨ ¬ kvl k ∨ ¬ kvl j ∨ ¬ kcd k = kcd j ∨ k = j) := by decide +kernel
theorem kcd_inj (k : Nat) (hk : k < 42) (j : Nat) (hj : j < 42) (k3 : k ≠ 23) (j3 : j ≠ 23) (vk : kvl k) (vj : kvl j) (e : kcd k = kcd j) : k = j := by
  rcases kcd_inj0 k hk j hj with z | z | z | z | z | z
  · exact absurd z k3
  · exact absurd z j3
  · exact absurd vk z
  · exact absurd vj z
  · exact absurd e z
  · exact z
theorem kcd_rg : ∀ k, k < 42 → kvl k → 1000 ≤ kcd k ∧ kcd k ≤ 4000 := by decide +kernel
theorem ctk_le {t : tkT} (h : tkV t) : ctk t ≤ 4000 := by
  have h1 := h.2.1
  unfold ctk
  split
  · omega
  · exact (kcd_rg t.1 (by have := h.1; unfold kvl at this; omega) h.1).2
theorem ctk_eq {t : tkT} (h : tkV t) {k : Nat} (hk : kvl k) (hk2 : k ≠ 23) : ctk t = kcd k ↔ t.1 = k := by
  have h1 := h.2.1
  have hr := kcd_rg k (by unfold kvl at hk; omega) hk
  unfold ctk
  split
  · rename_i e
    exact ⟨fun z => by omega, fun z => by omega⟩
  · rename_i e
    exact ⟨fun z => kcd_inj _ (by have := h.1; unfold kvl at this; omega) _ (by unfold kvl at hk; omega) e hk2 h.1 hk z, fun z => by rw [z]⟩
theorem ctk_num {t : tkT} (h : tkV t) : ctk t < 1000 ↔ t.1 = 23 := by
  have h1 := h.2.1
  unfold ctk
  split
  · rename_i e
    exact ⟨fun _ => e, fun _ => h1⟩
  · rename_i e
    have := (kcd_rg t.1 (by have := h.1; unfold kvl at this; omega) h.1).1
    exact ⟨fun z => by omega, fun z => absurd z e⟩
theorem cws_sub : ∀ w ∈ cws, w ∈ kws := by decide +kernel
theorem cw_of (w : List Nat) : ckI (kws.idxOf w) = cws.idxOf w ∧ kws.idxOf w ≤ 22 := by
  have e1 : kws.length = 22 := rfl
  have e2 : cws.length = 22 := rfl
  have hk := List.idxOf_le_length (a := w) (l := kws)
  refine ⟨?_, by omega⟩
  unfold ckI
  by_cases h : w ∈ kws
  · have hl := List.idxOf_lt_length_of_mem h
    congr 1
    simp only [List.getD]
    rw [List.getElem?_eq_getElem hl, List.getElem_idxOf hl]
    rfl
  · have h2 : w ∉ cws := fun z => h (cws_sub w z)
    rw [List.idxOf_eq_length h, List.idxOf_eq_length h2]
    decide
theorem ctk_sm (w : List Nat) (n p : Nat) : ctk (kws.idxOf w, n, p) = 1000 + cws.idxOf w := by
  have h := cw_of w
  unfold ctk
  rw [if_neg (by show ¬ kws.idxOf w = 23; omega)]
  unfold kcd
  rw [if_pos h.2, h.1]
theorem ctk_sg {x : Nat} (n p : Nat) (h : x ∈ sgs) : ctk (30 + sgs.idxOf x, n, p) = 2000 + x := by
  have hl := List.idxOf_lt_length_of_mem h
  unfold ctk
  rw [if_neg (by show ¬ 30 + sgs.idxOf x = 23; omega)]
  unfold kcd
  rw [if_neg (by show ¬ 30 + sgs.idxOf x ≤ 22; omega), if_neg (by show ¬ 30 + sgs.idxOf x = 24; omega), if_neg (by show ¬ 30 + sgs.idxOf x = 25; omega), show 30 + sgs.idxOf x - 30 = sgs.idxOf x by omega]
  simp only [List.getD]
  rw [List.getElem?_eq_getElem hl, List.getElem_idxOf hl]
  rfl
theorem tokA_nw {tx : Nat → Nat} {n p : Nat} (hw : ¬ cWh (tx p)) : tokA tx n p = tokB tx n p := by
  unfold tokA
  rw [advTo_n (fun z => hw z.2)]
theorem lx_wh {tx : Nat → Nat} {n p : Nat} (h : p < n) (hw : cWh (tx p)) : lx tx n p = lx tx n (p + 1) := by
  have e : tokA tx n p = tokA tx n (p + 1) := by
    unfold tokA
    rw [advTo_y ⟨h, hw⟩]
  by_cases q : (tokA tx n p).1 = 24
  · have q2 : (tokA tx n (p + 1)).1 = 24 := by rw [← e]; exact q
    rw [lx_24 q, lx_24 q2, e]
  · have q2 : (tokA tx n (p + 1)).1 ≠ 24 := by rw [← e]; exact q
    rw [lx_c (by omega) q, lx_c h q2, e]
theorem lx_nw {tx : Nat → Nat} {n p : Nat} (h : p < n) (hw : ¬ cWh (tx p)) : lx tx n p = tk3 (tokB tx n p) :: lx tx n (tokB tx n p).2.2.2 := by
  have e := tokA_nw (n := n) hw
  have q : (tokA tx n p).1 ≠ 24 := by
    rw [e]
    exact fun z => absurd (tokB_24.mp z) (by omega)
  rw [lx_c (by omega) q, e]
theorem lx_end (tx : Nat → Nat) (n : Nat) : lx tx n n = [(24, 0, n)] := by
  have e : tokA tx n n = (24, 0, n, n) := by
    unfold tokA
    rw [advTo_n (fun z => absurd z.1 (Nat.lt_irrefl n))]
    unfold tokB
    rw [if_pos (Nat.le_refl n)]
  rw [lx_24 (by rw [e]), e]
  rfl
theorem tokB_sm {tx : Nat → Nat} {n p : Nat} (h : p < n) (hs : cSm (tx p)) : tokB tx n p = (kws.idxOf (wordL tx p (advTo cSm tx n p - p)), 0, p, advTo cSm tx n p) := by
  unfold tokB
  rw [if_neg (by omega), if_pos hs]
theorem tokB_dg {tx : Nat → Nat} {n p : Nat} (h : p < n) (hs : cDg (tx p)) : tokB tx n p = ((if 3 < advTo cDg tx n p - p then 25 else 23), numL tx p (min 3 (advTo cDg tx n p - p)), p, advTo cDg tx n p) := by
  unfold tokB
  rw [if_neg (by omega), if_neg (by omega), if_pos hs]
theorem tokB_sg {tx : Nat → Nat} {n p : Nat} (h : p < n) (h1 : ¬ cSm (tx p)) (h2 : ¬ cDg (tx p)) : tokB tx n p = ((if tx p ∈ sgs then 30 + sgs.idxOf (tx p) else 25), 0, p, p + 1) := by
  unfold tokB
  rw [if_neg (by omega), if_neg h1, if_neg h2]
theorem sb_pos {c : Nat} (h : c < 256) (hp : ¬ sb c ≤ 0) : c < 128 ∧ 0 < c := by
  by_cases q : c < 128
  · refine ⟨q, ?_⟩
    rw [sb_lo c q] at hp
    rcases Nat.eq_zero_or_pos c with e | e
    · rw [e] at hp
      exact absurd (by decide) hp
    · exact e
  · exact absurd (Int32.le_of_lt (sb_hi (by omega) h)) hp
theorem sb_np {c : Nat} (h : c < 256) (hp : sb c ≤ 0) : c ∉ sgs := fun z => by
  have h1 : ∀ x ∈ sgs, 0 < x ∧ x < 128 := by decide
  have h2 := h1 c z
  rw [sb_lo c h2.2] at hp
  exact absurd hp (nI_nle h2.1 (by omega))
theorem sgI_lt {c : Nat} : sgI c < 0 ↔ c ∉ sgs := by
  unfold sgI
  by_cases h : c ∈ sgs
  · rw [if_pos h]
    have := List.idxOf_lt_length_of_mem h
    have e : sgs.length = 12 := rfl
    exact ⟨fun z => absurd z (nI_pos (by omega)), fun z => absurd h z⟩
  · rw [if_neg h]
    exact ⟨fun _ => h, fun _ => by decide⟩
/-- the tokens so far -/
def scI (V0 V : Nat → Nat → Int32) (T : List tkT) : Prop := (∀ q, q ≠ 3 → q ≠ 4 → V q = V0 q) ∧ V 3 0 = nI T.length ∧ ∀ (i : Nat) (h : i < T.length), V 4 i = nI (ctk T[i] * 1024 + T[i].2.2)
theorem scI.add {V0 V V1 : Nat → Nat → Int32} {T : List tkT} {t : tkT} {v st : Nat} (h : scI V0 V T) (h4 : V1 4 = upd (V 4) T.length (nI (v * 1024 + st))) (h3 : V1 3 0 = nI (T.length + 1)) (hq : ∀ q, q ≠ 3 → q ≠ 4 → V1 q = V q) (hv : ctk t = v) (hs : t.2.2 = st) : scI V0 V1 (T ++ [t]) := by
  refine ⟨fun q q3 q4 => (hq q q3 q4).trans (h.1 q q3 q4), by rw [h3, List.length_append]; rfl, fun i hi => ?_⟩
  rw [h4]
  by_cases e : i = T.length
  · subst e
    rw [pk_us, List.getElem_append_right (Nat.le_refl _)]
    simp only [Nat.sub_self, List.getElem_cons_zero]
    rw [hv, hs]
  · have hi' : i < T.length := by
      rw [List.length_append] at hi
      have : i < T.length + 1 := hi
      omega
    rw [pk_un e, List.getElem_append_left hi']
    exact h.2.2 i hi' 
