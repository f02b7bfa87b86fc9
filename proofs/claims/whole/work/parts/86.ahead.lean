/-- summed over rows of lots, each with its own scores; the latest first -/
def eL : List (Nat → Int) → (Int → Nat) → Nat
  | [], φ => φ 0
  | g :: gs, φ => nsum (fun lot => eL gs (fun x => φ (x + g lot))) 10
theorem eL_s (g : Nat → Int) (gs : List (Nat → Int)) (φ : Int → Nat) : eL (g :: gs) φ = nsum (fun lot => eL gs (fun x => φ (x + g lot))) 10 := rfl
def eB (gs : List (Nat → Int)) : Prop := ∀ g, g ∈ gs → ∀ k, k < 10 → -99 ≤ g k ∧ g k ≤ 99
theorem eL_congr : ∀ {gs : List (Nat → Int)}, eB gs → ∀ {φ ψ : Int → Nat}, (∀ x : Int, -(99 * (gs.length : Int)) ≤ x → x ≤ 99 * (gs.length : Int) → φ x = ψ x) → eL gs φ = eL gs ψ
  | [], _, φ, ψ, h => h 0 (Int.le_refl 0) (Int.le_refl 0)
  | g :: gs, hb, φ, ψ, h => by
    rw [eL_s, eL_s]
    refine nsum_congr (fun k hk => eL_congr (gs := gs) (fun g' hg => hb g' (List.mem_cons_of_mem _ hg)) (fun x h1 h2 => h _ ?_ ?_))
    · have := hb g (List.mem_cons_self ..) k hk; rw [List.length_cons]; omega
    · have := hb g (List.mem_cons_self ..) k hk; rw [List.length_cons]; omega
theorem eL_nsum (m : Nat) : ∀ (gs : List (Nat → Int)) (F : Nat → Int → Nat), eL gs (fun x => nsum (fun k => F k x) m) = nsum (fun k => eL gs (F k)) m
  | [], F => rfl
  | g :: gs, F => by
    rw [eL_s]
    have e : (fun lot => eL gs (fun x => nsum (fun k => F k (x + g lot)) m)) = fun lot => nsum (fun k => eL gs (fun x => F k (x + g lot))) m := funext (fun lot => eL_nsum m gs (fun k x => F k (x + g lot)))
    rw [e, nsum_swap (fun lot k => eL gs (fun x => F k (x + g lot))) m 10]
    rfl
theorem eL_le {c : Nat} : ∀ (gs : List (Nat → Int)) {φ : Int → Nat}, (∀ x, φ x ≤ c) → eL gs φ ≤ c * 10 ^ gs.length
  | [], φ, h => by
    show φ 0 ≤ c * 10 ^ 0
    rw [Nat.pow_zero, Nat.mul_one]; exact h 0
  | g :: gs, φ, h => by
    rw [eL_s, List.length_cons, Nat.pow_succ, ← Nat.mul_assoc]
    exact nsum_le (fun k => eL_le gs (fun x => h _)) 10
/-- in how many rows of lots one is so far ahead -/
def hW (gs : List (Nat → Int)) (k : Nat) : Nat := eL gs (fun x => if x + 594 = (k : Int) then 1 else 0)
theorem hW_le (gs : List (Nat → Int)) (k : Nat) : hW gs k ≤ 10 ^ gs.length := by
  have := eL_le (c := 1) gs (φ := fun x => if x + 594 = (k : Int) then 1 else 0) (fun x => by split <;> omega)
  rw [Nat.one_mul] at this
  exact this
theorem hW_0 (k : Nat) : hW [] k = if k = 594 then 1 else 0 := by
  show (if (0 : Int) + 594 = (k : Int) then 1 else 0) = _
  by_cases h : k = 594
  · rw [if_pos h, if_pos (by omega)]
  · rw [if_neg h, if_neg (by omega)]
theorem hW_s {g : Nat → Int} {gs : List (Nat → Int)} (hb : eB (g :: gs)) (hn : gs.length ≤ 5) (t : Nat) : nsum (fun k => nsum (fun lot => if (k : Int) + g lot = (t : Int) then hW gs k else 0) 10) 1189 = hW (g :: gs) t := by
  rw [nsum_swap (fun k lot => if (k : Int) + g lot = (t : Int) then hW gs k else 0) 10 1189]
  unfold hW
  rw [eL_s]
  refine nsum_congr (fun lot hl => ?_)
  have e1 : nsum (fun k => if (k : Int) + g lot = (t : Int) then eL gs (fun x => if x + 594 = (k : Int) then 1 else 0) else 0) 1189 = nsum (fun k => eL gs (fun x => if (k : Int) + g lot = (t : Int) then (if x + 594 = (k : Int) then 1 else 0) else 0)) 1189 := by
    refine nsum_congr (fun k _ => ?_)
    by_cases c : (k : Int) + g lot = (t : Int)
    · simp only [if_pos c]
    · simp only [if_neg c]
      have z := eL_le (c := 0) gs (φ := fun _ => 0) (fun _ => Nat.le_refl _)
      rw [Nat.zero_mul] at z
      omega
  rw [e1, ← eL_nsum]
  refine eL_congr (fun g' hg => hb g' (List.mem_cons_of_mem _ hg)) (fun x h1 h2 => ?_)
  obtain ⟨a, ha⟩ : ∃ a : Nat, x + 594 = (a : Int) := ⟨(x + 594).toNat, by omega⟩
  have e2 : (fun k : Nat => if (k : Int) + g lot = (t : Int) then (if x + 594 = (k : Int) then 1 else 0) else 0) = fun k : Nat => if x + 594 = (k : Int) then (if (k : Int) + g lot = (t : Int) then 1 else 0) else 0 := by
    funext k
    by_cases c1 : (k : Int) + g lot = (t : Int)
    · rw [if_pos c1, if_pos c1]
    · rw [if_neg c1, if_neg c1]
      split <;> rfl
  rw [e2, nsum_one (a := a) (fun k _ => by omega), if_pos (by omega)]
  by_cases c : (a : Int) + g lot = (t : Int)
  · rw [if_pos c, if_pos (by omega)]
  · rw [if_neg c, if_neg (by omega)]
theorem hW_won {gs : List (Nat → Int)} (hb : eB gs) (hn : gs.length ≤ 6) : nsum (fun k => hW gs (595 + k)) 594 = eL gs (fun x => if 0 < x then 1 else 0) := by
  unfold hW
  rw [← eL_nsum]
  refine eL_congr hb (fun x h1 h2 => ?_)
  by_cases c : 0 < x
  · obtain ⟨a, ha⟩ : ∃ a : Nat, x = (a : Int) + 1 := ⟨(x - 1).toNat, by omega⟩
    rw [nsum_one (c := fun _ => 1) (a := a) (fun k _ => by omega), if_pos (by omega), if_pos c]
  · rw [if_neg c]
    have e : (fun k : Nat => if x + 594 = ((595 + k : Nat) : Int) then 1 else 0) = fun _ => 0 := funext (fun k => if_neg (by omega))
    rw [e, nsum_0]
theorem eL_rep (g : Nat → Int) (gs : List (Nat → Int)) : ∀ (n : Nat) (φ : Int → Nat), eL (List.replicate n g ++ gs) φ = eL gs (fun x => eS g n (fun y => φ (x + y)))
  | 0, φ => by
    show eL gs φ = eL gs (fun x => φ (x + 0))
    simp only [Int.add_zero]
  | n + 1, φ => by
    rw [List.replicate_succ, List.cons_append, eL_s]
    have e : (fun lot => eL (List.replicate n g ++ gs) (fun x => φ (x + g lot))) = fun lot => eL gs (fun x => eS g n (fun y => φ (x + (y + g lot)))) := funext (fun lot => by
      rw [eL_rep g gs n]
      congr 1
      funext x
      congr 1
      funext y
      rw [Int.add_assoc])
    rw [e, ← eL_nsum]
    rfl
theorem eS_neg (g : Nat → Int) : ∀ (n : Nat) (φ : Int → Nat), eS (fun k => - g k) n φ = eS g n (fun y => φ (-y))
  | 0, φ => rfl
  | n + 1, φ => by
    rw [eS_s, eS_s]
    refine nsum_congr (fun k _ => ?_)
    rw [eS_neg g n]
    congr 1
    funext y
    rw [Int.neg_add]
theorem hW_beat (s1 s2 : Nat → Int) (n : Nat) : eL (List.replicate n (fun k => - s2 k) ++ (List.replicate n s1 ++ [])) (fun x => if 0 < x then 1 else 0) = mBeat s1 s2 n := by
  rw [eL_rep, eL_rep]
  show eS s1 n (fun x => eS (fun k => - s2 k) n (fun y => if 0 < 0 + x + y then 1 else 0)) = _
  unfold mBeat
  congr 1
  funext x
  rw [eS_neg]
  congr 1
  funext y
  by_cases c : y < x
  · rw [if_pos c, if_pos (by omega)]
  · rw [if_neg c, if_neg (by omega)]
theorem eB_rep {s1 s2 : Nat → Int} (h1 : ∀ k, k < 10 → -99 ≤ s1 k ∧ s1 k ≤ 99) (h2 : ∀ k, k < 10 → -99 ≤ s2 k ∧ s2 k ≤ 99) (n m : Nat) : eB (List.replicate n (fun k => - s2 k) ++ (List.replicate m s1 ++ [])) := by
  intro g hg k hk
  rw [List.append_nil, List.mem_append] at hg
  rcases hg with h | h
  · rw [List.eq_of_mem_replicate h]
    have := h2 k hk
    show -99 ≤ - s2 k ∧ - s2 k ≤ 99
    omega
  · rw [List.eq_of_mem_replicate h]
    exact h1 k hk
/-- the ways on their way: rows before k, and the first j lots of k -/
def hT (g : Nat → Int) (gs : List (Nat → Int)) (k j t : Nat) : Nat := nsum (fun i => nsum (fun lot => if (i : Int) + g lot = (t : Int) then hW gs i else 0) 10) k + nsum (fun lot => if (k : Int) + g lot = (t : Int) then hW gs k else 0) j
theorem hT_next (g : Nat → Int) (gs : List (Nat → Int)) (k t : Nat) : hT g gs (k + 1) 0 t = hT g gs k 10 t := rfl
theorem hT_zero (g : Nat → Int) (gs : List (Nat → Int)) (t : Nat) : hT g gs 0 0 t = 0 := rfl
theorem hT_end {g : Nat → Int} {gs : List (Nat → Int)} (hb : eB (g :: gs)) (hn : gs.length ≤ 5) {k : Nat} (hk : k = 1189) (t : Nat) : hT g gs k 0 t = hW (g :: gs) t := by
  have e : hT g gs k 0 t = nsum (fun i => nsum (fun lot => if (i : Int) + g lot = (t : Int) then hW gs i else 0) 10) k := rfl
  rw [e, hk]
  exact hW_s hb hn t
theorem hT_lot {g : Nat → Int} {gs : List (Nat → Int)} {k j t : Nat} : hT g gs k (j + 1) t = hT g gs k j t + (if (k : Int) + g j = (t : Int) then hW gs k else 0) := by
  unfold hT
  rw [nsum_s, Nat.add_assoc]
theorem nsum_zz {f : Nat → Nat} : ∀ {n : Nat}, (∀ k, k < n → f k = 0) → nsum f n = 0
  | 0, _ => rfl
  | n + 1, h => by rw [nsum_s, nsum_zz (n := n) (fun k hk => h k (by omega)), h n (by omega)]
theorem hT_skip {g : Nat → Int} {gs : List (Nat → Int)} {k : Nat} (h : hW gs k = 0) (t : Nat) : hT g gs k 10 t = hT g gs k 0 t := by
  unfold hT
  rw [nsum_zz (n := 10) (fun lot _ => by rw [h]; split <;> rfl)]
  rfl
