abbrev cSm (c : Nat) : Prop := 97 ≤ c ∧ c ≤ 122
abbrev cDg (c : Nat) : Prop := 48 ≤ c ∧ c ≤ 57
abbrev cWh (c : Nat) : Prop := c = 10 ∨ c = 32
def adv (q : Nat → Prop) [DecidablePred q] (tx : Nat → Nat) (n : Nat) : Nat → Nat → Nat
  | 0, p => p
  | m + 1, p => if p < n ∧ q (tx p) then adv q tx n m (p + 1) else p
/-- the first place from p on that isn't so, or the end -/
def advTo (q : Nat → Prop) [DecidablePred q] (tx : Nat → Nat) (n p : Nat) : Nat := adv q tx n (n - p) p
theorem advTo_y {q : Nat → Prop} [DecidablePred q] {tx : Nat → Nat} {n p : Nat} (h : p < n ∧ q (tx p)) : advTo q tx n p = advTo q tx n (p + 1) := by
  unfold advTo
  rw [show n - p = (n - (p + 1)) + 1 by omega]
  exact if_pos h
theorem advTo_n {q : Nat → Prop} [DecidablePred q] {tx : Nat → Nat} {n p : Nat} (h : ¬ (p < n ∧ q (tx p))) : advTo q tx n p = p := by
  unfold advTo
  cases n - p with
  | zero => rfl
  | succ m => exact if_neg h
theorem adv_ge (q : Nat → Prop) [DecidablePred q] (tx : Nat → Nat) (n : Nat) : ∀ m p, p ≤ adv q tx n m p
  | 0, p => Nat.le_refl p
  | m + 1, p => by
    show p ≤ if p < n ∧ q (tx p) then adv q tx n m (p + 1) else p
    split
    · have := adv_ge q tx n m (p + 1); omega
    · exact Nat.le_refl p
theorem adv_le (q : Nat → Prop) [DecidablePred q] (tx : Nat → Nat) (n : Nat) : ∀ m p, p ≤ n → adv q tx n m p ≤ n
  | 0, p, h => h
  | m + 1, p, h => by
    show (if p < n ∧ q (tx p) then adv q tx n m (p + 1) else p) ≤ n
    split
    · exact adv_le q tx n m (p + 1) (by omega)
    · exact h
theorem advTo_ge (q : Nat → Prop) [DecidablePred q] (tx : Nat → Nat) (n p : Nat) : p ≤ advTo q tx n p := adv_ge q tx n _ p
theorem advTo_le (q : Nat → Prop) [DecidablePred q] (tx : Nat → Nat) {n p : Nat} (h : p ≤ n) : advTo q tx n p ≤ n := adv_le q tx n _ p h
/-- the words of the language, in the reference's order; in the class's -/
def kws : List (List Nat) := [[98, 117, 116, 116], [101, 121, 101], [116, 111, 112], [102, 97, 108, 108, 115], [99, 111, 115, 116], [115, 104, 111, 111, 116, 101, 114], [115, 104, 97, 107, 101], [119, 105, 110, 100], [115, 116, 114, 97, 121, 115], [111, 112, 101, 110, 115], [105, 102], [116, 104, 101, 110], [101, 108, 115, 101], [101, 110, 100], [108, 111, 116], [97, 103, 101], [97, 105, 109], [109, 105, 110, 117, 116, 101], [104, 117, 114, 116], [97, 110, 100], [111, 114], [110, 111, 116]]
def cws : List (List Nat) := [[98, 117, 116, 116], [101, 121, 101], [116, 111, 112], [102, 97, 108, 108, 115], [99, 111, 115, 116], [115, 104, 111, 111, 116, 101, 114], [115, 104, 97, 107, 101], [119, 105, 110, 100], [115, 116, 114, 97, 121, 115], [111, 112, 101, 110, 115], [111, 114], [97, 110, 100], [110, 111, 116], [105, 102], [116, 104, 101, 110], [101, 108, 115, 101], [101, 110, 100], [108, 111, 116], [97, 103, 101], [97, 105, 109], [109, 105, 110, 117, 116, 101], [104, 117, 114, 116]]
def sgs : List Nat := [59, 58, 43, 45, 42, 40, 41, 91, 93, 61, 60, 62]
def wordL (tx : Nat → Nat) : Nat → Nat → List Nat
  | _, 0 => []
  | a, m + 1 => tx a :: wordL tx (a + 1) m
def numL (tx : Nat → Nat) (a : Nat) : Nat → Nat
  | 0 => 0
  | m + 1 => 10 * numL tx a m + (tx (a + m) - 48)
/-- the token that begins at a (no white there): what it is, its number, its start, where it ends -/
def tokB (tx : Nat → Nat) (n a : Nat) : Nat × Nat × Nat × Nat :=
  if n ≤ a then (24, 0, a, a)
  else if cSm (tx a) then (kws.idxOf (wordL tx a (advTo cSm tx n a - a)), 0, a, advTo cSm tx n a)
  else if cDg (tx a) then ((if 3 < advTo cDg tx n a - a then 25 else 23), numL tx a (min 3 (advTo cDg tx n a - a)), a, advTo cDg tx n a)
  else ((if tx a ∈ sgs then 30 + sgs.idxOf (tx a) else 25), 0, a, a + 1)
def tokA (tx : Nat → Nat) (n p : Nat) : Nat × Nat × Nat × Nat := tokB tx n (advTo cWh tx n p)
theorem tokB_s (tx : Nat → Nat) (n a : Nat) : (tokB tx n a).2.2.1 = a := by
  unfold tokB
  split
  · rfl
  · split
    · rfl
    · split <;> rfl
theorem tokB_24 {tx : Nat → Nat} {n a : Nat} : (tokB tx n a).1 = 24 ↔ n ≤ a := by
  unfold tokB
  have hk : ∀ w, kws.idxOf w ≤ 22 := fun w => List.idxOf_le_length
  have hs : ∀ c ∈ sgs, sgs.idxOf c < 12 := fun c hc => List.idxOf_lt_length_of_mem hc
  split
  · rename_i h; exact ⟨fun _ => h, fun _ => rfl⟩
  · rename_i h
    refine ⟨fun q => ?_, fun q => absurd q h⟩
    split at q
    · have q' : kws.idxOf _ = 24 := q
      have := hk (wordL tx a (advTo cSm tx n a - a))
      omega
    · split at q
      · have q' : (if 3 < advTo cDg tx n a - a then 25 else 23) = 24 := q
        split at q' <;> omega
      · have q' : (if tx a ∈ sgs then 30 + sgs.idxOf (tx a) else 25) = 24 := q
        split at q' <;> omega
theorem tokB_b {tx : Nat → Nat} {n a : Nat} (h : a < n) : a < (tokB tx n a).2.2.2 ∧ (tokB tx n a).2.2.2 ≤ n := by
  unfold tokB
  rw [if_neg (by omega)]
  split
  · rename_i q
    have h1 : advTo cSm tx n a = advTo cSm tx n (a + 1) := advTo_y ⟨h, q⟩
    have h2 := advTo_ge cSm tx n (a + 1)
    have h3 := advTo_le cSm tx (n := n) (p := a) (by omega)
    exact ⟨by show a < advTo cSm tx n a; omega, h3⟩
  · split
    · rename_i q
      have h1 : advTo cDg tx n a = advTo cDg tx n (a + 1) := advTo_y ⟨h, q⟩
      have h2 := advTo_ge cDg tx n (a + 1)
      have h3 := advTo_le cDg tx (n := n) (p := a) (by omega)
      exact ⟨by show a < advTo cDg tx n a; omega, h3⟩
    · exact ⟨Nat.lt_succ_self a, h⟩
/-- a token: what it is, its number, its start -/
abbrev tkT : Type := Nat × Nat × Nat
def tk3 (t : Nat × Nat × Nat × Nat) : tkT := (t.1, t.2.1, t.2.2.1)
/-- all tokens from p on, the end last -/
def lxF (tx : Nat → Nat) (n : Nat) : Nat → Nat → List tkT
  | 0, p => [tk3 (tokA tx n p)]
  | m + 1, p => if (tokA tx n p).1 = 24 then [tk3 (tokA tx n p)] else tk3 (tokA tx n p) :: lxF tx n m (tokA tx n p).2.2.2
def lx (tx : Nat → Nat) (n p : Nat) : List tkT := lxF tx n (n - p) p
theorem lxF_more (tx : Nat → Nat) (n : Nat) : ∀ (m p : Nat), p ≤ n → n - p ≤ m → lxF tx n m p = lxF tx n (n - p) p
  | 0, p, hp, hm => by rw [show n - p = 0 by omega]
  | m + 1, p, hp, hm => by
    have ha := advTo_ge cWh tx n p
    have hl := advTo_le cWh tx (n := n) (p := p) hp
    by_cases h : (tokA tx n p).1 = 24
    · have e1 : lxF tx n (m + 1) p = [tk3 (tokA tx n p)] := if_pos h
      rw [e1]
      cases n - p with
      | zero => rfl
      | succ k => exact (if_pos h).symm
    · have h2 : ¬ n ≤ advTo cWh tx n p := fun q => h (tokB_24.mpr q)
      have hb := tokB_b (tx := tx) (n := n) (a := advTo cWh tx n p) (by omega)
      have hb' : advTo cWh tx n p < (tokA tx n p).2.2.2 ∧ (tokA tx n p).2.2.2 ≤ n := hb
      have e1 : lxF tx n (m + 1) p = tk3 (tokA tx n p) :: lxF tx n m (tokA tx n p).2.2.2 := if_neg h
      obtain ⟨k, hk⟩ : ∃ k, n - p = k + 1 := ⟨n - p - 1, by omega⟩
      have e2 : lxF tx n (n - p) p = tk3 (tokA tx n p) :: lxF tx n k (tokA tx n p).2.2.2 := by rw [hk]; exact if_neg h
      rw [e1, e2, lxF_more tx n m _ hb'.2 (by omega), lxF_more tx n k _ hb'.2 (by omega)]
theorem lx_24 {tx : Nat → Nat} {n p : Nat} (h : (tokA tx n p).1 = 24) : lx tx n p = [tk3 (tokA tx n p)] := by
  unfold lx
  cases n - p with
  | zero => rfl
  | succ k => exact if_pos h
theorem lx_c {tx : Nat → Nat} {n p : Nat} (hp : p ≤ n) (h : (tokA tx n p).1 ≠ 24) : lx tx n p = tk3 (tokA tx n p) :: lx tx n (tokA tx n p).2.2.2 := by
  have ha := advTo_ge cWh tx n p
  have h2 : ¬ n ≤ advTo cWh tx n p := fun q => h (tokB_24.mpr q)
  have hb := tokB_b (tx := tx) (n := n) (a := advTo cWh tx n p) (by omega)
  have hb' : advTo cWh tx n p < (tokA tx n p).2.2.2 ∧ (tokA tx n p).2.2.2 ≤ n := hb
  obtain ⟨k, hk⟩ : ∃ k, n - p = k + 1 := ⟨n - p - 1, by omega⟩
  have e2 : lx tx n p = tk3 (tokA tx n p) :: lxF tx n k (tokA tx n p).2.2.2 := by unfold lx; rw [hk]; exact if_neg h
  rw [e2, lxF_more tx n k _ hb'.2 (by omega)]
  rfl
theorem lx_ne (tx : Nat → Nat) (n p : Nat) : ∃ t r, lx tx n p = t :: r ∧ t = tk3 (tokA tx n p) := by
  unfold lx
  cases n - p with
  | zero => exact ⟨_, _, rfl, rfl⟩
  | succ k =>
    by_cases h : (tokA tx n p).1 = 24
    · exact ⟨_, _, if_pos h, rfl⟩
    · exact ⟨_, _, if_neg h, rfl⟩
theorem lx_len (tx : Nat → Nat) (n : Nat) : ∀ (m p : Nat), p ≤ n → n - p = m → (lx tx n p).length ≤ m + 1 := by
  intro m
  induction m using Nat.strongRecOn with
  | _ m ih =>
    intro p hp hm
    by_cases h : (tokA tx n p).1 = 24
    · rw [lx_24 h]; exact Nat.succ_le_succ (Nat.zero_le _)
    · have ha := advTo_ge cWh tx n p
      have h2 : ¬ n ≤ advTo cWh tx n p := fun q => h (tokB_24.mpr q)
      have hb := tokB_b (tx := tx) (n := n) (a := advTo cWh tx n p) (by omega)
      have hb' : advTo cWh tx n p < (tokA tx n p).2.2.2 ∧ (tokA tx n p).2.2.2 ≤ n := hb
      rw [lx_c hp h]
      have := ih (n - (tokA tx n p).2.2.2) (by omega) _ hb'.2 rfl
      show (lx tx n _).length + 1 ≤ m + 1
      omega
/-- the last is the end, no other is -/
def tkOK (ts : List tkT) : Prop := ∃ pre e, ts = pre ++ [e] ∧ e.1 = 24 ∧ ∀ t ∈ pre, t.1 ≠ 24
theorem lx_OK (tx : Nat → Nat) (n : Nat) : ∀ (m p : Nat), p ≤ n → n - p = m → tkOK (lx tx n p) := by
  intro m
  induction m using Nat.strongRecOn with
  | _ m ih =>
    intro p hp hm
    by_cases h : (tokA tx n p).1 = 24
    · rw [lx_24 h]; exact ⟨[], _, rfl, h, fun t ht => nomatch ht⟩
    · have ha := advTo_ge cWh tx n p
      have h2 : ¬ n ≤ advTo cWh tx n p := fun q => h (tokB_24.mpr q)
      have hb := tokB_b (tx := tx) (n := n) (a := advTo cWh tx n p) (by omega)
      have hb' : advTo cWh tx n p < (tokA tx n p).2.2.2 ∧ (tokA tx n p).2.2.2 ≤ n := hb
      obtain ⟨pre, e, h3, h4, h5⟩ := ih (n - (tokA tx n p).2.2.2) (by omega) _ hb'.2 rfl
      rw [lx_c hp h, h3]
      exact ⟨tk3 (tokA tx n p) :: pre, e, rfl, h4, fun t ht => by
        rcases List.mem_cons.mp ht with q | q
        · rw [q]; exact h
        · exact h5 t q⟩
