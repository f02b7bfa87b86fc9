theorem va_up_3 {α : Type} {A : Nat → α} {i j : Nat} {x y z : α} (h : i ≠ j) : va_up (va_up (va_up A i x) j y) i z = va_up (va_up A i z) j y := by
  funext k
  by_cases h1 : k = i
  · subst h1
    rw [va_up_self, va_up_ne _ _ h, va_up_self]
  · by_cases h2 : k = j
    · subst h2
      rw [va_up_ne _ _ h1, va_up_self, va_up_self]
    · rw [va_up_ne _ _ h1, va_up_ne _ _ h2, va_up_ne _ _ h1, va_up_ne _ _ h2, va_up_ne _ _ h1]
theorem updL_s {f : Nat → Int64} {k : Nat} {x : Int64} : vp_updL f k x k = x := if_pos rfl
theorem updL_n {f : Nat → Int64} {k j : Nat} {x : Int64} (h : j ≠ k) : vp_updL f k x j = f j := if_neg h
theorem nsum_s (f : Nat → Nat) (n : Nat) : nsum f (n + 1) = nsum f n + f n := rfl
theorem nsum_congr {f g : Nat → Nat} : ∀ {n : Nat}, (∀ k, k < n → f k = g k) → nsum f n = nsum g n
  | 0, _ => rfl
  | n + 1, h => by rw [nsum_s, nsum_s, nsum_congr (n := n) (fun k hk => h k (by omega)), h n (by omega)]
theorem nsum_add (f g : Nat → Nat) : ∀ n, nsum (fun k => f k + g k) n = nsum f n + nsum g n
  | 0 => rfl
  | n + 1 => by rw [nsum_s, nsum_s, nsum_s, nsum_add f g n]; omega
theorem nsum_0 : ∀ n, nsum (fun _ => 0) n = 0
  | 0 => rfl
  | n + 1 => by rw [nsum_s, nsum_0 n]
theorem nsum_mul (f : Nat → Nat) (c : Nat) : ∀ n, nsum (fun k => f k * c) n = nsum f n * c
  | 0 => (Nat.zero_mul c).symm
  | n + 1 => by rw [nsum_s, nsum_s, nsum_mul f c n, Nat.add_mul]
theorem nsum_swap (F : Nat → Nat → Nat) (m : Nat) : ∀ n, nsum (fun k => nsum (fun j => F k j) m) n = nsum (fun j => nsum (fun k => F k j) n) m
  | 0 => (nsum_0 m).symm
  | n + 1 => by
    rw [nsum_s, nsum_swap F m n, ← nsum_add]
    rfl
/-- a single one among the first n -/
theorem nsum_one {p : Nat → Prop} [DecidablePred p] {c : Nat → Nat} {a : Nat} : ∀ {n : Nat}, (∀ k, k < n → (p k ↔ k = a)) → nsum (fun k => if p k then c k else 0) n = if a < n then c a else 0
  | 0, _ => rfl
  | n + 1, h => by
    rw [nsum_s, nsum_one (n := n) (fun k hk => h k (by omega))]
    by_cases e : n = a
    · rw [if_neg (by omega), if_pos ((h n (by omega)).mpr e), if_pos (by omega), e, Nat.zero_add]
    · rw [if_neg (fun q => e ((h n (by omega)).mp q))]
      by_cases q : a < n
      · rw [if_pos q, if_pos (by omega)]; rfl
      · rw [if_neg q, if_neg (by omega)]
/-- summed over all rows of n lots: something of what they score together -/
def eS (sc : Nat → Int) : Nat → (Int → Nat) → Nat
  | 0, φ => φ 0
  | n + 1, φ => nsum (fun lot => eS sc n (fun x => φ (x + sc lot))) 10
theorem eS_s (sc : Nat → Int) (n : Nat) (φ : Int → Nat) : eS sc (n + 1) φ = nsum (fun lot => eS sc n (fun x => φ (x + sc lot))) 10 := rfl
theorem eS_congr {sc : Nat → Int} (hsc : ∀ k, k < 10 → -99 ≤ sc k ∧ sc k ≤ 99) : ∀ {n : Nat} {φ ψ : Int → Nat}, (∀ x : Int, -(99 * (n : Int)) ≤ x → x ≤ 99 * (n : Int) → φ x = ψ x) → eS sc n φ = eS sc n ψ
  | 0, φ, ψ, h => h 0 (by omega) (by omega)
  | n + 1, φ, ψ, h => by
    rw [eS_s, eS_s]
    refine nsum_congr (fun k hk => eS_congr hsc (fun x h1 h2 => h _ ?_ ?_))
    · have := hsc k hk; omega
    · have := hsc k hk; omega
theorem eS_nsum (sc : Nat → Int) (m : Nat) : ∀ (n : Nat) (F : Nat → Int → Nat), eS sc n (fun x => nsum (fun k => F k x) m) = nsum (fun k => eS sc n (F k)) m
  | 0, F => rfl
  | n + 1, F => by
    rw [eS_s]
    have e : (fun lot => eS sc n (fun x => nsum (fun k => F k (x + sc lot)) m)) = fun lot => nsum (fun k => eS sc n (fun x => F k (x + sc lot))) m := funext (fun lot => eS_nsum sc m n (fun k x => F k (x + sc lot)))
    rw [e, nsum_swap (fun lot k => eS sc n (fun x => F k (x + sc lot))) m 10]
    rfl
theorem eS_mul (sc : Nat → Int) (c : Nat) : ∀ (n : Nat) (φ : Int → Nat), eS sc n (fun x => φ x * c) = eS sc n φ * c
  | 0, _ => rfl
  | n + 1, φ => by
    rw [eS_s, eS_s, ← nsum_mul]
    exact nsum_congr (fun k _ => eS_mul sc c n _)
theorem eS_le (sc : Nat → Int) {c : Nat} : ∀ (n : Nat) {φ : Int → Nat}, (∀ x, φ x ≤ c) → eS sc n φ ≤ c * 10 ^ n
  | 0, φ, h => by rw [Nat.pow_zero, Nat.mul_one]; exact h 0
  | n + 1, φ, h => by
    rw [eS_s, Nat.pow_succ, ← Nat.mul_assoc]
    exact nsum_le (fun k => eS_le sc n (fun x => h _)) 10
/-- by how many rows of n lots so much is scored together -/
def mWy (sc : Nat → Int) (n k : Nat) : Nat := eS sc n (fun x => if x + 300 = (k : Int) then 1 else 0)
theorem mWy_le (sc : Nat → Int) (n k : Nat) : mWy sc n k ≤ 10 ^ n := by
  have := eS_le sc (c := 1) n (φ := fun x => if x + 300 = (k : Int) then 1 else 0) (fun x => by split <;> omega)
  rw [Nat.one_mul] at this
  exact this
theorem mWy_out {sc : Nat → Int} (hsc : ∀ k, k < 10 → -99 ≤ sc k ∧ sc k ≤ 99) {n k : Nat} (h : mWy sc n k ≠ 0) : 300 ≤ k + 99 * n ∧ k ≤ 300 + 99 * n := by
  apply Classical.byContradiction
  intro q
  apply h
  have e := eS_congr hsc (n := n) (φ := fun x => if x + 300 = (k : Int) then 1 else 0) (ψ := fun _ => 0) (fun x h1 h2 => if_neg (by omega))
  have z := eS_le sc (c := 0) n (φ := fun _ => 0) (fun _ => Nat.le_refl _)
  rw [Nat.zero_mul] at z
  unfold mWy
  omega
/-- one shot more -/
theorem mWy_s {sc : Nat → Int} (hsc : ∀ k, k < 10 → -99 ≤ sc k ∧ sc k ≤ 99) {n : Nat} (hn : n ≤ 2) (t : Nat) : nsum (fun k => nsum (fun lot => if (k : Int) + sc lot = (t : Int) then mWy sc n k else 0) 10) 601 = mWy sc (n + 1) t := by
  rw [nsum_swap (fun k lot => if (k : Int) + sc lot = (t : Int) then mWy sc n k else 0) 10 601]
  unfold mWy
  rw [eS_s]
  refine nsum_congr (fun lot hl => ?_)
  have e1 : nsum (fun k => if (k : Int) + sc lot = (t : Int) then eS sc n (fun x => if x + 300 = (k : Int) then 1 else 0) else 0) 601 = nsum (fun k => eS sc n (fun x => if (k : Int) + sc lot = (t : Int) then (if x + 300 = (k : Int) then 1 else 0) else 0)) 601 := by
    refine nsum_congr (fun k _ => ?_)
    by_cases c : (k : Int) + sc lot = (t : Int)
    · simp only [if_pos c]
    · simp only [if_neg c]
      have z := eS_le sc (c := 0) n (φ := fun _ => 0) (fun _ => Nat.le_refl _)
      rw [Nat.zero_mul] at z
      omega
  rw [e1, ← eS_nsum]
  refine eS_congr hsc (fun x h1 h2 => ?_)
  have hl2 := hsc lot hl
  obtain ⟨a, ha⟩ : ∃ a : Nat, x + 300 = (a : Int) := ⟨(x + 300).toNat, by omega⟩
  have e2 : (fun k : Nat => if (k : Int) + sc lot = (t : Int) then (if x + 300 = (k : Int) then 1 else 0) else 0) = fun k : Nat => if x + 300 = (k : Int) then (if (k : Int) + sc lot = (t : Int) then 1 else 0) else 0 := by
    funext k
    by_cases c1 : (k : Int) + sc lot = (t : Int)
    · rw [if_pos c1, if_pos c1]
    · rw [if_neg c1, if_neg c1]
      split <;> rfl
  rw [e2, nsum_one (a := a) (fun k _ => by omega), if_pos (by omega)]
  by_cases c : (a : Int) + sc lot = (t : Int)
  · rw [if_pos c, if_pos (by omega)]
  · rw [if_neg c, if_neg (by omega)]
/-- by how many rows of lots the one is ahead of the other -/
def mBeat (s1 s2 : Nat → Int) (n : Nat) : Nat := eS s1 n (fun x => eS s2 n (fun y => if y < x then 1 else 0))
theorem mBeat_is {s1 s2 : Nat → Int} (h1 : ∀ k, k < 10 → -99 ≤ s1 k ∧ s1 k ≤ 99) (h2 : ∀ k, k < 10 → -99 ≤ s2 k ∧ s2 k ≤ 99) {n : Nat} (hn : n ≤ 3) : nsum (fun k => mWy s1 n k * nsum (mWy s2 n) k) 601 = mBeat s1 s2 n := by
  have e1 : ∀ k : Nat, k < 601 → nsum (mWy s2 n) k = eS s2 n (fun y => if y + 300 < (k : Int) then 1 else 0) := by
    intro k hk
    unfold mWy
    rw [← eS_nsum]
    refine eS_congr h2 (fun y q1 q2 => ?_)
    obtain ⟨a, ha⟩ : ∃ a : Nat, y + 300 = (a : Int) := ⟨(y + 300).toNat, by omega⟩
    rw [nsum_one (c := fun _ => 1) (a := a) (fun k _ => by omega)]
    by_cases c : a < k
    · rw [if_pos c, if_pos (by omega)]
    · rw [if_neg c, if_neg (by omega)]
  rw [nsum_congr (fun k hk => by rw [e1 k hk])]
  unfold mWy
  have e2 : (fun k : Nat => eS s1 n (fun x => if x + 300 = (k : Int) then 1 else 0) * eS s2 n (fun y => if y + 300 < (k : Int) then 1 else 0)) = fun k : Nat => eS s1 n (fun x => (if x + 300 = (k : Int) then 1 else 0) * eS s2 n (fun y => if y + 300 < (k : Int) then 1 else 0)) := funext (fun k => (eS_mul s1 _ n _).symm)
  rw [e2, ← eS_nsum]
  refine eS_congr h1 (fun x q1 q2 => ?_)
  obtain ⟨a, ha⟩ : ∃ a : Nat, x + 300 = (a : Int) := ⟨(x + 300).toNat, by omega⟩
  have e3 : (fun k : Nat => (if x + 300 = (k : Int) then 1 else 0) * eS s2 n (fun y => if y + 300 < (k : Int) then 1 else 0)) = fun k : Nat => if x + 300 = (k : Int) then eS s2 n (fun y => if y + 300 < (k : Int) then 1 else 0) else 0 := by
    funext k
    split
    · rw [Nat.one_mul]
    · rw [Nat.zero_mul]
  rw [e3, nsum_one (a := a) (fun k _ => by omega), if_pos (by omega)]
  congr 1
  funext y
  by_cases c : y < x
  · rw [if_pos c, if_pos (by omega)]
  · rw [if_neg c, if_neg (by omega)]
theorem mBeat_le (s1 s2 : Nat → Int) (n : Nat) : mBeat s1 s2 n ≤ 10 ^ n * 10 ^ n := by
  unfold mBeat
  refine eS_le s1 n (fun x => ?_)
  have := eS_le s2 (c := 1) n (φ := fun y => if y < x then 1 else 0) (fun y => by split <;> omega)
  omega
