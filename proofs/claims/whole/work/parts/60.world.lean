def kdL : List (Nat × Nat) := [(21, 0), (2, 900), (15, 0), (19, 0), (0, 901), (0, 900), (98, 0), (98, 0), (17, 0), (0, 4), (0, 4), (17, 0), (0, 4), (0, 4), (11, 0), (40, 10), (17, 0), (0, 4), (0, 4), (17, 0), (0, 4), (0, 4), (17, 0), (0, 4), (0, 4), (17, 0), (0, 4), (0, 4), (17, 0), (0, 4), (0, 4), (17, 0), (0, 4), (0, 4), (17, 0), (0, 4), (0, 4), (17, 0), (0, 4), (0, 4), (17, 0), (0, 4), (0, 4), (17, 0), (0, 4), (0, 4), (50, 4), (60, 2), (41, 2), (14, 0), (0, 7), (0, 64), (70, 4), (0, 21), (16, 0), (1, 36), (0, 16), (20, 0), (1, 40), (20, 0), (1, 40), (20, 0), (1, 40), (20, 0), (1, 40), (17, 0), (0, 4), (0, 4), (17, 0), (0, 4), (0, 4), (18, 0), (0, 210), (0, 21), (0, 21), (18, 0), (0, 210), (0, 21), (0, 21), (18, 0), (0, 210), (0, 21), (0, 21), (18, 0), (0, 210), (0, 21), (0, 21)]
/-- what stands at the class's cells: kinds -/
def kd (i : Nat) : Nat × Nat := kdL.getD i (98, 0)
def kOb (t a i : Nat) (v : Nat → Int32) (w : Nat → Int64) (r : Nat → Option Nat) : zC := match t with
  | 11 => .inr (1, [.ref (a + 15), .int (v 0), .int (v 1)])
  | 14 => .inr (4, [.ref (a + 50), .ref (a + 51)])
  | 15 => .inr (5, [.ref (a + 3), .int (v 0), .int (v 1), .ref (a + 5), .int (v 2), .int (v 3), .int (v 4), .int (v 5)])
  | 16 => .inr (6, [.ref (a + 55), .long (w 0), .int (v 0)])
  | 17 => .inr (7, [.ref (a + (i + 1)), .ref (a + (i + 2)), .int (v 0), .int (v 1), .int (v 2)])
  | 18 => .inr (8, [.ref (a + (i + 1)), .ref (a + (i + 2)), .ref (a + (i + 3))])
  | 19 => .inr (9, [.ref (a + 4), .int (v 0)])
  | 20 => .inr (10, [.int (v 0), .int (v 1), .int (v 2), .ref (a + (i + 1))])
  | 21 => .inr (11, [.ref (a + 1), .int (v 0), .ref (a + 2), va_rf (r 0), .ref (a + 8), .ref (a + 11), .ref (a + 14), .ref (a + 46), .ref (a + 47), .ref (a + 48), .ref (a + 49), .ref (a + 52), .ref (a + 53), .ref (a + 54), va_rf (r 1), .ref (a + 56), .int (v 1)])
  | _ => .inr (0, [])
def kRa (t a : Nat) (r : Nat → Option Nat) : Nat → Option Nat := match t with
  | 40 => fun j => some (a + (16 + 3 * j))
  | 41 => fun j => some (a + (65 + 3 * j))
  | 50 => fun j => some (a + (57 + 2 * j))
  | 60 => r
  | 70 => fun j => some (a + (71 + 4 * j))
  | _ => r
def kP (a i : Nat) (v : Nat → Int32) (w : Nat → Int64) (r : Nat → Option Nat) (c : zC) : Prop :=
  if (kd i).1 = 0 ∨ (kd i).1 = 2 then ∃ g, c = .inl ((kd i).1, (kd i).2, .inl g) ∧ ∀ j, j < (kd i).2 → g j = v j
  else if (kd i).1 = 1 then ∃ g, c = .inl (1, (kd i).2, .inr (.inl g)) ∧ ∀ j, j < (kd i).2 → g j = w j
  else if 40 ≤ (kd i).1 then ∃ g, c = .inl ((kd i).1 / 10, (kd i).2, .inr (.inr (.inr (.inr g)))) ∧ ∀ j, j < (kd i).2 → g j = kRa (kd i).1 a r j
  else c = kOb (kd i).1 a i v w r
def kIn (i : Nat) : Prop := i < 87 ∧ i ≠ 6 ∧ i ≠ 7
def kOut (a q : Nat) : Prop := q < a ∨ a + 87 ≤ q ∨ q = a + 6 ∨ q = a + 7
theorem kIn_of {i t n : Nat} (h : kd i = (t, n)) (ht : t ≠ 98) : kIn i := by
  have h0 : ∀ j, j < 87 → (kd j).1 ≠ 98 → kIn j := by
    intro j hj hq
    refine ⟨hj, fun e => ?_, fun e => ?_⟩
    · subst e; exact hq rfl
    · subst e; exact hq rfl
  by_cases hi : i < 87
  · exact h0 i hi (by rw [h]; exact ht)
  · have : kd i = (98, 0) := by
      unfold kd
      rw [List.getD_eq_getElem?_getD, List.getElem?_eq_none (show kdL.length ≤ i from Nat.not_lt.mp hi)]
      rfl
    rw [this] at h
    exact absurd (congrArg Prod.fst h).symm ht
/-- the class's object at a: numbers V, longs W, references R of its cells; all else is as in M0 -/
def kA (a : Nat) (M0 M : zM) (V : Nat → Nat → Int32) (W : Nat → Nat → Int64) (R : Nat → Nat → Option Nat) : Prop := M.2 = M0.2 ∧ (∀ q, kOut a q → M.1 q = M0.1 q) ∧ ∀ i, kIn i → ∃ c, M.1 (a + i) = some c ∧ kP a i (V i) (W i) (R i) c
section KA
variable {a : Nat} {M0 M : zM} {V : Nat → Nat → Int32} {W : Nat → Nat → Int64} {R : Nat → Nat → Option Nat}
theorem kA.up (h : kA a M0 M V W R) {i : Nat} (hi : kIn i) {c : zC} {v : Nat → Int32} {w : Nat → Int64} {r : Nat → Option Nat} (hc : kP a i v w r c) : kA a M0 (z_up M (a + i) c) (va_up V i v) (va_up W i w) (va_up R i r) := by
  refine ⟨h.1, fun q hq => ?_, fun j hj => ?_⟩
  · rw [z_up_n _ _ (by unfold kOut at hq; unfold kIn at hi; omega)]; exact h.2.1 q hq
  · by_cases e : j = i
    · subst e; exact ⟨c, z_up_s _ _ _, by rw [va_up_self, va_up_self, va_up_self]; exact hc⟩
    · rw [z_up_n _ _ (by omega), va_up_ne _ _ e, va_up_ne _ _ e, va_up_ne _ _ e]; exact h.2.2 j hj
theorem va_upI {α : Type} (f : Nat → α) (k : Nat) : va_up f k (f k) = f := by
  funext j
  by_cases e : j = k
  · subst e; exact va_up_self _ _ _
  · exact va_up_ne _ _ e
theorem kA.upV (h : kA a M0 M V W R) {i : Nat} (hi : kIn i) {c : zC} {v : Nat → Int32} (hc : kP a i v (W i) (R i) c) : kA a M0 (z_up M (a + i) c) (va_up V i v) W R := by
  have := h.up hi hc
  rw [va_upI, va_upI] at this
  exact this
theorem kA.upW (h : kA a M0 M V W R) {i : Nat} (hi : kIn i) {c : zC} {w : Nat → Int64} (hc : kP a i (V i) w (R i) c) : kA a M0 (z_up M (a + i) c) V (va_up W i w) R := by
  have := h.up hi hc
  rw [va_upI, va_upI] at this
  exact this
theorem kA.upR (h : kA a M0 M V W R) {i : Nat} (hi : kIn i) {c : zC} {r : Nat → Option Nat} (hc : kP a i (V i) (W i) r c) : kA a M0 (z_up M (a + i) c) V W (va_up R i r) := by
  have := h.up hi hc
  rw [va_upI, va_upI] at this
  exact this
theorem kP_i {i n t : Nat} {v w r} {c : zC} (hk : kd i = (t, n)) (ht : t = 0 ∨ t = 2) : kP a i v w r c ↔ ∃ g, c = .inl (t, n, .inl g) ∧ ∀ j, j < n → g j = v j := by
  unfold kP
  rw [hk, if_pos ht]
theorem kP_l {i n : Nat} {v w r} {c : zC} (hk : kd i = (1, n)) : kP a i v w r c ↔ ∃ g, c = .inl (1, n, .inr (.inl g)) ∧ ∀ j, j < n → g j = w j := by
  unfold kP
  rw [hk, if_neg (by show ¬ ((1 : Nat) = 0 ∨ (1 : Nat) = 2); decide), if_pos rfl]
theorem kP_r {i n t : Nat} {v w r} {c : zC} (hk : kd i = (t, n)) (ht : 40 ≤ t) : kP a i v w r c ↔ ∃ g, c = .inl (t / 10, n, .inr (.inr (.inr (.inr g)))) ∧ ∀ j, j < n → g j = kRa t a r j := by
  unfold kP
  rw [hk, if_neg (by show ¬ (t = 0 ∨ t = 2); omega), if_neg (by show ¬ t = 1; omega), if_pos ht]
theorem kP_o {i t : Nat} {v w r} {c : zC} (hk : kd i = (t, 0)) (ht : 10 ≤ t ∧ t < 40) : kP a i v w r c ↔ c = kOb t a i v w r := by
  unfold kP
  rw [hk, if_neg (by show ¬ (t = 0 ∨ t = 2); omega), if_neg (by show ¬ t = 1; omega), if_neg (by show ¬ 40 ≤ t; omega)]
theorem kA.ob (h : kA a M0 M V W R) {i t : Nat} (hk : kd i = (t, 0)) (ht : 10 ≤ t ∧ t < 40) : M.1 (a + i) = some (kOb t a i (V i) (W i) (R i)) := by
  obtain ⟨c, h1, h2⟩ := h.2.2 i (kIn_of hk (by omega))
  rw [h1, (kP_o hk ht).mp h2]
theorem kA.ints (h : kA a M0 M V W R) {i n t : Nat} (hk : kd i = (t, n)) (ht : t = 0 ∨ t = 2) : ∃ g, M.1 (a + i) = some (.inl (t, n, .inl g)) ∧ ∀ j, j < n → g j = V i j := by
  obtain ⟨c, h1, h2⟩ := h.2.2 i (kIn_of hk (by omega))
  obtain ⟨g, rfl, hg⟩ := (kP_i hk ht).mp h2
  exact ⟨g, h1, hg⟩
theorem kA.longs (h : kA a M0 M V W R) {i n : Nat} (hk : kd i = (1, n)) : ∃ g, M.1 (a + i) = some (.inl (1, n, .inr (.inl g))) ∧ ∀ j, j < n → g j = W i j := by
  obtain ⟨c, h1, h2⟩ := h.2.2 i (kIn_of hk (by omega))
  obtain ⟨g, rfl, hg⟩ := (kP_l hk).mp h2
  exact ⟨g, h1, hg⟩
theorem kA.refs (h : kA a M0 M V W R) {i n t : Nat} (hk : kd i = (t, n)) (ht : 40 ≤ t) (ht2 : t ≠ 98) : ∃ g, M.1 (a + i) = some (.inl (t / 10, n, .inr (.inr (.inr (.inr g))))) ∧ ∀ j, j < n → g j = kRa t a (R i) j := by
  obtain ⟨c, h1, h2⟩ := h.2.2 i (kIn_of hk ht2)
  obtain ⟨g, rfl, hg⟩ := (kP_r hk ht).mp h2
  exact ⟨g, h1, hg⟩
/-- only the numbers within their rows count -/
theorem kA.cong (h : kA a M0 M V W R) {V' : Nat → Nat → Int32} {W' : Nat → Nat → Int64} (hv : ∀ i, kIn i → V' i = V i ∨ ∃ n t, (kd i = (t, n) ∧ (t = 0 ∨ t = 2)) ∧ ∀ j, j < n → V' i j = V i j) (hw : ∀ i, kIn i → W' i = W i ∨ ∃ n, kd i = (1, n) ∧ ∀ j, j < n → W' i j = W i j) : kA a M0 M V' W' R := by
  refine ⟨h.1, h.2.1, fun i hi => ?_⟩
  obtain ⟨c, h1, h2⟩ := h.2.2 i hi
  refine ⟨c, h1, ?_⟩
  rcases hv i hi with e | ⟨n, t, ⟨hk, ht⟩, e⟩
  · rcases hw i hi with e2 | ⟨n, hk, e2⟩
    · rw [e, e2]; exact h2
    · rw [e]
      obtain ⟨g, hc, hg⟩ := (kP_l hk).mp h2
      exact (kP_l hk).mpr ⟨g, hc, fun j hj => (hg j hj).trans (e2 j hj).symm⟩
  · obtain ⟨g, hc, hg⟩ := (kP_i hk ht).mp h2
    exact (kP_i hk ht).mpr ⟨g, hc, fun j hj => (hg j hj).trans (e j hj).symm⟩
/-- ints of one row, as they are within it -/
theorem kA.row (h : kA a M0 M V W R) {i n t : Nat} {f : Nat → Int32} (hk : kd i = (t, n)) (ht : t = 0 ∨ t = 2) (e : ∀ j, j < n → f j = V i j) : kA a M0 M (va_up V i f) W R := by
  refine h.cong (fun j hj => ?_) (fun j hj => Or.inl rfl)
  by_cases q : j = i
  · subst q; exact Or.inr ⟨n, t, ⟨hk, ht⟩, by rw [va_up_self]; exact e⟩
  · exact Or.inl (va_up_ne _ _ q)
theorem kA.rowL (h : kA a M0 M V W R) {i n : Nat} {f : Nat → Int64} (hk : kd i = (1, n)) (e : ∀ j, j < n → f j = W i j) : kA a M0 M V (va_up W i f) R := by
  refine h.cong (fun j hj => Or.inl rfl) (fun j hj => ?_)
  by_cases q : j = i
  · subst q; exact Or.inr ⟨n, hk, by rw [va_up_self]; exact e⟩
  · exact Or.inl (va_up_ne _ _ q)
variable {G : zG} {l : Launch} {k : zY} {d pc bc bs : Nat} {lv : List (Nat × Value)} {st : List Value} {Q : Option Value → zM → Prop}
theorem aj.kL {i n j : Nat} {x : Int32} (hk : kd i = (0, n)) (hd : decode k.2.1 pc = .ok (.iaload, 1)) (hA : kA a M0 M V W R) (hx : x = nI j) (hj : j < n) (hn : n < 2 ^ 31) (h : aj G l k d (pc + 1) lv (.int (V i j) :: st) M bc bs Q) : aj G l k d pc lv (.int x :: .ref (a + i) :: st) M bc bs Q := by
  obtain ⟨g, hc, hg⟩ := hA.ints hk (Or.inl rfl)
  subst hx
  exact aj.iald hd hc (vp_in_nI hj hn) (by rw [nI_clamp (Nat.lt_trans hj hn), hg j hj]; exact h)
theorem aj.kS {i n j : Nat} {x z : Int32} (hk : kd i = (0, n)) (hd : decode k.2.1 pc = .ok (.iastore, 1)) (hA : kA a M0 M V W R) (hz : z = nI j) (hj : j < n) (hn : n < 2 ^ 31) (h : ∀ M : zM, kA a M0 M (va_up V i (upd (V i) j x)) W R → aj G l k d (pc + 1) lv st M bc bs Q) : aj G l k d pc lv (.int x :: .int z :: .ref (a + i) :: st) M bc bs Q := by
  obtain ⟨g, hc, hg⟩ := hA.ints hk (Or.inl rfl)
  subst hz
  refine aj.iast hd hc (vp_in_nI hj hn) ?_
  rw [nI_clamp (Nat.lt_trans hj hn)]
  refine h _ (hA.upV (kIn_of hk (by decide)) ((kP_i hk (Or.inl rfl)).mpr ⟨_, rfl, fun q hq => ?_⟩))
  by_cases e : q = j
  · subst e; rw [pk_us, pk_us]
  · rw [pk_un e, pk_un e]; exact hg q hq
theorem aj.kLb {i n j : Nat} {x : Int32} (hk : kd i = (2, n)) (hd : decode k.2.1 pc = .ok (.baload, 1)) (hA : kA a M0 M V W R) (hx : x = nI j) (hj : j < n) (hn : n < 2 ^ 31) (h : aj G l k d (pc + 1) lv (.int (V i j) :: st) M bc bs Q) : aj G l k d pc lv (.int x :: .ref (a + i) :: st) M bc bs Q := by
  obtain ⟨g, hc, hg⟩ := hA.ints hk (Or.inr rfl)
  subst hx
  exact aj.bald hd hc (vp_in_nI hj hn) (by rw [nI_clamp (Nat.lt_trans hj hn), hg j hj]; exact h)
theorem aj.kSb {i n j : Nat} {x z : Int32} (hk : kd i = (2, n)) (hd : decode k.2.1 pc = .ok (.bastore, 1)) (hA : kA a M0 M V W R) (hz : z = nI j) (hj : j < n) (hn : n < 2 ^ 31) (h : ∀ M : zM, kA a M0 M (va_up V i (upd (V i) j (vp_nar .byte x))) W R → aj G l k d (pc + 1) lv st M bc bs Q) : aj G l k d pc lv (.int x :: .int z :: .ref (a + i) :: st) M bc bs Q := by
  obtain ⟨g, hc, hg⟩ := hA.ints hk (Or.inr rfl)
  subst hz
  refine aj.bast hd hc (vp_in_nI hj hn) ?_
  rw [nI_clamp (Nat.lt_trans hj hn)]
  refine h _ (hA.upV (kIn_of hk (by decide)) ((kP_i hk (Or.inr rfl)).mpr ⟨_, rfl, fun q hq => ?_⟩))
  by_cases e : q = j
  · subst e; rw [pk_us, pk_us]
  · rw [pk_un e, pk_un e]; exact hg q hq
theorem aj.kLl {i n j : Nat} {x : Int32} (hk : kd i = (1, n)) (hd : decode k.2.1 pc = .ok (.laload, 1)) (hA : kA a M0 M V W R) (hx : x = nI j) (hj : j < n) (hn : n < 2 ^ 31) (h : aj G l k d (pc + 1) lv (.long (W i j) :: st) M bc bs Q) : aj G l k d pc lv (.int x :: .ref (a + i) :: st) M bc bs Q := by
  obtain ⟨g, hc, hg⟩ := hA.longs hk
  subst hx
  exact aj.lald hd hc (vp_in_nI hj hn) (by rw [nI_clamp (Nat.lt_trans hj hn), hg j hj]; exact h)
theorem aj.kSl {i n j : Nat} {x : Int64} {z : Int32} (hk : kd i = (1, n)) (hd : decode k.2.1 pc = .ok (.lastore, 1)) (hA : kA a M0 M V W R) (hz : z = nI j) (hj : j < n) (hn : n < 2 ^ 31) (h : ∀ M : zM, kA a M0 M V (va_up W i (vp_updL (W i) j x)) R → aj G l k d (pc + 1) lv st M bc bs Q) : aj G l k d pc lv (.long x :: .int z :: .ref (a + i) :: st) M bc bs Q := by
  obtain ⟨g, hc, hg⟩ := hA.longs hk
  subst hz
  refine aj.last hd hc (vp_in_nI hj hn) ?_
  rw [nI_clamp (Nat.lt_trans hj hn)]
  refine h _ (hA.upW (kIn_of hk (by decide)) ((kP_l hk).mpr ⟨_, rfl, fun q hq => ?_⟩))
  unfold vp_updL
  by_cases e : q = j
  · rw [if_pos e, if_pos e]
  · rw [if_neg e, if_neg e]; exact hg q hq
theorem aj.kN {i n t : Nat} {v : Int32} (hk : kd i = (t, n)) (ht : t < 10 ∨ 40 ≤ t) (ht2 : t < 3 ∨ (40 ≤ t ∧ t < 80)) (hd : decode k.2.1 pc = .ok (.arraylength, 1)) (hA : kA a M0 M V W R) (hv : Int32.ofNat n = v) (h : aj G l k d (pc + 1) lv (.int v :: st) M bc bs Q) : aj G l k d pc lv (.ref (a + i) :: st) M bc bs Q := by
  by_cases q : t = 0 ∨ t = 2
  · obtain ⟨g, hc, hg⟩ := hA.ints hk q
    exact aj.alen hd hc (by omega) hv h
  · by_cases q1 : t = 1
    · subst q1
      obtain ⟨g, hc, hg⟩ := hA.longs hk
      exact aj.alen hd hc (by omega) hv h
    · obtain ⟨g, hc, hg⟩ := hA.refs hk (by omega) (by omega)
      exact aj.alen hd hc (by omega) hv h
theorem aj.kR40 {i n j : Nat} {x : Int32} (hk : kd i = (40, n)) (hd : decode k.2.1 pc = .ok (.aaload, 1)) (hA : kA a M0 M V W R) (hx : x = nI j) (hj : j < n) (hn : n < 2 ^ 31) (h : aj G l k d (pc + 1) lv (.ref (a + (16 + 3 * j)) :: st) M bc bs Q) : aj G l k d pc lv (.int x :: .ref (a + i) :: st) M bc bs Q := by
  obtain ⟨g, hc, hg⟩ := hA.refs hk (by decide) (by decide)
  subst hx
  exact aj.aald4 hd hc (vp_in_nI hj hn) (by rw [nI_clamp (Nat.lt_trans hj hn), hg j hj]; exact h)
theorem aj.kR41 {i n j : Nat} {x : Int32} (hk : kd i = (41, n)) (hd : decode k.2.1 pc = .ok (.aaload, 1)) (hA : kA a M0 M V W R) (hx : x = nI j) (hj : j < n) (hn : n < 2 ^ 31) (h : aj G l k d (pc + 1) lv (.ref (a + (65 + 3 * j)) :: st) M bc bs Q) : aj G l k d pc lv (.int x :: .ref (a + i) :: st) M bc bs Q := by
  obtain ⟨g, hc, hg⟩ := hA.refs hk (by decide) (by decide)
  subst hx
  exact aj.aald4 hd hc (vp_in_nI hj hn) (by rw [nI_clamp (Nat.lt_trans hj hn), hg j hj]; exact h)
theorem aj.kR50 {i n j : Nat} {x : Int32} (hk : kd i = (50, n)) (hd : decode k.2.1 pc = .ok (.aaload, 1)) (hA : kA a M0 M V W R) (hx : x = nI j) (hj : j < n) (hn : n < 2 ^ 31) (h : aj G l k d (pc + 1) lv (.ref (a + (57 + 2 * j)) :: st) M bc bs Q) : aj G l k d pc lv (.int x :: .ref (a + i) :: st) M bc bs Q := by
  obtain ⟨g, hc, hg⟩ := hA.refs hk (by decide) (by decide)
  subst hx
  exact aj.aald5 hd hc (vp_in_nI hj hn) (by rw [nI_clamp (Nat.lt_trans hj hn), hg j hj]; exact h)
theorem aj.kR70 {i n j : Nat} {x : Int32} (hk : kd i = (70, n)) (hd : decode k.2.1 pc = .ok (.aaload, 1)) (hA : kA a M0 M V W R) (hx : x = nI j) (hj : j < n) (hn : n < 2 ^ 31) (h : aj G l k d (pc + 1) lv (.ref (a + (71 + 4 * j)) :: st) M bc bs Q) : aj G l k d pc lv (.int x :: .ref (a + i) :: st) M bc bs Q := by
  obtain ⟨g, hc, hg⟩ := hA.refs hk (by decide) (by decide)
  subst hx
  exact aj.aald7 hd hc (vp_in_nI hj hn) (by rw [nI_clamp (Nat.lt_trans hj hn), hg j hj]; exact h)
theorem aj.kR60 {i n j : Nat} {x : Int32} (hk : kd i = (60, n)) (hd : decode k.2.1 pc = .ok (.aaload, 1)) (hA : kA a M0 M V W R) (hx : x = nI j) (hj : j < n) (hn : n < 2 ^ 31) (h : aj G l k d (pc + 1) lv (va_rf (R i j) :: st) M bc bs Q) : aj G l k d pc lv (.int x :: .ref (a + i) :: st) M bc bs Q := by
  obtain ⟨g, hc, hg⟩ := hA.refs hk (by decide) (by decide)
  subst hx
  exact aj.aald6 hd hc (vp_in_nI hj hn) (by rw [nI_clamp (Nat.lt_trans hj hn), hg j hj]; exact h)
theorem aj.kS60 {i n j v : Nat} {z : Int32} {fs : List Value} (hk : kd i = (60, n)) (hd : decode k.2.1 pc = .ok (.aastore, 1)) (hA : kA a M0 M V W R) (hz : z = nI j) (hj : j < n) (hn : n < 2 ^ 31) (hv : M.1 v = some (.inr (0, fs))) (h : ∀ M : zM, kA a M0 M V W (va_up R i (va_up (R i) j (some v))) → aj G l k d (pc + 1) lv st M bc bs Q) : aj G l k d pc lv (.ref v :: .int z :: .ref (a + i) :: st) M bc bs Q := by
  obtain ⟨g, hc, hg⟩ := hA.refs hk (by decide) (by decide)
  subst hz
  refine aj.aast6 hd hc hv (vp_in_nI hj hn) ?_
  rw [nI_clamp (Nat.lt_trans hj hn)]
  refine h _ (hA.upR (kIn_of hk (by decide)) ((kP_r hk (by decide)).mpr ⟨_, rfl, fun q hq => ?_⟩))
  by_cases e : q = j
  · subst e; show va_up g _ _ _ = va_up _ _ _ _; rw [va_up_self, va_up_self]
  · show va_up g _ _ _ = va_up _ _ _ _; rw [va_up_ne _ _ e, va_up_ne _ _ e]; exact hg q hq
theorem gX1_kept {i idx : Nat} (hk : kd i = (11, 0)) (hA : kA a M0 M V W R) (hl : Cond.fieldLink k.1.cls idx (TX1 0).1 (TX1 0).2.1 (TX1 0).2.2.1 ∈ z_W) (hd : decode k.2.1 pc = .ok (.getfield idx, 3)) (h : aj G l k d (pc + 3) lv (.ref (a + 15) :: st) M bc bs Q) : aj G l k d pc lv (.ref (a + i) :: st) M bc bs Q := aj.get (i := 0) (cq := (RX1, TX1, 3)) hd (hA.ob hk (by decide)) rfl (Nat.le_of_ble_eq_true rfl) hl rfl h
theorem gX1_next {i idx : Nat} (hk : kd i = (11, 0)) (hA : kA a M0 M V W R) (hl : Cond.fieldLink k.1.cls idx (TX1 1).1 (TX1 1).2.1 (TX1 1).2.2.1 ∈ z_W) (hd : decode k.2.1 pc = .ok (.getfield idx, 3)) (h : aj G l k d (pc + 3) lv (.int (V i 0) :: st) M bc bs Q) : aj G l k d pc lv (.ref (a + i) :: st) M bc bs Q := aj.get (i := 1) (cq := (RX1, TX1, 3)) hd (hA.ob hk (by decide)) rfl (Nat.le_of_ble_eq_true rfl) hl rfl h
theorem pX1_next {i idx : Nat} {x : Int32} (hk : kd i = (11, 0)) (hA : kA a M0 M V W R) (hl : Cond.fieldLink k.1.cls idx (TX1 1).1 (TX1 1).2.1 (TX1 1).2.2.1 ∈ z_W) (hd : decode k.2.1 pc = .ok (.putfield idx, 3)) (h : ∀ M : zM, kA a M0 M (va_up V i (upd (V i) 0 x)) W R → aj G l k d (pc + 3) lv st M bc bs Q) : aj G l k d pc lv (.int x :: .ref (a + i) :: st) M bc bs Q := aj.put (i := 1) (cq := (RX1, TX1, 3)) hd (hA.ob hk (by decide)) rfl (Nat.le_of_ble_eq_true rfl) hl rfl (vp_nar_int x) rfl (Nat.le_of_ble_eq_true rfl) (h _ (hA.upV (kIn_of hk (by decide)) ((kP_o hk (by decide)).mpr rfl)))
theorem gX1_size {i idx : Nat} (hk : kd i = (11, 0)) (hA : kA a M0 M V W R) (hl : Cond.fieldLink k.1.cls idx (TX1 2).1 (TX1 2).2.1 (TX1 2).2.2.1 ∈ z_W) (hd : decode k.2.1 pc = .ok (.getfield idx, 3)) (h : aj G l k d (pc + 3) lv (.int (V i 1) :: st) M bc bs Q) : aj G l k d pc lv (.ref (a + i) :: st) M bc bs Q := aj.get (i := 2) (cq := (RX1, TX1, 3)) hd (hA.ob hk (by decide)) rfl (Nat.le_of_ble_eq_true rfl) hl rfl h
theorem pX1_size {i idx : Nat} {x : Int32} (hk : kd i = (11, 0)) (hA : kA a M0 M V W R) (hl : Cond.fieldLink k.1.cls idx (TX1 2).1 (TX1 2).2.1 (TX1 2).2.2.1 ∈ z_W) (hd : decode k.2.1 pc = .ok (.putfield idx, 3)) (h : ∀ M : zM, kA a M0 M (va_up V i (upd (V i) 1 x)) W R → aj G l k d (pc + 3) lv st M bc bs Q) : aj G l k d pc lv (.int x :: .ref (a + i) :: st) M bc bs Q := aj.put (i := 2) (cq := (RX1, TX1, 3)) hd (hA.ob hk (by decide)) rfl (Nat.le_of_ble_eq_true rfl) hl rfl (vp_nar_int x) rfl (Nat.le_of_ble_eq_true rfl) (h _ (hA.upV (kIn_of hk (by decide)) ((kP_o hk (by decide)).mpr rfl)))
theorem gX4_words {i idx : Nat} (hk : kd i = (14, 0)) (hA : kA a M0 M V W R) (hl : Cond.fieldLink k.1.cls idx (TX4 0).1 (TX4 0).2.1 (TX4 0).2.2.1 ∈ z_W) (hd : decode k.2.1 pc = .ok (.getfield idx, 3)) (h : aj G l k d (pc + 3) lv (.ref (a + 50) :: st) M bc bs Q) : aj G l k d pc lv (.ref (a + i) :: st) M bc bs Q := aj.get (i := 0) (cq := (RX4, TX4, 2)) hd (hA.ob hk (by decide)) rfl (Nat.le_of_ble_eq_true rfl) hl rfl h
theorem gX4_stack {i idx : Nat} (hk : kd i = (14, 0)) (hA : kA a M0 M V W R) (hl : Cond.fieldLink k.1.cls idx (TX4 1).1 (TX4 1).2.1 (TX4 1).2.2.1 ∈ z_W) (hd : decode k.2.1 pc = .ok (.getfield idx, 3)) (h : aj G l k d (pc + 3) lv (.ref (a + 51) :: st) M bc bs Q) : aj G l k d pc lv (.ref (a + i) :: st) M bc bs Q := aj.get (i := 1) (cq := (RX4, TX4, 2)) hd (hA.ob hk (by decide)) rfl (Nat.le_of_ble_eq_true rfl) hl rfl h
theorem gX5_tokens {i idx : Nat} (hk : kd i = (15, 0)) (hA : kA a M0 M V W R) (hl : Cond.fieldLink k.1.cls idx (TX5 0).1 (TX5 0).2.1 (TX5 0).2.2.1 ∈ z_W) (hd : decode k.2.1 pc = .ok (.getfield idx, 3)) (h : aj G l k d (pc + 3) lv (.ref (a + 3) :: st) M bc bs Q) : aj G l k d pc lv (.ref (a + i) :: st) M bc bs Q := aj.get (i := 0) (cq := (RX5, TX5, 8)) hd (hA.ob hk (by decide)) rfl (Nat.le_of_ble_eq_true rfl) hl rfl h
theorem gX5_at {i idx : Nat} (hk : kd i = (15, 0)) (hA : kA a M0 M V W R) (hl : Cond.fieldLink k.1.cls idx (TX5 1).1 (TX5 1).2.1 (TX5 1).2.2.1 ∈ z_W) (hd : decode k.2.1 pc = .ok (.getfield idx, 3)) (h : aj G l k d (pc + 3) lv (.int (V i 0) :: st) M bc bs Q) : aj G l k d pc lv (.ref (a + i) :: st) M bc bs Q := aj.get (i := 1) (cq := (RX5, TX5, 8)) hd (hA.ob hk (by decide)) rfl (Nat.le_of_ble_eq_true rfl) hl rfl h
theorem pX5_at {i idx : Nat} {x : Int32} (hk : kd i = (15, 0)) (hA : kA a M0 M V W R) (hl : Cond.fieldLink k.1.cls idx (TX5 1).1 (TX5 1).2.1 (TX5 1).2.2.1 ∈ z_W) (hd : decode k.2.1 pc = .ok (.putfield idx, 3)) (h : ∀ M : zM, kA a M0 M (va_up V i (upd (V i) 0 x)) W R → aj G l k d (pc + 3) lv st M bc bs Q) : aj G l k d pc lv (.int x :: .ref (a + i) :: st) M bc bs Q := aj.put (i := 1) (cq := (RX5, TX5, 8)) hd (hA.ob hk (by decide)) rfl (Nat.le_of_ble_eq_true rfl) hl rfl (vp_nar_int x) rfl (Nat.le_of_ble_eq_true rfl) (h _ (hA.upV (kIn_of hk (by decide)) ((kP_o hk (by decide)).mpr rfl)))
theorem gX5_token {i idx : Nat} (hk : kd i = (15, 0)) (hA : kA a M0 M V W R) (hl : Cond.fieldLink k.1.cls idx (TX5 2).1 (TX5 2).2.1 (TX5 2).2.2.1 ∈ z_W) (hd : decode k.2.1 pc = .ok (.getfield idx, 3)) (h : aj G l k d (pc + 3) lv (.int (V i 1) :: st) M bc bs Q) : aj G l k d pc lv (.ref (a + i) :: st) M bc bs Q := aj.get (i := 2) (cq := (RX5, TX5, 8)) hd (hA.ob hk (by decide)) rfl (Nat.le_of_ble_eq_true rfl) hl rfl h
theorem pX5_token {i idx : Nat} {x : Int32} (hk : kd i = (15, 0)) (hA : kA a M0 M V W R) (hl : Cond.fieldLink k.1.cls idx (TX5 2).1 (TX5 2).2.1 (TX5 2).2.2.1 ∈ z_W) (hd : decode k.2.1 pc = .ok (.putfield idx, 3)) (h : ∀ M : zM, kA a M0 M (va_up V i (upd (V i) 1 x)) W R → aj G l k d (pc + 3) lv st M bc bs Q) : aj G l k d pc lv (.int x :: .ref (a + i) :: st) M bc bs Q := aj.put (i := 2) (cq := (RX5, TX5, 8)) hd (hA.ob hk (by decide)) rfl (Nat.le_of_ble_eq_true rfl) hl rfl (vp_nar_int x) rfl (Nat.le_of_ble_eq_true rfl) (h _ (hA.upV (kIn_of hk (by decide)) ((kP_o hk (by decide)).mpr rfl)))
theorem gX5_steps {i idx : Nat} (hk : kd i = (15, 0)) (hA : kA a M0 M V W R) (hl : Cond.fieldLink k.1.cls idx (TX5 3).1 (TX5 3).2.1 (TX5 3).2.2.1 ∈ z_W) (hd : decode k.2.1 pc = .ok (.getfield idx, 3)) (h : aj G l k d (pc + 3) lv (.ref (a + 5) :: st) M bc bs Q) : aj G l k d pc lv (.ref (a + i) :: st) M bc bs Q := aj.get (i := 3) (cq := (RX5, TX5, 8)) hd (hA.ob hk (by decide)) rfl (Nat.le_of_ble_eq_true rfl) hl rfl h
theorem gX5_stepCount {i idx : Nat} (hk : kd i = (15, 0)) (hA : kA a M0 M V W R) (hl : Cond.fieldLink k.1.cls idx (TX5 4).1 (TX5 4).2.1 (TX5 4).2.2.1 ∈ z_W) (hd : decode k.2.1 pc = .ok (.getfield idx, 3)) (h : aj G l k d (pc + 3) lv (.int (V i 2) :: st) M bc bs Q) : aj G l k d pc lv (.ref (a + i) :: st) M bc bs Q := aj.get (i := 4) (cq := (RX5, TX5, 8)) hd (hA.ob hk (by decide)) rfl (Nat.le_of_ble_eq_true rfl) hl rfl h
theorem pX5_stepCount {i idx : Nat} {x : Int32} (hk : kd i = (15, 0)) (hA : kA a M0 M V W R) (hl : Cond.fieldLink k.1.cls idx (TX5 4).1 (TX5 4).2.1 (TX5 4).2.2.1 ∈ z_W) (hd : decode k.2.1 pc = .ok (.putfield idx, 3)) (h : ∀ M : zM, kA a M0 M (va_up V i (upd (V i) 2 x)) W R → aj G l k d (pc + 3) lv st M bc bs Q) : aj G l k d pc lv (.int x :: .ref (a + i) :: st) M bc bs Q := aj.put (i := 4) (cq := (RX5, TX5, 8)) hd (hA.ob hk (by decide)) rfl (Nat.le_of_ble_eq_true rfl) hl rfl (vp_nar_int x) rfl (Nat.le_of_ble_eq_true rfl) (h _ (hA.upV (kIn_of hk (by decide)) ((kP_o hk (by decide)).mpr rfl)))
theorem gX5_inStrays {i idx : Nat} (hk : kd i = (15, 0)) (hA : kA a M0 M V W R) (hl : Cond.fieldLink k.1.cls idx (TX5 5).1 (TX5 5).2.1 (TX5 5).2.2.1 ∈ z_W) (hd : decode k.2.1 pc = .ok (.getfield idx, 3)) (h : aj G l k d (pc + 3) lv (.int (V i 3) :: st) M bc bs Q) : aj G l k d pc lv (.ref (a + i) :: st) M bc bs Q := aj.get (i := 5) (cq := (RX5, TX5, 8)) hd (hA.ob hk (by decide)) rfl (Nat.le_of_ble_eq_true rfl) hl rfl h
theorem pX5_inStrays {i idx : Nat} {x : Int32} (hk : kd i = (15, 0)) (hA : kA a M0 M V W R) (hz : x = 0 ∨ x = 1) (hl : Cond.fieldLink k.1.cls idx (TX5 5).1 (TX5 5).2.1 (TX5 5).2.2.1 ∈ z_W) (hd : decode k.2.1 pc = .ok (.putfield idx, 3)) (h : ∀ M : zM, kA a M0 M (va_up V i (upd (V i) 3 x)) W R → aj G l k d (pc + 3) lv st M bc bs Q) : aj G l k d pc lv (.int x :: .ref (a + i) :: st) M bc bs Q := aj.put (i := 5) (cq := (RX5, TX5, 8)) hd (hA.ob hk (by decide)) rfl (Nat.le_of_ble_eq_true rfl) hl rfl (by rcases hz with rfl | rfl <;> rfl) (by rcases hz with rfl | rfl <;> rfl) (Nat.le_of_ble_eq_true rfl) (h _ (hA.upV (kIn_of hk (by decide)) ((kP_o hk (by decide)).mpr rfl)))
theorem gX5_fault {i idx : Nat} (hk : kd i = (15, 0)) (hA : kA a M0 M V W R) (hl : Cond.fieldLink k.1.cls idx (TX5 6).1 (TX5 6).2.1 (TX5 6).2.2.1 ∈ z_W) (hd : decode k.2.1 pc = .ok (.getfield idx, 3)) (h : aj G l k d (pc + 3) lv (.int (V i 4) :: st) M bc bs Q) : aj G l k d pc lv (.ref (a + i) :: st) M bc bs Q := aj.get (i := 6) (cq := (RX5, TX5, 8)) hd (hA.ob hk (by decide)) rfl (Nat.le_of_ble_eq_true rfl) hl rfl h
theorem pX5_fault {i idx : Nat} {x : Int32} (hk : kd i = (15, 0)) (hA : kA a M0 M V W R) (hl : Cond.fieldLink k.1.cls idx (TX5 6).1 (TX5 6).2.1 (TX5 6).2.2.1 ∈ z_W) (hd : decode k.2.1 pc = .ok (.putfield idx, 3)) (h : ∀ M : zM, kA a M0 M (va_up V i (upd (V i) 4 x)) W R → aj G l k d (pc + 3) lv st M bc bs Q) : aj G l k d pc lv (.int x :: .ref (a + i) :: st) M bc bs Q := aj.put (i := 6) (cq := (RX5, TX5, 8)) hd (hA.ob hk (by decide)) rfl (Nat.le_of_ble_eq_true rfl) hl rfl (vp_nar_int x) rfl (Nat.le_of_ble_eq_true rfl) (h _ (hA.upV (kIn_of hk (by decide)) ((kP_o hk (by decide)).mpr rfl)))
theorem gX5_place {i idx : Nat} (hk : kd i = (15, 0)) (hA : kA a M0 M V W R) (hl : Cond.fieldLink k.1.cls idx (TX5 7).1 (TX5 7).2.1 (TX5 7).2.2.1 ∈ z_W) (hd : decode k.2.1 pc = .ok (.getfield idx, 3)) (h : aj G l k d (pc + 3) lv (.int (V i 5) :: st) M bc bs Q) : aj G l k d pc lv (.ref (a + i) :: st) M bc bs Q := aj.get (i := 7) (cq := (RX5, TX5, 8)) hd (hA.ob hk (by decide)) rfl (Nat.le_of_ble_eq_true rfl) hl rfl h
theorem pX5_place {i idx : Nat} {x : Int32} (hk : kd i = (15, 0)) (hA : kA a M0 M V W R) (hl : Cond.fieldLink k.1.cls idx (TX5 7).1 (TX5 7).2.1 (TX5 7).2.2.1 ∈ z_W) (hd : decode k.2.1 pc = .ok (.putfield idx, 3)) (h : ∀ M : zM, kA a M0 M (va_up V i (upd (V i) 5 x)) W R → aj G l k d (pc + 3) lv st M bc bs Q) : aj G l k d pc lv (.int x :: .ref (a + i) :: st) M bc bs Q := aj.put (i := 7) (cq := (RX5, TX5, 8)) hd (hA.ob hk (by decide)) rfl (Nat.le_of_ble_eq_true rfl) hl rfl (vp_nar_int x) rfl (Nat.le_of_ble_eq_true rfl) (h _ (hA.upV (kIn_of hk (by decide)) ((kP_o hk (by decide)).mpr rfl)))
theorem gX6_worths {i idx : Nat} (hk : kd i = (16, 0)) (hA : kA a M0 M V W R) (hl : Cond.fieldLink k.1.cls idx (TX6 0).1 (TX6 0).2.1 (TX6 0).2.2.1 ∈ z_W) (hd : decode k.2.1 pc = .ok (.getfield idx, 3)) (h : aj G l k d (pc + 3) lv (.ref (a + 55) :: st) M bc bs Q) : aj G l k d pc lv (.ref (a + i) :: st) M bc bs Q := aj.get (i := 0) (cq := (RX6, TX6, 3)) hd (hA.ob hk (by decide)) rfl (Nat.le_of_ble_eq_true rfl) hl rfl h
theorem gX6_scale {i idx : Nat} (hk : kd i = (16, 0)) (hA : kA a M0 M V W R) (hl : Cond.fieldLink k.1.cls idx (TX6 1).1 (TX6 1).2.1 (TX6 1).2.2.1 ∈ z_W) (hd : decode k.2.1 pc = .ok (.getfield idx, 3)) (h : aj G l k d (pc + 3) lv (.long (W i 0) :: st) M bc bs Q) : aj G l k d pc lv (.ref (a + i) :: st) M bc bs Q := aj.get (i := 1) (cq := (RX6, TX6, 3)) hd (hA.ob hk (by decide)) rfl (Nat.le_of_ble_eq_true rfl) hl rfl h
theorem pX6_scale {i idx : Nat} {x : Int64} (hk : kd i = (16, 0)) (hA : kA a M0 M V W R) (hl : Cond.fieldLink k.1.cls idx (TX6 1).1 (TX6 1).2.1 (TX6 1).2.2.1 ∈ z_W) (hd : decode k.2.1 pc = .ok (.putfield idx, 3)) (h : ∀ M : zM, kA a M0 M V (va_up W i (vp_updL (W i) 0 x)) R → aj G l k d (pc + 3) lv st M bc bs Q) : aj G l k d pc lv (.long x :: .ref (a + i) :: st) M bc bs Q := aj.put (i := 1) (cq := (RX6, TX6, 3)) hd (hA.ob hk (by decide)) rfl (Nat.le_of_ble_eq_true rfl) hl rfl rfl rfl (Nat.le_of_ble_eq_true rfl) (h _ (hA.upW (kIn_of hk (by decide)) ((kP_o hk (by decide)).mpr rfl)))
theorem gX6_first {i idx : Nat} (hk : kd i = (16, 0)) (hA : kA a M0 M V W R) (hl : Cond.fieldLink k.1.cls idx (TX6 2).1 (TX6 2).2.1 (TX6 2).2.2.1 ∈ z_W) (hd : decode k.2.1 pc = .ok (.getfield idx, 3)) (h : aj G l k d (pc + 3) lv (.int (V i 0) :: st) M bc bs Q) : aj G l k d pc lv (.ref (a + i) :: st) M bc bs Q := aj.get (i := 2) (cq := (RX6, TX6, 3)) hd (hA.ob hk (by decide)) rfl (Nat.le_of_ble_eq_true rfl) hl rfl h
theorem pX6_first {i idx : Nat} {x : Int32} (hk : kd i = (16, 0)) (hA : kA a M0 M V W R) (hl : Cond.fieldLink k.1.cls idx (TX6 2).1 (TX6 2).2.1 (TX6 2).2.2.1 ∈ z_W) (hd : decode k.2.1 pc = .ok (.putfield idx, 3)) (h : ∀ M : zM, kA a M0 M (va_up V i (upd (V i) 0 x)) W R → aj G l k d (pc + 3) lv st M bc bs Q) : aj G l k d pc lv (.int x :: .ref (a + i) :: st) M bc bs Q := aj.put (i := 2) (cq := (RX6, TX6, 3)) hd (hA.ob hk (by decide)) rfl (Nat.le_of_ble_eq_true rfl) hl rfl (vp_nar_int x) rfl (Nat.le_of_ble_eq_true rfl) (h _ (hA.upV (kIn_of hk (by decide)) ((kP_o hk (by decide)).mpr rfl)))
theorem gX7_points {i idx : Nat} (hk : kd i = (17, 0)) (hA : kA a M0 M V W R) (hl : Cond.fieldLink k.1.cls idx (TX7 0).1 (TX7 0).2.1 (TX7 0).2.2.1 ∈ z_W) (hd : decode k.2.1 pc = .ok (.getfield idx, 3)) (h : aj G l k d (pc + 3) lv (.ref (a + (i + 1)) :: st) M bc bs Q) : aj G l k d pc lv (.ref (a + i) :: st) M bc bs Q := aj.get (i := 0) (cq := (RX7, TX7, 5)) hd (hA.ob hk (by decide)) rfl (Nat.le_of_ble_eq_true rfl) hl rfl h
theorem gX7_ages {i idx : Nat} (hk : kd i = (17, 0)) (hA : kA a M0 M V W R) (hl : Cond.fieldLink k.1.cls idx (TX7 1).1 (TX7 1).2.1 (TX7 1).2.2.1 ∈ z_W) (hd : decode k.2.1 pc = .ok (.getfield idx, 3)) (h : aj G l k d (pc + 3) lv (.ref (a + (i + 2)) :: st) M bc bs Q) : aj G l k d pc lv (.ref (a + i) :: st) M bc bs Q := aj.get (i := 1) (cq := (RX7, TX7, 5)) hd (hA.ob hk (by decide)) rfl (Nat.le_of_ble_eq_true rfl) hl rfl h
theorem gX7_hurt {i idx : Nat} (hk : kd i = (17, 0)) (hA : kA a M0 M V W R) (hl : Cond.fieldLink k.1.cls idx (TX7 2).1 (TX7 2).2.1 (TX7 2).2.2.1 ∈ z_W) (hd : decode k.2.1 pc = .ok (.getfield idx, 3)) (h : aj G l k d (pc + 3) lv (.int (V i 0) :: st) M bc bs Q) : aj G l k d pc lv (.ref (a + i) :: st) M bc bs Q := aj.get (i := 2) (cq := (RX7, TX7, 5)) hd (hA.ob hk (by decide)) rfl (Nat.le_of_ble_eq_true rfl) hl rfl h
theorem pX7_hurt {i idx : Nat} {x : Int32} (hk : kd i = (17, 0)) (hA : kA a M0 M V W R) (hl : Cond.fieldLink k.1.cls idx (TX7 2).1 (TX7 2).2.1 (TX7 2).2.2.1 ∈ z_W) (hd : decode k.2.1 pc = .ok (.putfield idx, 3)) (h : ∀ M : zM, kA a M0 M (va_up V i (upd (V i) 0 x)) W R → aj G l k d (pc + 3) lv st M bc bs Q) : aj G l k d pc lv (.int x :: .ref (a + i) :: st) M bc bs Q := aj.put (i := 2) (cq := (RX7, TX7, 5)) hd (hA.ob hk (by decide)) rfl (Nat.le_of_ble_eq_true rfl) hl rfl (vp_nar_int x) rfl (Nat.le_of_ble_eq_true rfl) (h _ (hA.upV (kIn_of hk (by decide)) ((kP_o hk (by decide)).mpr rfl)))
theorem gX7_wind {i idx : Nat} (hk : kd i = (17, 0)) (hA : kA a M0 M V W R) (hl : Cond.fieldLink k.1.cls idx (TX7 3).1 (TX7 3).2.1 (TX7 3).2.2.1 ∈ z_W) (hd : decode k.2.1 pc = .ok (.getfield idx, 3)) (h : aj G l k d (pc + 3) lv (.int (V i 1) :: st) M bc bs Q) : aj G l k d pc lv (.ref (a + i) :: st) M bc bs Q := aj.get (i := 3) (cq := (RX7, TX7, 5)) hd (hA.ob hk (by decide)) rfl (Nat.le_of_ble_eq_true rfl) hl rfl h
theorem pX7_wind {i idx : Nat} {x : Int32} (hk : kd i = (17, 0)) (hA : kA a M0 M V W R) (hl : Cond.fieldLink k.1.cls idx (TX7 3).1 (TX7 3).2.1 (TX7 3).2.2.1 ∈ z_W) (hd : decode k.2.1 pc = .ok (.putfield idx, 3)) (h : ∀ M : zM, kA a M0 M (va_up V i (upd (V i) 1 x)) W R → aj G l k d (pc + 3) lv st M bc bs Q) : aj G l k d pc lv (.int x :: .ref (a + i) :: st) M bc bs Q := aj.put (i := 3) (cq := (RX7, TX7, 5)) hd (hA.ob hk (by decide)) rfl (Nat.le_of_ble_eq_true rfl) hl rfl (vp_nar_int x) rfl (Nat.le_of_ble_eq_true rfl) (h _ (hA.upV (kIn_of hk (by decide)) ((kP_o hk (by decide)).mpr rfl)))
theorem gX7_minute {i idx : Nat} (hk : kd i = (17, 0)) (hA : kA a M0 M V W R) (hl : Cond.fieldLink k.1.cls idx (TX7 4).1 (TX7 4).2.1 (TX7 4).2.2.1 ∈ z_W) (hd : decode k.2.1 pc = .ok (.getfield idx, 3)) (h : aj G l k d (pc + 3) lv (.int (V i 2) :: st) M bc bs Q) : aj G l k d pc lv (.ref (a + i) :: st) M bc bs Q := aj.get (i := 4) (cq := (RX7, TX7, 5)) hd (hA.ob hk (by decide)) rfl (Nat.le_of_ble_eq_true rfl) hl rfl h
theorem pX7_minute {i idx : Nat} {x : Int32} (hk : kd i = (17, 0)) (hA : kA a M0 M V W R) (hl : Cond.fieldLink k.1.cls idx (TX7 4).1 (TX7 4).2.1 (TX7 4).2.2.1 ∈ z_W) (hd : decode k.2.1 pc = .ok (.putfield idx, 3)) (h : ∀ M : zM, kA a M0 M (va_up V i (upd (V i) 2 x)) W R → aj G l k d (pc + 3) lv st M bc bs Q) : aj G l k d pc lv (.int x :: .ref (a + i) :: st) M bc bs Q := aj.put (i := 4) (cq := (RX7, TX7, 5)) hd (hA.ob hk (by decide)) rfl (Nat.le_of_ble_eq_true rfl) hl rfl (vp_nar_int x) rfl (Nat.le_of_ble_eq_true rfl) (h _ (hA.upV (kIn_of hk (by decide)) ((kP_o hk (by decide)).mpr rfl)))
theorem gX8_landings {i idx : Nat} (hk : kd i = (18, 0)) (hA : kA a M0 M V W R) (hl : Cond.fieldLink k.1.cls idx (TX8 0).1 (TX8 0).2.1 (TX8 0).2.2.1 ∈ z_W) (hd : decode k.2.1 pc = .ok (.getfield idx, 3)) (h : aj G l k d (pc + 3) lv (.ref (a + (i + 1)) :: st) M bc bs Q) : aj G l k d pc lv (.ref (a + i) :: st) M bc bs Q := aj.get (i := 0) (cq := (RX8, TX8, 3)) hd (hA.ob hk (by decide)) rfl (Nat.le_of_ble_eq_true rfl) hl rfl h
theorem gX8_touched {i idx : Nat} (hk : kd i = (18, 0)) (hA : kA a M0 M V W R) (hl : Cond.fieldLink k.1.cls idx (TX8 1).1 (TX8 1).2.1 (TX8 1).2.2.1 ∈ z_W) (hd : decode k.2.1 pc = .ok (.getfield idx, 3)) (h : aj G l k d (pc + 3) lv (.ref (a + (i + 2)) :: st) M bc bs Q) : aj G l k d pc lv (.ref (a + i) :: st) M bc bs Q := aj.get (i := 1) (cq := (RX8, TX8, 3)) hd (hA.ob hk (by decide)) rfl (Nat.le_of_ble_eq_true rfl) hl rfl h
theorem gX8_missed {i idx : Nat} (hk : kd i = (18, 0)) (hA : kA a M0 M V W R) (hl : Cond.fieldLink k.1.cls idx (TX8 2).1 (TX8 2).2.1 (TX8 2).2.2.1 ∈ z_W) (hd : decode k.2.1 pc = .ok (.getfield idx, 3)) (h : aj G l k d (pc + 3) lv (.ref (a + (i + 3)) :: st) M bc bs Q) : aj G l k d pc lv (.ref (a + i) :: st) M bc bs Q := aj.get (i := 2) (cq := (RX8, TX8, 3)) hd (hA.ob hk (by decide)) rfl (Nat.le_of_ble_eq_true rfl) hl rfl h
theorem gX9_tokens {i idx : Nat} (hk : kd i = (19, 0)) (hA : kA a M0 M V W R) (hl : Cond.fieldLink k.1.cls idx (TX9 0).1 (TX9 0).2.1 (TX9 0).2.2.1 ∈ z_W) (hd : decode k.2.1 pc = .ok (.getfield idx, 3)) (h : aj G l k d (pc + 3) lv (.ref (a + 4) :: st) M bc bs Q) : aj G l k d pc lv (.ref (a + i) :: st) M bc bs Q := aj.get (i := 0) (cq := (RX9, TX9, 2)) hd (hA.ob hk (by decide)) rfl (Nat.le_of_ble_eq_true rfl) hl rfl h
theorem gX9_size {i idx : Nat} (hk : kd i = (19, 0)) (hA : kA a M0 M V W R) (hl : Cond.fieldLink k.1.cls idx (TX9 1).1 (TX9 1).2.1 (TX9 1).2.2.1 ∈ z_W) (hd : decode k.2.1 pc = .ok (.getfield idx, 3)) (h : aj G l k d (pc + 3) lv (.int (V i 0) :: st) M bc bs Q) : aj G l k d pc lv (.ref (a + i) :: st) M bc bs Q := aj.get (i := 1) (cq := (RX9, TX9, 2)) hd (hA.ob hk (by decide)) rfl (Nat.le_of_ble_eq_true rfl) hl rfl h
theorem pX9_size {i idx : Nat} {x : Int32} (hk : kd i = (19, 0)) (hA : kA a M0 M V W R) (hl : Cond.fieldLink k.1.cls idx (TX9 1).1 (TX9 1).2.1 (TX9 1).2.2.1 ∈ z_W) (hd : decode k.2.1 pc = .ok (.putfield idx, 3)) (h : ∀ M : zM, kA a M0 M (va_up V i (upd (V i) 0 x)) W R → aj G l k d (pc + 3) lv st M bc bs Q) : aj G l k d pc lv (.int x :: .ref (a + i) :: st) M bc bs Q := aj.put (i := 1) (cq := (RX9, TX9, 2)) hd (hA.ob hk (by decide)) rfl (Nat.le_of_ble_eq_true rfl) hl rfl (vp_nar_int x) rfl (Nat.le_of_ble_eq_true rfl) (h _ (hA.upV (kIn_of hk (by decide)) ((kP_o hk (by decide)).mpr rfl)))
theorem gX10_there {i idx : Nat} (hk : kd i = (20, 0)) (hA : kA a M0 M V W R) (hl : Cond.fieldLink k.1.cls idx (TX10 0).1 (TX10 0).2.1 (TX10 0).2.2.1 ∈ z_W) (hd : decode k.2.1 pc = .ok (.getfield idx, 3)) (h : aj G l k d (pc + 3) lv (.int (V i 0) :: st) M bc bs Q) : aj G l k d pc lv (.ref (a + i) :: st) M bc bs Q := aj.get (i := 0) (cq := (RX10, TX10, 4)) hd (hA.ob hk (by decide)) rfl (Nat.le_of_ble_eq_true rfl) hl rfl h
theorem pX10_there {i idx : Nat} {x : Int32} (hk : kd i = (20, 0)) (hA : kA a M0 M V W R) (hz : x = 0 ∨ x = 1) (hl : Cond.fieldLink k.1.cls idx (TX10 0).1 (TX10 0).2.1 (TX10 0).2.2.1 ∈ z_W) (hd : decode k.2.1 pc = .ok (.putfield idx, 3)) (h : ∀ M : zM, kA a M0 M (va_up V i (upd (V i) 0 x)) W R → aj G l k d (pc + 3) lv st M bc bs Q) : aj G l k d pc lv (.int x :: .ref (a + i) :: st) M bc bs Q := aj.put (i := 0) (cq := (RX10, TX10, 4)) hd (hA.ob hk (by decide)) rfl (Nat.le_of_ble_eq_true rfl) hl rfl (by rcases hz with rfl | rfl <;> rfl) (by rcases hz with rfl | rfl <;> rfl) (Nat.le_of_ble_eq_true rfl) (h _ (hA.upV (kIn_of hk (by decide)) ((kP_o hk (by decide)).mpr rfl)))
theorem gX10_size {i idx : Nat} (hk : kd i = (20, 0)) (hA : kA a M0 M V W R) (hl : Cond.fieldLink k.1.cls idx (TX10 1).1 (TX10 1).2.1 (TX10 1).2.2.1 ∈ z_W) (hd : decode k.2.1 pc = .ok (.getfield idx, 3)) (h : aj G l k d (pc + 3) lv (.int (V i 1) :: st) M bc bs Q) : aj G l k d pc lv (.ref (a + i) :: st) M bc bs Q := aj.get (i := 1) (cq := (RX10, TX10, 4)) hd (hA.ob hk (by decide)) rfl (Nat.le_of_ble_eq_true rfl) hl rfl h
theorem pX10_size {i idx : Nat} {x : Int32} (hk : kd i = (20, 0)) (hA : kA a M0 M V W R) (hl : Cond.fieldLink k.1.cls idx (TX10 1).1 (TX10 1).2.1 (TX10 1).2.2.1 ∈ z_W) (hd : decode k.2.1 pc = .ok (.putfield idx, 3)) (h : ∀ M : zM, kA a M0 M (va_up V i (upd (V i) 1 x)) W R → aj G l k d (pc + 3) lv st M bc bs Q) : aj G l k d pc lv (.int x :: .ref (a + i) :: st) M bc bs Q := aj.put (i := 1) (cq := (RX10, TX10, 4)) hd (hA.ob hk (by decide)) rfl (Nat.le_of_ble_eq_true rfl) hl rfl (vp_nar_int x) rfl (Nat.le_of_ble_eq_true rfl) (h _ (hA.upV (kIn_of hk (by decide)) ((kP_o hk (by decide)).mpr rfl)))
theorem gX10_sort {i idx : Nat} (hk : kd i = (20, 0)) (hA : kA a M0 M V W R) (hl : Cond.fieldLink k.1.cls idx (TX10 2).1 (TX10 2).2.1 (TX10 2).2.2.1 ∈ z_W) (hd : decode k.2.1 pc = .ok (.getfield idx, 3)) (h : aj G l k d (pc + 3) lv (.int (V i 2) :: st) M bc bs Q) : aj G l k d pc lv (.ref (a + i) :: st) M bc bs Q := aj.get (i := 2) (cq := (RX10, TX10, 4)) hd (hA.ob hk (by decide)) rfl (Nat.le_of_ble_eq_true rfl) hl rfl h
theorem pX10_sort {i idx : Nat} {x : Int32} (hk : kd i = (20, 0)) (hA : kA a M0 M V W R) (hl : Cond.fieldLink k.1.cls idx (TX10 2).1 (TX10 2).2.1 (TX10 2).2.2.1 ∈ z_W) (hd : decode k.2.1 pc = .ok (.putfield idx, 3)) (h : ∀ M : zM, kA a M0 M (va_up V i (upd (V i) 2 x)) W R → aj G l k d (pc + 3) lv st M bc bs Q) : aj G l k d pc lv (.int x :: .ref (a + i) :: st) M bc bs Q := aj.put (i := 2) (cq := (RX10, TX10, 4)) hd (hA.ob hk (by decide)) rfl (Nat.le_of_ble_eq_true rfl) hl rfl (vp_nar_int x) rfl (Nat.le_of_ble_eq_true rfl) (h _ (hA.upV (kIn_of hk (by decide)) ((kP_o hk (by decide)).mpr rfl)))
theorem gX10_values {i idx : Nat} (hk : kd i = (20, 0)) (hA : kA a M0 M V W R) (hl : Cond.fieldLink k.1.cls idx (TX10 3).1 (TX10 3).2.1 (TX10 3).2.2.1 ∈ z_W) (hd : decode k.2.1 pc = .ok (.getfield idx, 3)) (h : aj G l k d (pc + 3) lv (.ref (a + (i + 1)) :: st) M bc bs Q) : aj G l k d pc lv (.ref (a + i) :: st) M bc bs Q := aj.get (i := 3) (cq := (RX10, TX10, 4)) hd (hA.ob hk (by decide)) rfl (Nat.le_of_ble_eq_true rfl) hl rfl h
theorem gX11_tape {i idx : Nat} (hk : kd i = (21, 0)) (hA : kA a M0 M V W R) (hl : Cond.fieldLink k.1.cls idx (TX11 0).1 (TX11 0).2.1 (TX11 0).2.2.1 ∈ z_W) (hd : decode k.2.1 pc = .ok (.getfield idx, 3)) (h : aj G l k d (pc + 3) lv (.ref (a + 1) :: st) M bc bs Q) : aj G l k d pc lv (.ref (a + i) :: st) M bc bs Q := aj.get (i := 0) (cq := (RX11, TX11, 17)) hd (hA.ob hk (by decide)) rfl (Nat.le_of_ble_eq_true rfl) hl rfl h
theorem gX11_taped {i idx : Nat} (hk : kd i = (21, 0)) (hA : kA a M0 M V W R) (hl : Cond.fieldLink k.1.cls idx (TX11 1).1 (TX11 1).2.1 (TX11 1).2.2.1 ∈ z_W) (hd : decode k.2.1 pc = .ok (.getfield idx, 3)) (h : aj G l k d (pc + 3) lv (.int (V i 0) :: st) M bc bs Q) : aj G l k d pc lv (.ref (a + i) :: st) M bc bs Q := aj.get (i := 1) (cq := (RX11, TX11, 17)) hd (hA.ob hk (by decide)) rfl (Nat.le_of_ble_eq_true rfl) hl rfl h
theorem pX11_taped {i idx : Nat} {x : Int32} (hk : kd i = (21, 0)) (hA : kA a M0 M V W R) (hl : Cond.fieldLink k.1.cls idx (TX11 1).1 (TX11 1).2.1 (TX11 1).2.2.1 ∈ z_W) (hd : decode k.2.1 pc = .ok (.putfield idx, 3)) (h : ∀ M : zM, kA a M0 M (va_up V i (upd (V i) 0 x)) W R → aj G l k d (pc + 3) lv st M bc bs Q) : aj G l k d pc lv (.int x :: .ref (a + i) :: st) M bc bs Q := aj.put (i := 1) (cq := (RX11, TX11, 17)) hd (hA.ob hk (by decide)) rfl (Nat.le_of_ble_eq_true rfl) hl rfl (vp_nar_int x) rfl (Nat.le_of_ble_eq_true rfl) (h _ (hA.upV (kIn_of hk (by decide)) ((kP_o hk (by decide)).mpr rfl)))
theorem gX11_reader {i idx : Nat} (hk : kd i = (21, 0)) (hA : kA a M0 M V W R) (hl : Cond.fieldLink k.1.cls idx (TX11 2).1 (TX11 2).2.1 (TX11 2).2.2.1 ∈ z_W) (hd : decode k.2.1 pc = .ok (.getfield idx, 3)) (h : aj G l k d (pc + 3) lv (.ref (a + 2) :: st) M bc bs Q) : aj G l k d pc lv (.ref (a + i) :: st) M bc bs Q := aj.get (i := 2) (cq := (RX11, TX11, 17)) hd (hA.ob hk (by decide)) rfl (Nat.le_of_ble_eq_true rfl) hl rfl h
theorem gX11_target {i idx : Nat} (hk : kd i = (21, 0)) (hA : kA a M0 M V W R) (hl : Cond.fieldLink k.1.cls idx (TX11 3).1 (TX11 3).2.1 (TX11 3).2.2.1 ∈ z_W) (hd : decode k.2.1 pc = .ok (.getfield idx, 3)) (h : aj G l k d (pc + 3) lv (va_rf (R i 0) :: st) M bc bs Q) : aj G l k d pc lv (.ref (a + i) :: st) M bc bs Q := aj.get (i := 3) (cq := (RX11, TX11, 17)) hd (hA.ob hk (by decide)) rfl (Nat.le_of_ble_eq_true rfl) hl rfl h
theorem pX11_target {i idx : Nat} {x : Nat} (hk : kd i = (21, 0)) (hA : kA a M0 M V W R) (hl : Cond.fieldLink k.1.cls idx (TX11 3).1 (TX11 3).2.1 (TX11 3).2.2.1 ∈ z_W) (hd : decode k.2.1 pc = .ok (.putfield idx, 3)) (h : ∀ M : zM, kA a M0 M V W (va_up R i (va_up (R i) 0 (some x))) → aj G l k d (pc + 3) lv st M bc bs Q) : aj G l k d pc lv (.ref x :: .ref (a + i) :: st) M bc bs Q := aj.put (i := 3) (cq := (RX11, TX11, 17)) hd (hA.ob hk (by decide)) rfl (Nat.le_of_ble_eq_true rfl) hl rfl rfl rfl (Nat.le_of_ble_eq_true rfl) (h _ (hA.upR (kIn_of hk (by decide)) ((kP_o hk (by decide)).mpr rfl)))
theorem gX11_now {i idx : Nat} (hk : kd i = (21, 0)) (hA : kA a M0 M V W R) (hl : Cond.fieldLink k.1.cls idx (TX11 4).1 (TX11 4).2.1 (TX11 4).2.2.1 ∈ z_W) (hd : decode k.2.1 pc = .ok (.getfield idx, 3)) (h : aj G l k d (pc + 3) lv (.ref (a + 8) :: st) M bc bs Q) : aj G l k d pc lv (.ref (a + i) :: st) M bc bs Q := aj.get (i := 4) (cq := (RX11, TX11, 17)) hd (hA.ob hk (by decide)) rfl (Nat.le_of_ble_eq_true rfl) hl rfl h
theorem gX11_trial {i idx : Nat} (hk : kd i = (21, 0)) (hA : kA a M0 M V W R) (hl : Cond.fieldLink k.1.cls idx (TX11 5).1 (TX11 5).2.1 (TX11 5).2.2.1 ∈ z_W) (hd : decode k.2.1 pc = .ok (.getfield idx, 3)) (h : aj G l k d (pc + 3) lv (.ref (a + 11) :: st) M bc bs Q) : aj G l k d pc lv (.ref (a + i) :: st) M bc bs Q := aj.get (i := 5) (cq := (RX11, TX11, 17)) hd (hA.ob hk (by decide)) rfl (Nat.le_of_ble_eq_true rfl) hl rfl h
theorem gX11_history {i idx : Nat} (hk : kd i = (21, 0)) (hA : kA a M0 M V W R) (hl : Cond.fieldLink k.1.cls idx (TX11 6).1 (TX11 6).2.1 (TX11 6).2.2.1 ∈ z_W) (hd : decode k.2.1 pc = .ok (.getfield idx, 3)) (h : aj G l k d (pc + 3) lv (.ref (a + 14) :: st) M bc bs Q) : aj G l k d pc lv (.ref (a + i) :: st) M bc bs Q := aj.get (i := 6) (cq := (RX11, TX11, 17)) hd (hA.ob hk (by decide)) rfl (Nat.le_of_ble_eq_true rfl) hl rfl h
theorem gX11_trays {i idx : Nat} (hk : kd i = (21, 0)) (hA : kA a M0 M V W R) (hl : Cond.fieldLink k.1.cls idx (TX11 7).1 (TX11 7).2.1 (TX11 7).2.2.1 ∈ z_W) (hd : decode k.2.1 pc = .ok (.getfield idx, 3)) (h : aj G l k d (pc + 3) lv (.ref (a + 46) :: st) M bc bs Q) : aj G l k d pc lv (.ref (a + i) :: st) M bc bs Q := aj.get (i := 7) (cq := (RX11, TX11, 17)) hd (hA.ob hk (by decide)) rfl (Nat.le_of_ble_eq_true rfl) hl rfl h
theorem gX11_imageButts {i idx : Nat} (hk : kd i = (21, 0)) (hA : kA a M0 M V W R) (hl : Cond.fieldLink k.1.cls idx (TX11 8).1 (TX11 8).2.1 (TX11 8).2.2.1 ∈ z_W) (hd : decode k.2.1 pc = .ok (.getfield idx, 3)) (h : aj G l k d (pc + 3) lv (.ref (a + 47) :: st) M bc bs Q) : aj G l k d pc lv (.ref (a + i) :: st) M bc bs Q := aj.get (i := 8) (cq := (RX11, TX11, 17)) hd (hA.ob hk (by decide)) rfl (Nat.le_of_ble_eq_true rfl) hl rfl h
theorem gX11_imageStates {i idx : Nat} (hk : kd i = (21, 0)) (hA : kA a M0 M V W R) (hl : Cond.fieldLink k.1.cls idx (TX11 9).1 (TX11 9).2.1 (TX11 9).2.2.1 ∈ z_W) (hd : decode k.2.1 pc = .ok (.getfield idx, 3)) (h : aj G l k d (pc + 3) lv (.ref (a + 48) :: st) M bc bs Q) : aj G l k d pc lv (.ref (a + i) :: st) M bc bs Q := aj.get (i := 9) (cq := (RX11, TX11, 17)) hd (hA.ob hk (by decide)) rfl (Nat.le_of_ble_eq_true rfl) hl rfl h
theorem gX11_range {i idx : Nat} (hk : kd i = (21, 0)) (hA : kA a M0 M V W R) (hl : Cond.fieldLink k.1.cls idx (TX11 10).1 (TX11 10).2.1 (TX11 10).2.2.1 ∈ z_W) (hd : decode k.2.1 pc = .ok (.getfield idx, 3)) (h : aj G l k d (pc + 3) lv (.ref (a + 49) :: st) M bc bs Q) : aj G l k d pc lv (.ref (a + i) :: st) M bc bs Q := aj.get (i := 10) (cq := (RX11, TX11, 17)) hd (hA.ob hk (by decide)) rfl (Nat.le_of_ble_eq_true rfl) hl rfl h
theorem gX11_tables {i idx : Nat} (hk : kd i = (21, 0)) (hA : kA a M0 M V W R) (hl : Cond.fieldLink k.1.cls idx (TX11 11).1 (TX11 11).2.1 (TX11 11).2.2.1 ∈ z_W) (hd : decode k.2.1 pc = .ok (.getfield idx, 3)) (h : aj G l k d (pc + 3) lv (.ref (a + 52) :: st) M bc bs Q) : aj G l k d pc lv (.ref (a + i) :: st) M bc bs Q := aj.get (i := 11) (cq := (RX11, TX11, 17)) hd (hA.ob hk (by decide)) rfl (Nat.le_of_ble_eq_true rfl) hl rfl h
theorem gX11_spots {i idx : Nat} (hk : kd i = (21, 0)) (hA : kA a M0 M V W R) (hl : Cond.fieldLink k.1.cls idx (TX11 12).1 (TX11 12).2.1 (TX11 12).2.2.1 ∈ z_W) (hd : decode k.2.1 pc = .ok (.getfield idx, 3)) (h : aj G l k d (pc + 3) lv (.ref (a + 53) :: st) M bc bs Q) : aj G l k d pc lv (.ref (a + i) :: st) M bc bs Q := aj.get (i := 12) (cq := (RX11, TX11, 17)) hd (hA.ob hk (by decide)) rfl (Nat.le_of_ble_eq_true rfl) hl rfl h
theorem gX11_roundPlay {i idx : Nat} (hk : kd i = (21, 0)) (hA : kA a M0 M V W R) (hl : Cond.fieldLink k.1.cls idx (TX11 13).1 (TX11 13).2.1 (TX11 13).2.2.1 ∈ z_W) (hd : decode k.2.1 pc = .ok (.getfield idx, 3)) (h : aj G l k d (pc + 3) lv (.ref (a + 54) :: st) M bc bs Q) : aj G l k d pc lv (.ref (a + i) :: st) M bc bs Q := aj.get (i := 13) (cq := (RX11, TX11, 17)) hd (hA.ob hk (by decide)) rfl (Nat.le_of_ble_eq_true rfl) hl rfl h
theorem gX11_match {i idx : Nat} (hk : kd i = (21, 0)) (hA : kA a M0 M V W R) (hl : Cond.fieldLink k.1.cls idx (TX11 14).1 (TX11 14).2.1 (TX11 14).2.2.1 ∈ z_W) (hd : decode k.2.1 pc = .ok (.getfield idx, 3)) (h : aj G l k d (pc + 3) lv (va_rf (R i 1) :: st) M bc bs Q) : aj G l k d pc lv (.ref (a + i) :: st) M bc bs Q := aj.get (i := 14) (cq := (RX11, TX11, 17)) hd (hA.ob hk (by decide)) rfl (Nat.le_of_ble_eq_true rfl) hl rfl h
theorem pX11_match {i idx : Nat} {x : Nat} (hk : kd i = (21, 0)) (hA : kA a M0 M V W R) (hl : Cond.fieldLink k.1.cls idx (TX11 14).1 (TX11 14).2.1 (TX11 14).2.2.1 ∈ z_W) (hd : decode k.2.1 pc = .ok (.putfield idx, 3)) (h : ∀ M : zM, kA a M0 M V W (va_up R i (va_up (R i) 1 (some x))) → aj G l k d (pc + 3) lv st M bc bs Q) : aj G l k d pc lv (.ref x :: .ref (a + i) :: st) M bc bs Q := aj.put (i := 14) (cq := (RX11, TX11, 17)) hd (hA.ob hk (by decide)) rfl (Nat.le_of_ble_eq_true rfl) hl rfl rfl rfl (Nat.le_of_ble_eq_true rfl) (h _ (hA.upR (kIn_of hk (by decide)) ((kP_o hk (by decide)).mpr rfl)))
theorem gX11_gains {i idx : Nat} (hk : kd i = (21, 0)) (hA : kA a M0 M V W R) (hl : Cond.fieldLink k.1.cls idx (TX11 15).1 (TX11 15).2.1 (TX11 15).2.2.1 ∈ z_W) (hd : decode k.2.1 pc = .ok (.getfield idx, 3)) (h : aj G l k d (pc + 3) lv (.ref (a + 56) :: st) M bc bs Q) : aj G l k d pc lv (.ref (a + i) :: st) M bc bs Q := aj.get (i := 15) (cq := (RX11, TX11, 17)) hd (hA.ob hk (by decide)) rfl (Nat.le_of_ble_eq_true rfl) hl rfl h
theorem gX11_drawn {i idx : Nat} (hk : kd i = (21, 0)) (hA : kA a M0 M V W R) (hl : Cond.fieldLink k.1.cls idx (TX11 16).1 (TX11 16).2.1 (TX11 16).2.2.1 ∈ z_W) (hd : decode k.2.1 pc = .ok (.getfield idx, 3)) (h : aj G l k d (pc + 3) lv (.int (V i 1) :: st) M bc bs Q) : aj G l k d pc lv (.ref (a + i) :: st) M bc bs Q := aj.get (i := 16) (cq := (RX11, TX11, 17)) hd (hA.ob hk (by decide)) rfl (Nat.le_of_ble_eq_true rfl) hl rfl h
theorem pX11_drawn {i idx : Nat} {x : Int32} (hk : kd i = (21, 0)) (hA : kA a M0 M V W R) (hl : Cond.fieldLink k.1.cls idx (TX11 16).1 (TX11 16).2.1 (TX11 16).2.2.1 ∈ z_W) (hd : decode k.2.1 pc = .ok (.putfield idx, 3)) (h : ∀ M : zM, kA a M0 M (va_up V i (upd (V i) 1 x)) W R → aj G l k d (pc + 3) lv st M bc bs Q) : aj G l k d pc lv (.int x :: .ref (a + i) :: st) M bc bs Q := aj.put (i := 16) (cq := (RX11, TX11, 17)) hd (hA.ob hk (by decide)) rfl (Nat.le_of_ble_eq_true rfl) hl rfl (vp_nar_int x) rfl (Nat.le_of_ble_eq_true rfl) (h _ (hA.upV (kIn_of hk (by decide)) ((kP_o hk (by decide)).mpr rfl)))
end KA
