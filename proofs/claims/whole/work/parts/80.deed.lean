/-- a state's cell by the reference's order -/
def sX (V : Nat → Nat → Int32) (o j : Nat) : Int32 := if j < 4 then V (o + 1) j else if j < 8 then V (o + 2) (j - 4) else V o (j - 8)
theorem stR_X {V : Nat → Nat → Int32} {o : Nat} {B : Nat → Int32} (h : stR V o B) {j : Nat} (hj : j < 11) : sX V o j = stF B j := by
  unfold sX stF
  by_cases h1 : j < 4
  · rw [if_pos h1]; exact h.1 j h1
  · rw [if_neg h1]
    by_cases h2 : j < 8
    · rw [if_pos h2, h.2.1 (j - 4) (by omega)]; congr 1; omega
    · rw [if_neg h2]
      have : j = 8 ∨ j = 9 ∨ j = 10 := by omega
      rcases this with e | e | e
      · rw [e]; exact h.2.2.1
      · rw [e]; exact h.2.2.2.1
      · rw [e]; exact h.2.2.2.2
theorem stR_of {V : Nat → Nat → Int32} {o : Nat} {B : Nat → Int32} (h : ∀ j, j < 11 → sX V o j = stF B j) : stR V o B := by
  refine ⟨fun j hj => ?_, fun j hj => ?_, ?_, ?_, ?_⟩
  · have := h j (by omega); unfold sX at this; rw [if_pos hj] at this; exact this
  · have := h (j + 4) (by omega); unfold sX at this; rw [if_neg (by omega), if_pos (by omega), show j + 4 - 4 = j by omega] at this; rw [this]; unfold stF; congr 1; omega
  · exact h 8 (by decide)
  · exact h 9 (by decide)
  · exact h 10 (by decide)
theorem sX_cp {V : Nat → Nat → Int32} {p q j : Nat} : sX (cpS V p q) p j = sX V q j := by
  unfold sX
  rw [cpS_0, cpS_1, cpS_2]
theorem sX_eq {V V1 : Nat → Nat → Int32} {o j : Nat} (h0 : V1 o = V o) (h1 : V1 (o + 1) = V (o + 1)) (h2 : V1 (o + 2) = V (o + 2)) : sX V1 o j = sX V o j := by
  unfold sX
  rw [h0, h1, h2]
/-- the kept states as the reference has them -/
def his (V : Nat → Nat → Int32) (B : Nat → Int32) (nx : Nat) : Prop := nx < 10 ∧ bd (B 28) 10 ∧ V 14 0 = nI nx ∧ V 14 1 = B 28 ∧ ∀ i, i < mN (B 28) → ∀ j, j < 11 → sX V (16 + 3 * ((nx + 10 - mN (B 28) + i) % 10)) j = B (29 + 11 * i + j)
def hisR (V : Nat → Nat → Int32) (B : Nat → Int32) : Prop := ∃ nx, his V B nx
theorem his_V {V V1 : Nat → Nat → Int32} {B B1 : Nat → Int32} {nx : Nat} (h : his V B nx) (e : ∀ q, 14 ≤ q → q ≤ 45 → V1 q = V q) (e2 : ∀ k, 28 ≤ k → B1 k = B k) : his V1 B1 nx := by
  obtain ⟨h1, h2, h3, h4, h5⟩ := h
  unfold his
  rw [e2 28 (by decide), e 14 (by decide) (by decide)]
  refine ⟨h1, h2, h3, h4, fun i hi j hj => ?_⟩
  rw [e2 _ (by omega), ← h5 i hi j hj]
  exact sX_eq (e _ (by omega) (by omega)) (e _ (by omega) (by omega)) (e _ (by omega) (by omega))
theorem his_keep {V : Nat → Nat → Int32} {B B2 X : Nat → Int32} {nx o : Nat} (h : his V B nx) (ho : o = 8 ∨ o = 11) (hX : ∀ j, j < 11 → sX V o j = X j) (h2 : ∀ k, 28 ≤ k → B2 k = B k) : his (hKeep V o nx (mN (B 28))) (noteF B2 X (mN (B 28))) ((nx + 1) % 10) := by
  obtain ⟨h1, hb, h3, h4, h5⟩ := h
  have hb2 := hb.2
  obtain ⟨sz, hsz⟩ : ∃ z, z = mN (B 28) := ⟨_, rfl⟩
  rw [← hsz] at h5 hb2 ⊢
  have e28 : noteF B2 X sz 28 = nI (min 10 (sz + 1)) := by
    unfold noteF
    split
    · rename_i q; rw [pk_us, q]; rfl
    · rw [pk_us, show min 10 (sz + 1) = sz + 1 by omega]
  have eN : mN (noteF B2 X sz 28) = min 10 (sz + 1) := by rw [e28, mN_nI (by omega)]
  have e14 : hKeep V o nx sz 14 = upd (upd (V 14) 0 (nI ((nx + 1) % 10))) 1 (nI (min 10 (sz + 1))) := by unfold hKeep; rw [va_up_self]
  have eo : ∀ r, (r < 16 + 3 * nx ∨ 16 + 3 * nx + 3 ≤ r) → r ≠ 14 → hKeep V o nx sz r = V r := fun r hr h14 => by unfold hKeep; rw [va_up_ne _ _ h14, cpS_n hr]
  have en : ∀ j, sX (hKeep V o nx sz) (16 + 3 * nx) j = sX V o j := fun j => by
    unfold hKeep
    rw [← sX_cp (V := V) (p := 16 + 3 * nx) (q := o)]
    exact sX_eq (va_up_ne _ _ (by omega)) (va_up_ne _ _ (by omega)) (va_up_ne _ _ (by omega))
  refine ⟨by omega, by rw [e28]; exact bd_nI (by omega) (by decide), by rw [e14, pk_un (by decide), pk_us], by rw [e14, pk_us, e28], fun i hi j hj => ?_⟩
  rw [eN] at hi ⊢
  by_cases q : sz = 10
  · have eB : noteF B2 X sz (29 + 11 * i + j) = if i < 9 then B (29 + 11 * (i + 1) + j) else X j := by
      unfold noteF
      rw [if_pos q, pk_un (by omega)]
      by_cases q9 : i < 9
      · rw [if_pos q9, pk_cpy_out (by omega), pk_un (by omega), pk_cpy_in (by omega) (by omega), ← h2 _ (by omega)]
        congr 1
        omega
      · rw [if_neg q9, pk_cpy_in (by omega) (by omega)]
        exact congrArg X (by omega)
    rw [eB]
    by_cases q9 : i < 9
    · rw [if_pos q9, ← h5 (i + 1) (by omega) j hj, show (nx + 1) % 10 + 10 - min 10 (sz + 1) + i = (nx + 1) % 10 + i by omega]
      have e1 : (nx + 10 - sz + (i + 1)) % 10 = ((nx + 1) % 10 + i) % 10 := by omega
      have e2 : ((nx + 1) % 10 + i) % 10 ≠ nx := by omega
      rw [e1]
      generalize ((nx + 1) % 10 + i) % 10 = w at e2 ⊢
      exact sX_eq (eo _ (by omega) (by omega)) (eo _ (by omega) (by omega)) (eo _ (by omega) (by omega))
    · rw [if_neg q9, show ((nx + 1) % 10 + 10 - min 10 (sz + 1) + i) % 10 = nx by omega, en]
      exact hX j hj
  · have eB : noteF B2 X sz (29 + 11 * i + j) = if i < sz then B (29 + 11 * i + j) else X j := by
      unfold noteF
      rw [if_neg q, pk_un (by omega)]
      by_cases q9 : i < sz
      · rw [if_pos q9, pk_cpy_out (by omega), h2 _ (by omega)]
      · rw [if_neg q9, pk_cpy_in (by omega) (by omega)]
        exact congrArg X (by omega)
    rw [eB]
    by_cases q9 : i < sz
    · rw [if_pos q9, ← h5 i q9 j hj]
      have e1 : ((nx + 1) % 10 + 10 - min 10 (sz + 1) + i) % 10 = (nx + 10 - sz + i) % 10 := by omega
      have e2 : (nx + 10 - sz + i) % 10 ≠ nx := by omega
      rw [e1]
      generalize (nx + 10 - sz + i) % 10 = w at e2 ⊢
      exact sX_eq (eo _ (by omega) (by omega)) (eo _ (by omega) (by omega)) (eo _ (by omega) (by omega))
    · rw [if_neg q9, show ((nx + 1) % 10 + 10 - min 10 (sz + 1) + i) % 10 = nx by omega, en]
      exact hX j hj
theorem his_back {V : Nat → Nat → Int32} {B : Nat → Int32} {nx n : Nat} (h : his V B nx) (hn1 : 1 ≤ n) (hn2 : n ≤ mN (B 28)) : his (hBack V nx (mN (B 28)) n) (va_cpy (upd B 28 (nI (mN (B 28) - n))) (upd B 28 (nI (mN (B 28) - n))) (29 + 11 * (mN (B 28) - n)) 17 11) ((nx + 10 - n) % 10) ∧ stR (hBack V nx (mN (B 28)) n) 8 (va_cpy (upd B 28 (nI (mN (B 28) - n))) (upd B 28 (nI (mN (B 28) - n))) (29 + 11 * (mN (B 28) - n)) 17 11) := by
  obtain ⟨h1, hb, h3, h4, h5⟩ := h
  have hb2 := hb.2
  obtain ⟨sz, hsz⟩ : ∃ z, z = mN (B 28) := ⟨_, rfl⟩
  rw [← hsz] at h5 hb2 hn2 ⊢
  have e28 : va_cpy (upd B 28 (nI (sz - n))) (upd B 28 (nI (sz - n))) (29 + 11 * (sz - n)) 17 11 28 = nI (sz - n) := by rw [pk_cpy_out (by omega), pk_us]
  have eN : mN (va_cpy (upd B 28 (nI (sz - n))) (upd B 28 (nI (sz - n))) (29 + 11 * (sz - n)) 17 11 28) = sz - n := by rw [e28, mN_nI (by omega)]
  have e14 : hBack V nx sz n 14 = upd (upd (V 14) 0 (nI ((nx + 10 - n) % 10))) 1 (nI (sz - n)) := by unfold hBack; rw [cpS_n (by omega), va_up_self]
  have eo : ∀ r, 15 ≤ r → hBack V nx sz n r = V r := fun r hr => by unfold hBack; rw [cpS_n (by omega), va_up_ne _ _ (by omega)]
  refine ⟨⟨by omega, by rw [e28]; exact bd_nI (by omega) (by decide), by rw [e14, pk_un (by decide), pk_us], by rw [e14, pk_us, e28], fun i hi j hj => ?_⟩, stR_of (fun j hj => ?_)⟩
  · rw [eN] at hi ⊢
    rw [pk_cpy_out (by omega), pk_un (by omega), ← h5 i (by omega) j hj, show ((nx + 10 - n) % 10 + 10 - (sz - n) + i) % 10 = (nx + 10 - sz + i) % 10 by omega]
    exact sX_eq (eo _ (by omega)) (eo _ (by omega)) (eo _ (by omega))
  · unfold hBack stF
    rw [sX_cp, pk_cpy_in (by omega) (by omega), pk_un (by omega), show 29 + 11 * (sz - n) + (17 + j - 17) = 29 + 11 * (sz - n) + j by omega, ← h5 (sz - n) (by omega) j hj, show (nx + 10 - sz + (sz - n)) % 10 = (nx + 10 - n) % 10 by omega]
    exact sX_eq (va_up_ne _ _ (by omega)) (va_up_ne _ _ (by omega)) (va_up_ne _ _ (by omega))
/-- what a deed leaves of the rest -/
def dE (V0 V1 : Nat → Nat → Int32) : Prop := (∀ q, ¬ sc q → q ≠ 0 → q ≠ 8 → q ≠ 9 → q ≠ 10 → ¬ (14 ≤ q ∧ q ≤ 45) → V1 q = V0 q) ∧ V1 0 0 = V0 0 0
/-- behind a deed -/
def kD (a : Nat) (M0 M : zM) (V0 : Nat → Nat → Int32) (W0 : Nat → Nat → Int64) (R : Nat → Nat → Option Nat) (B : Nat → Int32) : Prop := ∃ V1, kW a M0 M V1 W0 R ∧ stR V1 8 B ∧ hisR V1 B ∧ dE V0 V1
section N80
variable {a : Nat} {M0 M : zM} {V V0 V1 V2 : Nat → Nat → Int32} {W W0 : Nat → Nat → Int64} {R : Nat → Nat → Option Nat} {B B2 : Nat → Int32} {nx : Nat}
theorem kD_same (hI : hisR V0 B) (hS : stR V0 8 B) (hv : ∀ i, ¬ sc i → V i = V0 i) (hw : ∀ i, ¬ sc i → W i = W0 i) (hA : kA a M0 M V W R) : kD a M0 M V0 W0 R B := ⟨V0, ⟨V, W, hA, hv, hw⟩, hS, hI, fun _ _ _ _ _ _ _ => rfl, rfl⟩
theorem kD_fin (hk : his V2 B nx) (hS : stR V2 8 B) (hE : dE V0 V2) (hw : ∀ i, ¬ sc i → W i = W0 i) (hA : kA a M0 M V2 W R) : kD a M0 M V0 W0 R B := ⟨V2, ⟨V2, W, hA, fun _ _ => rfl, hw⟩, hS, ⟨_, hk⟩, hE⟩
theorem stR_note {X : Nat → Int32} {n : Nat} (h : stR V 8 B) (hn : n ≤ 10) : stR V 8 (noteF B X n) := stR_of (fun j hj => by
  rw [stR_X h hj]
  unfold stF
  rw [noteF_o (by omega) hn])
/-- behind the keeping of now -/
theorem keep_norm (hI : his V0 B nx) (hS : stR V0 8 B) (hv : ∀ i, ¬ sc i → V i = V0 i) (hA : kA a M0 M (hKeep V 8 nx (mN (B 28))) W R) : ∃ V1, (∀ B2 : Nat → Int32, (∀ k, 28 ≤ k → B2 k = B k) → his V1 (noteF B2 (stF B) (mN (B 28))) ((nx + 1) % 10)) ∧ stR V1 8 B ∧ (∀ q, ¬ sc q → ¬ (14 ≤ q ∧ q ≤ 45) → V1 q = V0 q) ∧ kA a M0 M V1 W R := by
  have hn := hI.1
  have hV : his V B nx := his_V hI (fun q h1 h2 => hv q (by unfold sc; omega)) (fun _ _ => rfl)
  have hSV : stR V 8 B := by
    unfold stR
    rw [hv 8 (by decide), hv 9 (by decide), hv 10 (by decide)]
    exact hS
  refine ⟨_, fun B2 h2 => his_keep hV (Or.inl rfl) (fun j hj => stR_X hSV hj) h2, ?_, fun q h1 h2 => ?_, hA⟩
  · unfold stR hKeep
    rw [va_up_ne _ _ (by decide), va_up_ne _ _ (by decide), va_up_ne _ _ (by decide), cpS_n (by omega), cpS_n (by omega), cpS_n (by omega)]
    exact hSV
  · unfold hKeep
    rw [va_up_ne _ _ (by omega), cpS_n (by omega)]
    exact hv q h1
theorem kD_end (hk : ∀ B2 : Nat → Int32, (∀ k, 28 ≤ k → B2 k = B k) → his V1 (noteF B2 (stF B) (mN (B 28))) nx) (hE : ∀ q, ¬ sc q → ¬ (14 ≤ q ∧ q ≤ 45) → V1 q = V0 q) (h28 : bd (B 28) 10) (hS2 : stR V2 8 B2) (hE2 : stE 8 V1 V2) (h2 : ∀ k, 28 ≤ k → B2 k = B k) (hw : ∀ i, ¬ sc i → W i = W0 i) (hA : kA a M0 M V2 W R) : kD a M0 M V0 W0 R (noteF B2 (stF B) (mN (B 28))) := by
  refine kD_fin (his_V (hk B2 h2) (fun q h1 h2 => hE2 q (by omega) (by omega) (by omega) (by omega) (by omega)) (fun _ _ => rfl)) (stR_note hS2 h28.2) ⟨fun q hq h0 h8 h9 h10 h14 => ?_, ?_⟩ hw hA
  · rw [hE2 q (fun e => hq (by subst e; decide)) (fun e => hq (by subst e; decide)) h8 h9 h10]
    exact hE q hq h14
  · rw [hE2 0 (by decide) (by decide) (by decide) (by decide) (by decide), hE 0 (by decide) (by decide)]
end N80
