def seeV (tx : Nat → Nat) (n k : Nat) : Int32 := if k < n then nI (tx k) else -1
theorem seeV_rg {tx : Nat → Nat} {n k lo hi : Nat} (hb : ∀ k, tx k < 256) (hlo : lo < 2 ^ 31) (hhi : hi < 2 ^ 31) : (nI lo ≤ seeV tx n k ∧ seeV tx n k ≤ nI hi) ↔ (k < n ∧ lo ≤ tx k ∧ tx k ≤ hi) := by
  have h := hb k
  unfold seeV
  split
  · rename_i q
    rw [nI_leI hlo (by omega), nI_leI (by omega) hhi]
    exact ⟨fun z => ⟨q, z⟩, fun z => z.2⟩
  · rename_i q
    refine ⟨fun z => absurd z.1 ?_, fun z => absurd z.1 q⟩
    rw [Int32.le_iff_toInt_le, nI_toInt hlo]
    have : (-1 : Int32).toInt = -1 := rfl
    omega
theorem seeV_eq {tx : Nat → Nat} {n k c : Nat} (hb : ∀ k, tx k < 256) (hc : c < 2 ^ 31) : seeV tx n k = nI c ↔ (k < n ∧ tx k = c) := by
  have h := hb k
  unfold seeV
  split
  · rename_i q
    rw [nI_eq (by omega) hc]
    exact ⟨fun z => ⟨q, z⟩, fun z => z.2⟩
  · rename_i q
    refine ⟨fun z => ?_, fun z => absurd z.1 q⟩
    have := congrArg Int32.toInt z
    rw [nI_toInt hc] at this
    have e : (-1 : Int32).toInt = -1 := rfl
    omega
def flat : List (List Nat) → List Nat
  | [] => []
  | w :: ws => w ++ 32 :: flat ws
theorem keys_flat : (zch.getD 2 []).drop 1 = flat kws := by decide
theorem kws_ns : ∀ w ∈ kws, ∀ c ∈ w, c ≠ 32 := by decide
theorem zc_at {i k : Nat} {L : List Nat} (h : (zch.getD i []).drop k = L) (j : Nat) : zc i (k + j) = L.getD j 0 := by
  rw [← h]
  unfold zc
  simp only [List.getD, List.getElem?_drop]
theorem zc_len {i k : Nat} {L : List Nat} (h : (zch.getD i []).drop k = L) (hL : 0 < L.length) : k + L.length = (zch.getD i []).length := by
  have := congrArg List.length h
  rw [List.length_drop] at this
  omega
theorem flat_in {w : List Nat} {ws : List (List Nat)} {j : Nat} (h : j < w.length) : (flat (w :: ws)).getD j 0 = w.getD j 0 := by
  show (w ++ 32 :: flat ws).getD j 0 = _
  simp only [List.getD]
  rw [List.getElem?_append_left h]
theorem flat_32 {w : List Nat} {ws : List (List Nat)} : (flat (w :: ws)).getD w.length 0 = 32 := by
  show (w ++ 32 :: flat ws).getD w.length 0 = _
  simp only [List.getD]
  rw [List.getElem?_append_right (Nat.le_refl _), Nat.sub_self]
  rfl
theorem flat_dr {w : List Nat} {ws : List (List Nat)} : (flat (w :: ws)).drop (w.length + 1) = flat ws := by
  show (w ++ 32 :: flat ws).drop (w.length + 1) = _
  rw [show w.length + 1 = w.length + 1 from rfl, List.drop_append]
  simp
theorem flat_l {w : List Nat} {ws : List (List Nat)} : w.length < (flat (w :: ws)).length := by
  show w.length < (w ++ 32 :: flat ws).length
  rw [List.length_append]
  simp
theorem getD_mem {w : List Nat} {j : Nat} (h : j < w.length) : w.getD j 0 ∈ w := by
  have e : w.getD j 0 = w[j] := by simp only [List.getD]; rw [List.getElem?_eq_getElem h]; rfl
  rw [e]; exact List.getElem_mem h
theorem wordL_len (tx : Nat → Nat) : ∀ m a, (wordL tx a m).length = m
  | 0, _ => rfl
  | m + 1, a => by show (wordL tx (a + 1) m).length + 1 = m + 1; rw [wordL_len tx m]
theorem wordL_at (tx : Nat → Nat) : ∀ m a j, j < m → (wordL tx a m).getD j 0 = tx (a + j)
  | 0, _, _, h => absurd h (by omega)
  | m + 1, a, 0, _ => rfl
  | m + 1, a, j + 1, h => by
    show (wordL tx (a + 1) m).getD j 0 = _
    rw [wordL_at tx m (a + 1) j (by omega), show a + 1 + j = a + (j + 1) by omega]
theorem idx_ne {wd w : List Nat} {ws : List (List Nat)} (h : wd ≠ w) : (wd :: ws).idxOf w = ws.idxOf w + 1 := by
  rw [List.idxOf_cons]
  have e : (wd == w) = false := by simp [h]
  rw [e]
  rfl
theorem list_ext {u w : List Nat} (hl : u.length = w.length) (h : ∀ j, j < u.length → u.getD j 0 = w.getD j 0) : u = w := by
  apply List.ext_getElem hl
  intro j h1 h2
  have e := h j h1
  simp only [List.getD] at e
  rw [List.getElem?_eq_getElem h1, List.getElem?_eq_getElem h2] at e
  exact e
theorem c_see {G : zG} {l : Launch} {b : Nat} {M0 M : zM} {I : Nat → Int32} {A : Nat → Nat → Int32} {L : Nat → Nat → Int64} (k : Nat) {x_k : Int32} (e_k : x_k = nI k) (tx : Nat → Nat) (n : Nat) (hn : n ≤ 900) (htx : ∀ k, k < 900 → A 3 k = nI (tx k)) (hb : ∀ k, tx k < 256) (h8 : I 8 = nI n) (hk : k < 2 ^ 20) (hM : mW b M0 M I A L) : am G l kX12_see 0 [.ref b, .int x_k] M 0 0 (zr (.int (seeV tx n k)) (fun M' => mW b M0 M' I A L)) := by
  obtain ⟨u, v, w, hA⟩ := hM
  refine am.of (by decide) (Nat.le_of_ble_eq_true rfl) ?_
  refine aj.iload_n dX12_see_0 rfl ?_
  refine aj.aload_n dX12_see_1 rfl ?_
  refine gM8 rfl dX12_see_2 hA ?_
  refine aj.icmp_geN (a := k) (b := n) (tgt := 17) dX12_see_5 e_k h8 (by omega) (by omega) rfl (fun c5 => ?_) (fun c5 => ?_)
  · refine aj.iconst (v := (-1)) dX12_see_17 rfl ?_
    exact aj.iret rfl dX12_see_18 ⟨by unfold seeV; rw [if_neg (by omega)], _, _, _, hA⟩
  · refine aj.aload_n dX12_see_8 rfl ?_
    refine gM3 rfl dX12_see_9 hA ?_
    refine aj.iload_n dX12_see_12 rfl ?_
    refine aM3N (i := k) dX12_see_13 hA e_k (by omega) ?_
    refine aj.goto (tgt := 18) dX12_see_14 rfl ?_
    exact aj.iret rfl dX12_see_18 ⟨by unfold seeV; rw [if_pos (by omega), ← htx k (by omega)], _, _, _, hA⟩
theorem key_l1 {G : zG} {l : Launch} {b : Nat} {M0 : zM} {I : Nat → Int32} {A : Nat → Nat → Int32} {L : Nat → Nat → Int64} {Q : Option Value → zM → Prop} {av : Nat → Nat} {fm : Nat} (hG : zSt G av fm) (tx : Nat → Nat) (wd : List Nat) (ws : List (List Nat)) (c k : Nat) (hdr : (zch.getD 2 []).drop k = flat (wd :: ws)) (hns : ∀ x ∈ wd, x ≠ 32) (a q : Nat) (h6 : I 6 = nI a) (h7 : I 7 = nI q) (haq : a < q) (hqn : q ≤ 900) (htx : ∀ k, k < 900 → A 3 k = nI (tx k)) (hb : ∀ k, tx k < 256) (hk : ∀ (i : Nat) (M : zM), i ≤ wd.length → i ≤ q - a → (∀ j, j < i → wd.getD j 0 = tx (a + j)) → (i = wd.length ∨ i = q - a ∨ (i < wd.length ∧ i < q - a ∧ wd.getD i 0 ≠ tx (a + i))) → mW b M0 M I A L → aj G l kX12_keyAt 4 69 [(3, .int (nI i)), (1, .int (nI c)), (2, .int (nI k)), (0, .ref b)] [] M 0 0 Q) : ∀ (m i : Nat) (M : zM), i + m = wd.length → i ≤ q - a → (∀ j, j < i → wd.getD j 0 = tx (a + j)) → mW b M0 M I A L → aj G l kX12_keyAt 4 15 [(3, .int (nI i)), (1, .int (nI c)), (2, .int (nI k)), (0, .ref b)] [] M 0 0 Q := by
  have hl := zc_len hdr (by have := flat_l (w := wd) (ws := ws); omega)
  have hfl := flat_l (w := wd) (ws := ws)
  have h109 : (zch.getD 2 []).length = 109 := by decide
  intro m
  induction m with
  | zero =>
    intro i M hin hiq hmt hM
    obtain ⟨u, v, w, hA⟩ := hM
    have hz := zc_at hdr i
    have hz8 : zc 2 (k + i) < 128 := zc_l (by decide)
    have hz : zc 2 (k + i) = 32 := by rw [hz, show i = wd.length by omega]; exact flat_32
    refine aj.ldcS 2 rfl rfl dX12_keyAt_15 ?_
    refine aj.iload_n dX12_keyAt_17 rfl ?_
    refine aj.iload_n dX12_keyAt_18 rfl ?_
    refine aj.iaddN (a := k) (b := i) dX12_keyAt_19 rfl rfl ?_
    refine aj.callT hG (d' := 3) (As := [.int (nI (k + i))]) (rest := []) (by decide) dX12_keyAt_20 v_X12_94 ⟨w471, w472⟩ rfl rfl rfl (Nat.le_of_ble_eq_true rfl) (Nat.le_of_ble_eq_true rfl) (s_charAt hG _ 2 (by decide) (k + i) (by omega)) ?_
    refine aj.bipush (v := 32) dX12_keyAt_23 rfl ?_
    refine aj.icmp_eqN (a := zc 2 (k + i)) (b := 32) (tgt := 69) dX12_keyAt_25 rfl rfl (by omega) (by omega) rfl (fun c25 => ?_) (fun c25 => ?_)
    · refine aj.pick [0, 1, 2, 3] rfl ?_
      exact hk i M (by omega) hiq hmt (Or.inl (by omega)) ⟨_, _, _, hA⟩
    · exact absurd c25 (by omega)
  | succ m ih =>
    intro i M hin hiq hmt hM
    obtain ⟨u, v, w, hA⟩ := hM
    have hz := zc_at hdr i
    have hz8 : zc 2 (k + i) < 128 := zc_l (by decide)
    have hz : zc 2 (k + i) = wd.getD i 0 := by rw [hz]; exact flat_in (by omega)
    have hz32 := hns _ (getD_mem (w := wd) (j := i) (by omega))
    have hbi := hb (a + i)
    refine aj.ldcS 2 rfl rfl dX12_keyAt_15 ?_
    refine aj.iload_n dX12_keyAt_17 rfl ?_
    refine aj.iload_n dX12_keyAt_18 rfl ?_
    refine aj.iaddN (a := k) (b := i) dX12_keyAt_19 rfl rfl ?_
    refine aj.callT hG (d' := 3) (As := [.int (nI (k + i))]) (rest := []) (by decide) dX12_keyAt_20 v_X12_94 ⟨w471, w472⟩ rfl rfl rfl (Nat.le_of_ble_eq_true rfl) (Nat.le_of_ble_eq_true rfl) (s_charAt hG _ 2 (by decide) (k + i) (by omega)) ?_
    refine aj.bipush (v := 32) dX12_keyAt_23 rfl ?_
    refine aj.icmp_eqN (a := zc 2 (k + i)) (b := 32) (tgt := 69) dX12_keyAt_25 rfl rfl (by omega) (by omega) rfl (fun c25 => ?_) (fun c25 => ?_)
    · exact absurd c25 (by omega)
    · refine aj.aload_n dX12_keyAt_28 rfl ?_
      refine gM6 rfl dX12_keyAt_29 hA ?_
      refine aj.iload_n dX12_keyAt_32 rfl ?_
      refine aj.iaddN (a := a) (b := i) dX12_keyAt_33 h6 rfl ?_
      refine aj.aload_n dX12_keyAt_34 rfl ?_
      refine gM7 rfl dX12_keyAt_35 hA ?_
      refine aj.icmp_geN (a := a + i) (b := q) (tgt := 69) dX12_keyAt_38 rfl h7 (by omega) (by omega) rfl (fun c38 => ?_) (fun c38 => ?_)
      · refine aj.pick [0, 1, 2, 3] rfl ?_
        exact hk i M (by omega) hiq hmt (Or.inr (Or.inl (by omega))) ⟨_, _, _, hA⟩
      · refine aj.aload_n dX12_keyAt_41 rfl ?_
        refine gM3 rfl dX12_keyAt_42 hA ?_
        refine aj.aload_n dX12_keyAt_45 rfl ?_
        refine gM6 rfl dX12_keyAt_46 hA ?_
        refine aj.iload_n dX12_keyAt_49 rfl ?_
        refine aj.iaddN (a := a) (b := i) dX12_keyAt_50 h6 rfl ?_
        refine aM3N (i := a + i) dX12_keyAt_51 hA rfl (by omega) ?_
        refine aj.ldcS 2 rfl rfl dX12_keyAt_52 ?_
        refine aj.iload_n dX12_keyAt_54 rfl ?_
        refine aj.iload_n dX12_keyAt_55 rfl ?_
        refine aj.iaddN (a := k) (b := i) dX12_keyAt_56 rfl rfl ?_
        refine aj.callT hG (d' := 3) (As := [.int (nI (k + i))]) (rest := [.int (A 3 (a + i))]) (by decide) dX12_keyAt_57 v_X12_94 ⟨w471, w472⟩ rfl rfl rfl (Nat.le_of_ble_eq_true rfl) (Nat.le_of_ble_eq_true rfl) (s_charAt hG _ 2 (by decide) (k + i) (by omega)) ?_
        refine aj.icmp_neN (a := tx (a + i)) (b := zc 2 (k + i)) (tgt := 69) dX12_keyAt_60 (htx (a + i) (by omega)) rfl (by omega) (by omega) rfl (fun c60 => ?_) (fun c60 => ?_)
        · refine aj.pick [0, 1, 2, 3] rfl ?_
          exact hk i M (by omega) hiq hmt (Or.inr (Or.inr ⟨by omega, by omega, fun z => c60 (by omega)⟩)) ⟨_, _, _, hA⟩
        · refine aj.iincN (a := i) (c := 1) (lv' := [(3, .int (nI (i + 1))), (1, .int (nI c)), (2, .int (nI k)), (0, .ref b)]) dX12_keyAt_63 rfl (Nat.le_of_ble_eq_true rfl) rfl rfl rfl ?_
          refine aj.goto (tgt := 15) dX12_keyAt_66 rfl ?_
          refine aj.pick [0, 1, 2, 3] rfl ?_
          exact ih (i + 1) M (by omega) (by omega) (fun j hj => if e : j = i then (by rw [e]; omega) else hmt j (by omega)) ⟨_, _, _, hA⟩
theorem key_l2 {G : zG} {l : Launch} {b : Nat} {M0 : zM} {I : Nat → Int32} {A : Nat → Nat → Int32} {L : Nat → Nat → Int64} {Q : Option Value → zM → Prop} {av : Nat → Nat} {fm : Nat} (hG : zSt G av fm) (wd : List Nat) (ws : List (List Nat)) (c k : Nat) (hdr : (zch.getD 2 []).drop k = flat (wd :: ws)) (hns : ∀ x ∈ wd, x ≠ 32) (hk : ∀ (M : zM), mW b M0 M I A L → aj G l kX12_keyAt 4 114 [(2, .int (nI (k + wd.length))), (1, .int (nI c)), (0, .ref b)] [] M 0 0 Q) : ∀ (m j : Nat) (M : zM), j + m = wd.length → mW b M0 M I A L → aj G l kX12_keyAt 4 97 [(2, .int (nI (k + j))), (1, .int (nI c)), (0, .ref b)] [] M 0 0 Q := by
  have hl := zc_len hdr (by have := flat_l (w := wd) (ws := ws); omega)
  have hfl := flat_l (w := wd) (ws := ws)
  have h109 : (zch.getD 2 []).length = 109 := by decide
  intro m
  induction m with
  | zero =>
    intro j M hin hM
    obtain ⟨u, v, w, hA⟩ := hM
    have hz := zc_at hdr j
    have hz8 : zc 2 (k + j) < 128 := zc_l (by decide)
    have hz : zc 2 (k + j) = 32 := by rw [hz, show j = wd.length by omega]; exact flat_32
    refine aj.ldcS 2 rfl rfl dX12_keyAt_97 ?_
    refine aj.iload_n dX12_keyAt_99 rfl ?_
    refine aj.callT hG (d' := 3) (As := [.int (nI (k + j))]) (rest := []) (by decide) dX12_keyAt_100 v_X12_94 ⟨w471, w472⟩ rfl rfl rfl (Nat.le_of_ble_eq_true rfl) (Nat.le_of_ble_eq_true rfl) (s_charAt hG _ 2 (by decide) (k + j) (by omega)) ?_
    refine aj.bipush (v := 32) dX12_keyAt_103 rfl ?_
    refine aj.icmp_eqN (a := zc 2 (k + j)) (b := 32) (tgt := 114) dX12_keyAt_105 rfl rfl (by omega) (by omega) rfl (fun c105 => ?_) (fun c105 => ?_)
    · refine aj.pick [0, 1, 2] rfl ?_
      rw [show j = wd.length by omega]
      exact hk M ⟨_, _, _, hA⟩
    · exact absurd c105 (by omega)
  | succ m ih =>
    intro j M hin hM
    obtain ⟨u, v, w, hA⟩ := hM
    have hz := zc_at hdr j
    have hz8 : zc 2 (k + j) < 128 := zc_l (by decide)
    have hz : zc 2 (k + j) = wd.getD j 0 := by rw [hz]; exact flat_in (by omega)
    have hz32 := hns _ (getD_mem (w := wd) (j := j) (by omega))
    refine aj.ldcS 2 rfl rfl dX12_keyAt_97 ?_
    refine aj.iload_n dX12_keyAt_99 rfl ?_
    refine aj.callT hG (d' := 3) (As := [.int (nI (k + j))]) (rest := []) (by decide) dX12_keyAt_100 v_X12_94 ⟨w471, w472⟩ rfl rfl rfl (Nat.le_of_ble_eq_true rfl) (Nat.le_of_ble_eq_true rfl) (s_charAt hG _ 2 (by decide) (k + j) (by omega)) ?_
    refine aj.bipush (v := 32) dX12_keyAt_103 rfl ?_
    refine aj.icmp_eqN (a := zc 2 (k + j)) (b := 32) (tgt := 114) dX12_keyAt_105 rfl rfl (by omega) (by omega) rfl (fun c105 => ?_) (fun c105 => ?_)
    · exact absurd c105 (by omega)
    · refine aj.iincN (a := k + j) (c := 1) (lv' := [(2, .int (nI (k + j + 1))), (1, .int (nI c)), (0, .ref b)]) dX12_keyAt_108 rfl (Nat.le_of_ble_eq_true rfl) rfl rfl rfl ?_
      refine aj.goto (tgt := 97) dX12_keyAt_111 rfl ?_
      refine aj.pick [0, 1, 2] rfl ?_
      exact ih (j + 1) M (by omega) ⟨_, _, _, hA⟩
theorem key_out {G : zG} {l : Launch} {b : Nat} {M0 : zM} {I : Nat → Int32} {A : Nat → Nat → Int32} {L : Nat → Nat → Int64} {av : Nat → Nat} {fm : Nat} (hG : zSt G av fm) (tx : Nat → Nat) (a q : Nat) (h6 : I 6 = nI a) (h7 : I 7 = nI q) (haq : a < q) (hqn : q ≤ 900) (htx : ∀ k, k < 900 → A 3 k = nI (tx k)) (hb : ∀ k, tx k < 256) : ∀ (ws : List (List Nat)) (c k : Nat) (M : zM), c + ws.length = 22 → k ≤ 109 → (zch.getD 2 []).drop k = flat ws → (∀ wd ∈ ws, ∀ x ∈ wd, x ≠ 32) → mW b M0 M I A L → aj G l kX12_keyAt 4 4 [(2, .int (nI k)), (1, .int (nI c)), (0, .ref b)] [] M 0 0 (zr (.int (nI (c + ws.idxOf (wordL tx a (q - a))))) (fun M' => mW b M0 M' I A L)) := by
  have h109 : (zch.getD 2 []).length = 109 := by decide
  intro ws
  induction ws with
  | nil =>
    intro c k M hc hk hdr hns hM
    obtain ⟨u, v, w, hA⟩ := hM
    have hk9 : k = 109 := by
      have := congrArg List.length hdr
      rw [List.length_drop, h109] at this
      have e : (flat []).length = 0 := rfl
      omega
    refine aj.iload_n dX12_keyAt_4 rfl ?_
    refine aj.ldcS 2 rfl rfl dX12_keyAt_5 ?_
    refine aj.callT hG (d' := 1) (As := []) (rest := [.int (nI k)]) (by decide) dX12_keyAt_7 v_X12_88 ⟨w461, w462⟩ rfl rfl rfl (Nat.le_of_ble_eq_true rfl) (Nat.le_of_ble_eq_true rfl) (s_length hG _ 2 (by decide)) ?_
    refine aj.icmp_geN (a := k) (b := (zch.getD 2 []).length) (tgt := 123) dX12_keyAt_10 rfl rfl (by omega) (by omega) rfl (fun c10 => ?_) (fun c10 => ?_)
    · refine aj.bipush (v := 22) dX12_keyAt_123 rfl ?_
      exact aj.iret rfl dX12_keyAt_125 ⟨by have e : c = 22 := hc; rw [e]; rfl, _, _, _, hA⟩
    · exact absurd c10 (by omega)
  | cons wd ws ih =>
    intro c k M hc hk hdr hns hM
    obtain ⟨u, v, w, hA⟩ := hM
    have hc' : c + (ws.length + 1) = 22 := hc
    have hl := zc_len hdr (by have := flat_l (w := wd) (ws := ws); omega)
    have hfl := flat_l (w := wd) (ws := ws)
    have hnw := hns wd List.mem_cons_self
    refine aj.iload_n dX12_keyAt_4 rfl ?_
    refine aj.ldcS 2 rfl rfl dX12_keyAt_5 ?_
    refine aj.callT hG (d' := 1) (As := []) (rest := [.int (nI k)]) (by decide) dX12_keyAt_7 v_X12_88 ⟨w461, w462⟩ rfl rfl rfl (Nat.le_of_ble_eq_true rfl) (Nat.le_of_ble_eq_true rfl) (s_length hG _ 2 (by decide)) ?_
    refine aj.icmp_geN (a := k) (b := (zch.getD 2 []).length) (tgt := 123) dX12_keyAt_10 rfl rfl (by omega) (by omega) rfl (fun c10 => ?_) (fun c10 => ?_)
    · exact absurd c10 (by omega)
    · refine aj.iconst (v := 0) dX12_keyAt_13 rfl ?_
      refine aj.istore_n (lv' := [(3, .int 0), (2, .int (nI k)), (1, .int (nI c)), (0, .ref b)]) dX12_keyAt_14 (Nat.le_of_ble_eq_true rfl) rfl ?_
      refine aj.pick [0, 2, 1, 3] rfl ?_
      refine key_l1 hG tx wd ws c k hdr hnw a q h6 h7 haq hqn htx hb (fun i M hi1 hi2 hmt hE hM => ?_) wd.length 0 M (by omega) (by omega) (fun j hj => absurd hj (by omega)) ⟨_, _, _, hA⟩
      obtain ⟨u, v, w, hA⟩ := hM
      have hz := zc_at hdr i
      have hz8 : zc 2 (k + i) < 128 := zc_l (by decide)
      have hz1 : i = wd.length → zc 2 (k + i) = 32 := fun e => by rw [hz, e]; exact flat_32
      have hz2 : i < wd.length → zc 2 (k + i) ≠ 32 := fun e => by rw [hz, flat_in e]; exact hnw _ (getD_mem e)
      refine aj.ldcS 2 rfl rfl dX12_keyAt_69 ?_
      refine aj.iload_n dX12_keyAt_71 rfl ?_
      refine aj.iload_n dX12_keyAt_72 rfl ?_
      refine aj.iaddN (a := k) (b := i) dX12_keyAt_73 rfl rfl ?_
      refine aj.callT hG (d' := 3) (As := [.int (nI (k + i))]) (rest := []) (by decide) dX12_keyAt_74 v_X12_94 ⟨w471, w472⟩ rfl rfl rfl (Nat.le_of_ble_eq_true rfl) (Nat.le_of_ble_eq_true rfl) (s_charAt hG _ 2 (by decide) (k + i) (by omega)) ?_
      refine aj.bipush (v := 32) dX12_keyAt_77 rfl ?_
      refine aj.icmp_neN (a := zc 2 (k + i)) (b := 32) (tgt := 97) dX12_keyAt_79 rfl rfl (by omega) (by omega) rfl (fun c79 => ?_) (fun c79 => ?_)
      · refine aj.pick [2, 1, 3] rfl ?_
        have hne : wd ≠ wordL tx a (q - a) := by
          intro e
          have hlen : wd.length = q - a := by rw [e, wordL_len]
          rcases hE with z | z | ⟨z1, z2, z3⟩
          · exact c79 (hz1 (by omega))
          · exact c79 (hz1 (by omega))
          · exact z3 (by rw [e]; exact wordL_at tx _ _ _ z2)
        refine key_l2 hG wd ws c k hdr hnw (fun M hM => ?_) wd.length 0 M (by omega) ⟨_, _, _, hA⟩
        obtain ⟨u, v, w, hA⟩ := hM
        refine aj.iincN (a := k + wd.length) (c := 1) (lv' := [(2, .int (nI (k + wd.length + 1))), (1, .int (nI c)), (0, .ref b)]) dX12_keyAt_114 rfl (Nat.le_of_ble_eq_true rfl) rfl rfl rfl ?_
        refine aj.iincN (a := c) (c := 1) (lv' := [(1, .int (nI (c + 1))), (2, .int (nI (k + wd.length + 1))), (0, .ref b)]) dX12_keyAt_117 rfl (Nat.le_of_ble_eq_true rfl) rfl rfl rfl ?_
        refine aj.goto (tgt := 4) dX12_keyAt_120 rfl ?_
        refine aj.pick [1, 0, 2] rfl ?_
        rw [idx_ne hne, show c + (ws.idxOf (wordL tx a (q - a)) + 1) = (c + 1) + ws.idxOf (wordL tx a (q - a)) by omega]
        exact ih (c + 1) (k + wd.length + 1) M (by omega) (by omega) (by rw [show k + wd.length + 1 = k + (wd.length + 1) by omega, ← List.drop_drop, hdr, flat_dr]) (fun x hx => hns x (List.mem_cons_of_mem _ hx)) ⟨_, _, _, hA⟩
      · refine aj.aload_n dX12_keyAt_82 rfl ?_
        refine gM6 rfl dX12_keyAt_83 hA ?_
        refine aj.iload_n dX12_keyAt_86 rfl ?_
        refine aj.iaddN (a := a) (b := i) dX12_keyAt_87 h6 rfl ?_
        refine aj.aload_n dX12_keyAt_88 rfl ?_
        refine gM7 rfl dX12_keyAt_89 hA ?_
        refine aj.icmp_neN (a := a + i) (b := q) (tgt := 97) dX12_keyAt_92 rfl h7 (by omega) (by omega) rfl (fun c92 => ?_) (fun c92 => ?_)
        · refine aj.pick [2, 1, 3] rfl ?_
          have hne : wd ≠ wordL tx a (q - a) := by
            intro e
            have hlen : wd.length = q - a := by rw [e, wordL_len]
            rcases hE with z | z | ⟨z1, z2, z3⟩
            · omega
            · omega
            · exact z3 (by rw [e]; exact wordL_at tx _ _ _ z2)
          refine key_l2 hG wd ws c k hdr hnw (fun M hM => ?_) wd.length 0 M (by omega) ⟨_, _, _, hA⟩
          obtain ⟨u, v, w, hA⟩ := hM
          refine aj.iincN (a := k + wd.length) (c := 1) (lv' := [(2, .int (nI (k + wd.length + 1))), (1, .int (nI c)), (0, .ref b)]) dX12_keyAt_114 rfl (Nat.le_of_ble_eq_true rfl) rfl rfl rfl ?_
          refine aj.iincN (a := c) (c := 1) (lv' := [(1, .int (nI (c + 1))), (2, .int (nI (k + wd.length + 1))), (0, .ref b)]) dX12_keyAt_117 rfl (Nat.le_of_ble_eq_true rfl) rfl rfl rfl ?_
          refine aj.goto (tgt := 4) dX12_keyAt_120 rfl ?_
          refine aj.pick [1, 0, 2] rfl ?_
          rw [idx_ne hne, show c + (ws.idxOf (wordL tx a (q - a)) + 1) = (c + 1) + ws.idxOf (wordL tx a (q - a)) by omega]
          exact ih (c + 1) (k + wd.length + 1) M (by omega) (by omega) (by rw [show k + wd.length + 1 = k + (wd.length + 1) by omega, ← List.drop_drop, hdr, flat_dr]) (fun x hx => hns x (List.mem_cons_of_mem _ hx)) ⟨_, _, _, hA⟩
        · refine aj.iload_n dX12_keyAt_95 rfl ?_
          have hil : i = wd.length := by
            rcases Nat.lt_or_ge i wd.length with e | e
            · exact absurd c79 (hz2 e)
            · omega
          have hw : wd = wordL tx a (q - a) := list_ext (by rw [wordL_len]; omega) (fun j hj => by rw [wordL_at tx _ _ _ (by omega)]; exact hmt j (by omega))
          exact aj.iret rfl dX12_keyAt_96 ⟨by rw [← hw, List.idxOf_cons_self]; rfl, _, _, _, hA⟩
theorem c_keyAt {G : zG} {l : Launch} {b : Nat} {M0 M : zM} {I : Nat → Int32} {A : Nat → Nat → Int32} {L : Nat → Nat → Int64} {av : Nat → Nat} {fm : Nat} (hG : zSt G av fm) (tx : Nat → Nat) (a q : Nat) (h6 : I 6 = nI a) (h7 : I 7 = nI q) (haq : a < q) (hqn : q ≤ 900) (htx : ∀ k, k < 900 → A 3 k = nI (tx k)) (hb : ∀ k, tx k < 256) (hM : mW b M0 M I A L) : am G l kX12_keyAt 4 [.ref b] M 0 0 (zr (.int (nI (kws.idxOf (wordL tx a (q - a))))) (fun M' => mW b M0 M' I A L)) := by
  obtain ⟨u, v, w, hA⟩ := hM
  refine am.of (by decide) (Nat.le_of_ble_eq_true rfl) ?_
  refine aj.iconst (v := 0) dX12_keyAt_0 rfl ?_
  refine aj.istore_n (lv' := [(1, .int 0), (0, .ref b)]) dX12_keyAt_1 (Nat.le_of_ble_eq_true rfl) rfl ?_
  refine aj.iconst (v := 1) dX12_keyAt_2 rfl ?_
  refine aj.istore_n (lv' := [(2, .int 1), (1, .int 0), (0, .ref b)]) dX12_keyAt_3 (Nat.le_of_ble_eq_true rfl) rfl ?_
  refine aj.pick [0, 1, 2] rfl ?_
  have h := key_out (l := l) hG tx a q h6 h7 haq hqn htx hb kws 0 1 M rfl (by omega) keys_flat kws_ns ⟨_, _, _, hA⟩
  rw [Nat.zero_add] at h
  exact h
