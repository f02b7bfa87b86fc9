/-- what a shooter's shots score by each lot -/
abbrev mSc (B : Nat → Int32) (sl : Option (List Nat)) (s aim : Nat) (op : Prop) [Decidable op] : Nat → Int := fun lot => (mScore B (nI (mLn B sl s aim lot)) op).toInt
theorem mSc_bd {B : Nat → Int32} {sl ol : Option (List Nat)} {T s aim : Nat} (hB : mOK B sl ol T) (op : Prop) [Decidable op] (k : Nat) : -99 ≤ mSc B sl s aim op k ∧ mSc B sl s aim op k ≤ 99 := by
  obtain ⟨q1, q2, q3⟩ := mScore_bd (n := mLn B sl s aim k) hB (mLand_le _ _ _ _ _ _) op
  exact ⟨q1, q2⟩
theorem z_idx {k t : Nat} {x : Int32} (h : (k : Int) + x.toInt = (t : Int)) (hk : k < 2 ^ 31) (ht : t < 2 ^ 31) : nI k + x = nI t := by
  apply Int32.toInt_inj.mp
  rw [Int32.toInt_add, nI_toInt hk, nI_toInt ht, h]
  exact Int.bmod_eq_of_le (by omega) (by omega)
theorem va_up_id' {α : Type} {A : Nat → α} {k : Nat} {f : α} (h : f = A k) : va_up A k f = A := by rw [h]; exact va_up_id A k
theorem nsum_z {f : Nat → Nat} {n : Nat} (h : ∀ k, k < n → f k = 0) : nsum f n = 0 := (nsum_congr h).trans (nsum_0 n)
/-- ways that are laid when the rows before k are done, of row k the lots before j -/
abbrev mTk (sc : Nat → Int) (i k j t : Nat) : Nat := nsum (fun k => nsum (fun lot => if (k : Int) + sc lot = (t : Int) then mWy sc i k else 0) 10) k + nsum (fun lot => if (k : Int) + sc lot = (t : Int) then mWy sc i k else 0) j
theorem mTk_w0 {sc : Nat → Int} {i k j t : Nat} (h : mWy sc i k = 0) : mTk sc i k j t = mTk sc i k 10 t := by
  have e : ∀ m, nsum (fun lot => if (k : Int) + sc lot = (t : Int) then mWy sc i k else 0) m = 0 := fun m => nsum_z (fun q _ => by rw [h]; split <;> rfl)
  unfold mTk
  rw [e j, e 10]
theorem mTk_hit {sc : Nat → Int} {i k j t : Nat} (h : (k : Int) + sc j = (t : Int)) : mTk sc i k (j + 1) t = mTk sc i k j t + mWy sc i k := by
  unfold mTk
  rw [nsum_s (fun lot => if (k : Int) + sc lot = (t : Int) then mWy sc i k else 0) j, if_pos h, Nat.add_assoc]
theorem mTk_miss {sc : Nat → Int} {i k j t : Nat} (h : ¬ (k : Int) + sc j = (t : Int)) : mTk sc i k (j + 1) t = mTk sc i k j t := by
  unfold mTk
  rw [nsum_s (fun lot => if (k : Int) + sc lot = (t : Int) then mWy sc i k else 0) j, if_neg h, Nat.add_zero]
theorem mTk_row {sc : Nat → Int} {i k t : Nat} : mTk sc i k 10 t = mTk sc i (k + 1) 0 t := rfl
theorem mTk_00 {sc : Nat → Int} {i t : Nat} : mTk sc i 0 0 t = 0 := rfl
theorem mTk_end {sc : Nat → Int} (hsc : ∀ k, k < 10 → -99 ≤ sc k ∧ sc k ≤ 99) {i : Nat} (hi : i ≤ 2) (k t : Nat) (hk : k = 601) : mTk sc i k 0 t = mWy sc (i + 1) t := by
  rw [← mWy_s hsc hi t, hk]
  exact Nat.add_zero _
theorem lays22_l1 {G : zG} {l : Launch} {b : Nat} {M0 : zM} {I : Nat → Int32} {A : Nat → Nat → Int32} {L : Nat → Nat → Int64} {Q : Option Value → zM → Prop} (s : Nat) {x_s : Int32} (e_s : x_s = nI s) (n : Nat) {x_n : Int32} (e_n : x_n = nI n) (aim : Nat) (op : Prop) [Decidable op] {sl ol : Option (List Nat)} {T : Nat} (hB : mOK (A 1) sl ol T) (hs : s < 4) (haim : aim ≤ 20) (hn : n ≤ 3) (hk : ∀ (g : Nat → Int64) (M : zM), (∀ k, k < 601 → g k = lN (mWy (mSc (A 1) sl s aim op) 0 k)) → mW b M0 M I A (va_up L 22 g) → aj G l kX12_laysWays 6 49 [(5, .int (nI aim)), (4, .int (zb (op))), (0, .ref b), (1, .int x_s), (2, .int x_n), (3, .ref (b + 9))] [] M 0 0 Q) : ∀ (m i : Nat) (g : Nat → Int64) (M : zM), i + m = 601 → (∀ k, k < i → g k = lN (mWy (mSc (A 1) sl s aim op) 0 k)) → mW b M0 M I A (va_up L 22 g) → aj G l kX12_laysWays 6 18 [(6, .int (nI i)), (5, .int (nI aim)), (4, .int (zb (op))), (0, .ref b), (1, .int x_s), (2, .int x_n), (3, .ref (b + 9))] [] M 0 0 Q := by
  have hT := hB.2.2.2.2.2.2.2.2.1
  have hN6 := hB.2.2.1.2
  have hN25 := hB.2.2.2.2.2.1.2
  have hN26 := hB.2.2.2.2.2.2.1.2
  have hN27 := hB.2.2.2.2.2.2.2.1.2
  have hN1 := hB.1.1.2
  have hN2 := hB.1.2.1.2
  have hsc := mSc_bd (sl := sl) (s := s) (aim := aim) hB op
  intro m
  induction m with
  | zero =>
    intro i g M hin hg hM
    obtain ⟨u, v, w, hA⟩ := hM
    refine aj.iload dX12_laysWays_18 rfl ?_
    refine aj.sipush (v := 601) dX12_laysWays_20 rfl ?_
    refine aj.icmp_geN (a := i) (b := 601) (tgt := 49) dX12_laysWays_23 rfl rfl (by omega) (by omega) rfl (fun c23 => ?_) (fun c23 => ?_)
    · refine aj.pick [1, 2, 3, 4, 5, 6] rfl ?_
      exact hk g M (fun k hk => hg k (by omega)) ⟨_, _, _, hA⟩
    · exact absurd c23 (by omega)
  | succ m ih =>
    intro i g M hin hg hM
    obtain ⟨u, v, w, hA⟩ := hM
    refine aj.iload dX12_laysWays_18 rfl ?_
    refine aj.sipush (v := 601) dX12_laysWays_20 rfl ?_
    refine aj.icmp_geN (a := i) (b := 601) (tgt := 49) dX12_laysWays_23 rfl rfl (by omega) (by omega) rfl (fun c23 => ?_) (fun c23 => ?_)
    · exact absurd c23 (by omega)
    · refine aj.aload_n dX12_laysWays_26 rfl ?_
      refine aj.iload dX12_laysWays_27 rfl ?_
      refine aj.iload dX12_laysWays_29 rfl ?_
      refine aj.sipush (v := 300) dX12_laysWays_31 rfl ?_
      refine aj.icmp_neN (a := i) (b := 300) (tgt := 41) dX12_laysWays_34 rfl rfl (by omega) (by omega) rfl (fun c34 => ?_) (fun c34 => ?_)
      · refine aj.lconst (v := 0) dX12_laysWays_41 rfl ?_
        refine sM22N (i := i) dX12_laysWays_42 hA rfl (by omega) (fun M hA => ?_)
        refine aj.iincN (a := i) (c := 1) (lv' := [(6, .int (nI (i + 1))), (5, .int (nI aim)), (4, .int (zb (op))), (0, .ref b), (1, .int x_s), (2, .int x_n), (3, .ref (b + 9))]) dX12_laysWays_43 rfl (Nat.le_of_ble_eq_true rfl) rfl rfl rfl ?_
        refine aj.goto (tgt := 18) dX12_laysWays_46 rfl ?_
        refine aj.pick [0, 1, 2, 3, 4, 5, 6] rfl ?_
        rw [bx_uu] at hA
        exact ih (i + 1) _ M (by omega) (fun k hk => if e : k = i then (by rw [e]; refine updL_s.trans ?_; show _ = lN (if (0 : Int) + 300 = (i : Int) then 1 else 0); rw [if_neg (by omega)]; rfl) else (by rw [updL_n e]; exact hg k (by omega))) ⟨_, _, _, hA⟩
      · refine aj.lconst (v := 1) dX12_laysWays_37 rfl ?_
        refine aj.goto (tgt := 42) dX12_laysWays_38 rfl ?_
        refine sM22N (i := i) dX12_laysWays_42 hA rfl (by omega) (fun M hA => ?_)
        refine aj.iincN (a := i) (c := 1) (lv' := [(6, .int (nI (i + 1))), (5, .int (nI aim)), (4, .int (zb (op))), (0, .ref b), (1, .int x_s), (2, .int x_n), (3, .ref (b + 9))]) dX12_laysWays_43 rfl (Nat.le_of_ble_eq_true rfl) rfl rfl rfl ?_
        refine aj.goto (tgt := 18) dX12_laysWays_46 rfl ?_
        refine aj.pick [0, 1, 2, 3, 4, 5, 6] rfl ?_
        rw [bx_uu] at hA
        exact ih (i + 1) _ M (by omega) (fun k hk => if e : k = i then (by rw [e]; refine updL_s.trans ?_; show _ = lN (if (0 : Int) + 300 = (i : Int) then 1 else 0); rw [if_pos (by omega)]; rfl) else (by rw [updL_n e]; exact hg k (by omega))) ⟨_, _, _, hA⟩
theorem lays22_l3 {G : zG} {l : Launch} {b : Nat} {M0 : zM} {I : Nat → Int32} {A : Nat → Nat → Int32} {L : Nat → Nat → Int64} {Q : Option Value → zM → Prop} (s : Nat) {x_s : Int32} (e_s : x_s = nI s) (n : Nat) {x_n : Int32} (e_n : x_n = nI n) (aim : Nat) (op : Prop) [Decidable op] {sl ol : Option (List Nat)} {T : Nat} (hB : mOK (A 1) sl ol T) (hs : s < 4) (haim : aim ≤ 20) (hn : n ≤ 3) (i : Nat) (g : Nat → Int64) (hk : ∀ (gt : Nat → Int64) (M : zM), (∀ k, k < 601 → gt k = 0) → mW b M0 M I A (va_up (va_up L 22 g) 24 gt) → aj G l kX12_laysWays 6 83 [(6, .int (nI i)), (5, .int (nI aim)), (4, .int (zb (op))), (0, .ref b), (1, .int x_s), (2, .int x_n), (3, .ref (b + 9))] [] M 0 0 Q) : ∀ (m k : Nat) (gt : Nat → Int64) (M : zM), k + m = 601 → (∀ j, j < k → gt j = 0) → mW b M0 M I A (va_up (va_up L 22 g) 24 gt) → aj G l kX12_laysWays 6 61 [(7, .int (nI k)), (6, .int (nI i)), (5, .int (nI aim)), (4, .int (zb (op))), (0, .ref b), (1, .int x_s), (2, .int x_n), (3, .ref (b + 9))] [] M 0 0 Q := by
  have hT := hB.2.2.2.2.2.2.2.2.1
  have hN6 := hB.2.2.1.2
  have hN25 := hB.2.2.2.2.2.1.2
  have hN26 := hB.2.2.2.2.2.2.1.2
  have hN27 := hB.2.2.2.2.2.2.2.1.2
  have hN1 := hB.1.1.2
  have hN2 := hB.1.2.1.2
  have hsc := mSc_bd (sl := sl) (s := s) (aim := aim) hB op
  intro m
  induction m with
  | zero =>
    intro k gt M hin hg hM
    obtain ⟨u, v, w, hA⟩ := hM
    refine aj.iload dX12_laysWays_61 rfl ?_
    refine aj.sipush (v := 601) dX12_laysWays_63 rfl ?_
    refine aj.icmp_geN (a := k) (b := 601) (tgt := 83) dX12_laysWays_66 rfl rfl (by omega) (by omega) rfl (fun c66 => ?_) (fun c66 => ?_)
    · refine aj.pick [1, 2, 3, 4, 5, 6, 7] rfl ?_
      exact hk gt M (fun j hj => hg j (by omega)) ⟨_, _, _, hA⟩
    · exact absurd c66 (by omega)
  | succ m ih =>
    intro k gt M hin hg hM
    obtain ⟨u, v, w, hA⟩ := hM
    refine aj.iload dX12_laysWays_61 rfl ?_
    refine aj.sipush (v := 601) dX12_laysWays_63 rfl ?_
    refine aj.icmp_geN (a := k) (b := 601) (tgt := 83) dX12_laysWays_66 rfl rfl (by omega) (by omega) rfl (fun c66 => ?_) (fun c66 => ?_)
    · exact absurd c66 (by omega)
    · refine aj.aload_n dX12_laysWays_69 rfl ?_
      refine gM24 rfl dX12_laysWays_70 hA ?_
      refine aj.iload dX12_laysWays_73 rfl ?_
      refine aj.lconst (v := 0) dX12_laysWays_75 rfl ?_
      refine sM24N (i := k) dX12_laysWays_76 hA rfl (by omega) (fun M hA => ?_)
      refine aj.iincN (a := k) (c := 1) (lv' := [(7, .int (nI (k + 1))), (6, .int (nI i)), (5, .int (nI aim)), (4, .int (zb (op))), (0, .ref b), (1, .int x_s), (2, .int x_n), (3, .ref (b + 9))]) dX12_laysWays_77 rfl (Nat.le_of_ble_eq_true rfl) rfl rfl rfl ?_
      refine aj.goto (tgt := 61) dX12_laysWays_80 rfl ?_
      refine aj.pick [0, 1, 2, 3, 4, 5, 6, 7] rfl ?_
      rw [bx_uu] at hA
      exact ih (k + 1) _ M (by omega) (fun j hj => if e : j = k then (by rw [e]; exact updL_s) else (by rw [updL_n e]; exact hg j (by omega))) ⟨_, _, _, hA⟩
theorem lays22_l5 {G : zG} {l : Launch} {b : Nat} {M0 : zM} {I : Nat → Int32} {A : Nat → Nat → Int32} {L : Nat → Nat → Int64} {Q : Option Value → zM → Prop} (s : Nat) {x_s : Int32} (e_s : x_s = nI s) (n : Nat) {x_n : Int32} (e_n : x_n = nI n) (aim : Nat) (op : Prop) [Decidable op] {sl ol : Option (List Nat)} {T : Nat} (hB : mOK (A 1) sl ol T) (hs : s < 4) (haim : aim ≤ 20) (hn : n ≤ 3) (i k : Nat) (g : Nat → Int64) (hi : i ≤ 2) (hk6 : k < 601) (hg : ∀ k, k < 601 → g k = lN (mWy (mSc (A 1) sl s aim op) i k)) (hk : ∀ (gt : Nat → Int64) (M : zM), (∀ t, t < 601 → gt t = lN (mTk (mSc (A 1) sl s aim op) i k 10 t)) → mW b M0 M I A (va_up (va_up L 22 g) 24 gt) → aj G l kX12_laysWays 6 149 [(7, .int (nI k)), (6, .int (nI i)), (5, .int (nI aim)), (4, .int (zb (op))), (0, .ref b), (1, .int x_s), (2, .int x_n), (3, .ref (b + 9))] [] M 0 0 Q) : ∀ (m j : Nat) (gt : Nat → Int64) (M : zM), j + m = 10 → (∀ t, t < 601 → gt t = lN (mTk (mSc (A 1) sl s aim op) i k j t)) → mW b M0 M I A (va_up (va_up L 22 g) 24 gt) → aj G l kX12_laysWays 6 97 [(8, .int (nI j)), (7, .int (nI k)), (6, .int (nI i)), (5, .int (nI aim)), (4, .int (zb (op))), (0, .ref b), (1, .int x_s), (2, .int x_n), (3, .ref (b + 9))] [] M 0 0 Q := by
  have hT := hB.2.2.2.2.2.2.2.2.1
  have hN6 := hB.2.2.1.2
  have hN25 := hB.2.2.2.2.2.1.2
  have hN26 := hB.2.2.2.2.2.2.1.2
  have hN27 := hB.2.2.2.2.2.2.2.1.2
  have hN1 := hB.1.1.2
  have hN2 := hB.1.2.1.2
  have hsc := mSc_bd (sl := sl) (s := s) (aim := aim) hB op
  intro m
  induction m with
  | zero =>
    intro j gt M hin hgt hM
    obtain ⟨u, v, w, hA⟩ := hM
    have hgk := hg k hk6
    have hwl := mWy_le (mSc (A 1) sl s aim op) i k
    have h102 : 10 ^ i ≤ 10 ^ 2 := Nat.pow_le_pow_right (by decide) hi
    refine aj.iload dX12_laysWays_97 rfl ?_
    refine aj.bipush (v := 10) dX12_laysWays_99 rfl ?_
    refine aj.icmp_geN (a := j) (b := 10) (tgt := 149) dX12_laysWays_101 rfl rfl (by omega) (by omega) rfl (fun c101 => ?_) (fun c101 => ?_)
    · refine aj.pick [1, 2, 3, 4, 5, 6, 7, 8] rfl ?_
      exact hk gt M (fun t ht => by rw [← show j = 10 by omega]; exact hgt t ht) ⟨_, _, _, hA⟩
    · exact absurd c101 (by omega)
  | succ m ih =>
    intro j gt M hin hgt hM
    obtain ⟨u, v, w, hA⟩ := hM
    have hgk := hg k hk6
    have hwl := mWy_le (mSc (A 1) sl s aim op) i k
    have h102 : 10 ^ i ≤ 10 ^ 2 := Nat.pow_le_pow_right (by decide) hi
    refine aj.iload dX12_laysWays_97 rfl ?_
    refine aj.bipush (v := 10) dX12_laysWays_99 rfl ?_
    refine aj.icmp_geN (a := j) (b := 10) (tgt := 149) dX12_laysWays_101 rfl rfl (by omega) (by omega) rfl (fun c101 => ?_) (fun c101 => ?_)
    · exact absurd c101 (by omega)
    · refine aj.aload_n dX12_laysWays_104 rfl ?_
      refine aj.iload dX12_laysWays_105 rfl ?_
      refine aM22N (i := k) dX12_laysWays_107 hA rfl (by omega) ?_
      refine aj.lconst (v := 0) dX12_laysWays_108 rfl ?_
      refine aj.lif_le (tgt := 149) dX12_laysWays_109 dX12_laysWays_110 rfl (fun c109 => ?_) (fun c109 => ?_)
      · refine aj.pick [1, 2, 3, 4, 5, 6, 7, 8] rfl ?_
        have hw0 : mWy (mSc (A 1) sl s aim op) i k = 0 := by
          apply Classical.byContradiction
          intro q
          exact c109 (by show 0 < g k; rw [hgk]; exact (z_l0 (by omega)).mpr (by omega))
        exact hk gt M (fun t ht => by rw [hgt t ht, mTk_w0 hw0]) ⟨_, _, _, hA⟩
      · have hw0 : mWy (mSc (A 1) sl s aim op) i k ≠ 0 := fun q => by
          have z : 0 < g k := c109
          rw [hgk, q] at z
          exact absurd z (by decide)
        have hwo := mWy_out (fun k _ => hsc k) hw0
        have hscj := hsc j
        obtain ⟨tg, htg⟩ : ∃ tg : Nat, (k : Int) + (mSc (A 1) sl s aim op) j = (tg : Int) := ⟨((k : Int) + (mSc (A 1) sl s aim op) j).toNat, by omega⟩
        have hidx := z_idx htg (by omega) (by omega)
        have hml : mLn (A 1) sl s aim j ≤ 20 := mLand_le _ _ _ _ _ _
        refine aj.aload_n dX12_laysWays_113 rfl ?_
        refine gM24 rfl dX12_laysWays_114 hA ?_
        refine aj.iload dX12_laysWays_117 rfl ?_
        refine aj.aload_n dX12_laysWays_119 rfl ?_
        refine aj.aload_n dX12_laysWays_120 rfl ?_
        refine aj.iload_n dX12_laysWays_121 rfl ?_
        refine aj.iload dX12_laysWays_122 rfl ?_
        refine aj.iload dX12_laysWays_124 rfl ?_
        refine aj.callV1 (d' := 3) (As := [.int x_s, .int (nI aim), .int (nI j)]) (rest := [.ref b, .int (nI k), .ref (b + 11)]) dX12_laysWays_126 v_X12_247 li_X12_landsNow hA.1 rfl rfl rfl (Nat.le_of_ble_eq_true rfl) (Nat.le_of_ble_eq_true rfl) (c_landsNow s e_s aim rfl j rfl ⟨_, _, _, hA⟩ hB (by omega) (by omega) (by omega)) (fun M hM => ?_)
        obtain ⟨u, v, w, hA⟩ := hM
        refine aj.iload dX12_laysWays_129 rfl ?_
        refine aj.callV1 (d' := 1) (As := [.int (nI (mLand sl (A 1 (13 + s)) (mN (A 1 (21 + s))) (mN (A 1 26)) aim j)), .int (zb (op))]) (rest := [.int (nI k), .ref (b + 11)]) dX12_laysWays_131 v_X12_254 li_X12_scoresAt hA.1 rfl rfl rfl (Nat.le_of_ble_eq_true rfl) (Nat.le_of_ble_eq_true rfl) (c_scoresAt (nI (mLand sl (A 1 (13 + s)) (mN (A 1 (21 + s))) (mN (A 1 26)) aim j)) (op) ⟨_, _, _, hA⟩) (fun M hM => ?_)
        obtain ⟨u, v, w, hA⟩ := hM
        refine aj.iadd dX12_laysWays_134 ?_
        refine aj.dup2 dX12_laysWays_135 rfl rfl ?_
        refine aM24N (i := tg) dX12_laysWays_136 hA hidx (by omega) ?_
        refine aj.aload_n dX12_laysWays_137 rfl ?_
        refine aj.iload dX12_laysWays_138 rfl ?_
        refine aM22N (i := k) dX12_laysWays_140 hA rfl (by omega) ?_
        refine aj.ladd dX12_laysWays_141 ?_
        refine sM24N (i := tg) dX12_laysWays_142 hA hidx (by omega) (fun M hA => ?_)
        refine aj.iincN (a := j) (c := 1) (lv' := [(8, .int (nI (j + 1))), (7, .int (nI k)), (6, .int (nI i)), (5, .int (nI aim)), (4, .int (zb (op))), (0, .ref b), (1, .int x_s), (2, .int x_n), (3, .ref (b + 9))]) dX12_laysWays_143 rfl (Nat.le_of_ble_eq_true rfl) rfl rfl rfl ?_
        refine aj.goto (tgt := 97) dX12_laysWays_146 rfl ?_
        refine aj.pick [0, 1, 2, 3, 4, 5, 6, 7, 8] rfl ?_
        rw [bx_uu] at hA
        exact ih (j + 1) _ M (by omega) (fun t ht => by
          by_cases e : t = tg
          · rw [e, mTk_hit htg]
            refine updL_s.trans ?_
            show gt tg + g k = _
            rw [hgt tg (by omega), hgk, lN_add]
          · rw [updL_n e, mTk_miss (fun z => e (by omega))]
            exact hgt t ht) ⟨_, _, _, hA⟩
theorem lays22_l4 {G : zG} {l : Launch} {b : Nat} {M0 : zM} {I : Nat → Int32} {A : Nat → Nat → Int32} {L : Nat → Nat → Int64} {Q : Option Value → zM → Prop} (s : Nat) {x_s : Int32} (e_s : x_s = nI s) (n : Nat) {x_n : Int32} (e_n : x_n = nI n) (aim : Nat) (op : Prop) [Decidable op] {sl ol : Option (List Nat)} {T : Nat} (hB : mOK (A 1) sl ol T) (hs : s < 4) (haim : aim ≤ 20) (hn : n ≤ 3) (i : Nat) (g : Nat → Int64) (hi : i ≤ 2) (hg : ∀ k, k < 601 → g k = lN (mWy (mSc (A 1) sl s aim op) i k)) (hk : ∀ (gt : Nat → Int64) (M : zM), (∀ t, t < 601 → gt t = lN (mWy (mSc (A 1) sl s aim op) (i + 1) t)) → mW b M0 M I A (va_up (va_up L 22 g) 24 gt) → aj G l kX12_laysWays 6 155 [(6, .int (nI i)), (5, .int (nI aim)), (4, .int (zb (op))), (0, .ref b), (1, .int x_s), (2, .int x_n), (3, .ref (b + 9))] [] M 0 0 Q) : ∀ (m k : Nat) (gt : Nat → Int64) (M : zM), k + m = 601 → (∀ t, t < 601 → gt t = lN (mTk (mSc (A 1) sl s aim op) i k 0 t)) → mW b M0 M I A (va_up (va_up L 22 g) 24 gt) → aj G l kX12_laysWays 6 86 [(7, .int (nI k)), (6, .int (nI i)), (5, .int (nI aim)), (4, .int (zb (op))), (0, .ref b), (1, .int x_s), (2, .int x_n), (3, .ref (b + 9))] [] M 0 0 Q := by
  have hT := hB.2.2.2.2.2.2.2.2.1
  have hN6 := hB.2.2.1.2
  have hN25 := hB.2.2.2.2.2.1.2
  have hN26 := hB.2.2.2.2.2.2.1.2
  have hN27 := hB.2.2.2.2.2.2.2.1.2
  have hN1 := hB.1.1.2
  have hN2 := hB.1.2.1.2
  have hsc := mSc_bd (sl := sl) (s := s) (aim := aim) hB op
  intro m
  induction m with
  | zero =>
    intro k gt M hin hgt hM
    obtain ⟨u, v, w, hA⟩ := hM
    refine aj.iload dX12_laysWays_86 rfl ?_
    refine aj.sipush (v := 601) dX12_laysWays_88 rfl ?_
    refine aj.icmp_geN (a := k) (b := 601) (tgt := 155) dX12_laysWays_91 rfl rfl (by omega) (by omega) rfl (fun c91 => ?_) (fun c91 => ?_)
    · refine aj.pick [1, 2, 3, 4, 5, 6, 7] rfl ?_
      exact hk gt M (fun t ht => by rw [hgt t ht, mTk_end (fun k _ => hsc k) hi k t (by omega)]) ⟨_, _, _, hA⟩
    · exact absurd c91 (by omega)
  | succ m ih =>
    intro k gt M hin hgt hM
    obtain ⟨u, v, w, hA⟩ := hM
    refine aj.iload dX12_laysWays_86 rfl ?_
    refine aj.sipush (v := 601) dX12_laysWays_88 rfl ?_
    refine aj.icmp_geN (a := k) (b := 601) (tgt := 155) dX12_laysWays_91 rfl rfl (by omega) (by omega) rfl (fun c91 => ?_) (fun c91 => ?_)
    · exact absurd c91 (by omega)
    · refine aj.iconst (v := 0) dX12_laysWays_94 rfl ?_
      refine aj.istore (lv' := [(8, .int 0), (7, .int (nI k)), (6, .int (nI i)), (5, .int (nI aim)), (4, .int (zb (op))), (0, .ref b), (1, .int x_s), (2, .int x_n), (3, .ref (b + 9))]) dX12_laysWays_95 (Nat.le_of_ble_eq_true rfl) rfl ?_
      refine aj.pick [0, 1, 2, 3, 4, 5, 6, 7, 8] rfl ?_
      refine lays22_l5 s e_s n e_n aim op hB hs haim hn i k g hi (by omega) hg (fun gt M hgt hM => ?_) 10 0 gt M (by omega) hgt ⟨_, _, _, hA⟩
      obtain ⟨u, v, w, hA⟩ := hM
      refine aj.iincN (a := k) (c := 1) (lv' := [(7, .int (nI (k + 1))), (6, .int (nI i)), (5, .int (nI aim)), (4, .int (zb (op))), (0, .ref b), (1, .int x_s), (2, .int x_n), (3, .ref (b + 9))]) dX12_laysWays_149 rfl (Nat.le_of_ble_eq_true rfl) rfl rfl rfl ?_
      refine aj.goto (tgt := 86) dX12_laysWays_152 rfl ?_
      refine aj.pick [0, 1, 2, 3, 4, 5, 6, 7] rfl ?_
      exact ih (k + 1) gt M (by omega) (fun t ht => by rw [hgt t ht, mTk_row]) ⟨_, _, _, hA⟩
theorem lays22_l6 {G : zG} {l : Launch} {b : Nat} {M0 : zM} {I : Nat → Int32} {A : Nat → Nat → Int32} {L : Nat → Nat → Int64} {Q : Option Value → zM → Prop} (s : Nat) {x_s : Int32} (e_s : x_s = nI s) (n : Nat) {x_n : Int32} (e_n : x_n = nI n) (aim : Nat) (op : Prop) [Decidable op] {sl ol : Option (List Nat)} {T : Nat} (hB : mOK (A 1) sl ol T) (hs : s < 4) (haim : aim ≤ 20) (hn : n ≤ 3) (i : Nat) (gt : Nat → Int64) (hk : ∀ (g : Nat → Int64) (M : zM), (∀ k, k < 601 → g k = gt k) → mW b M0 M I A (va_up (va_up L 22 g) 24 gt) → aj G l kX12_laysWays 6 183 [(6, .int (nI i)), (5, .int (nI aim)), (4, .int (zb (op))), (0, .ref b), (1, .int x_s), (2, .int x_n), (3, .ref (b + 9))] [] M 0 0 Q) : ∀ (m k : Nat) (g : Nat → Int64) (M : zM), k + m = 601 → (∀ j, j < k → g j = gt j) → mW b M0 M I A (va_up (va_up L 22 g) 24 gt) → aj G l kX12_laysWays 6 158 [(7, .int (nI k)), (6, .int (nI i)), (5, .int (nI aim)), (4, .int (zb (op))), (0, .ref b), (1, .int x_s), (2, .int x_n), (3, .ref (b + 9))] [] M 0 0 Q := by
  have hT := hB.2.2.2.2.2.2.2.2.1
  have hN6 := hB.2.2.1.2
  have hN25 := hB.2.2.2.2.2.1.2
  have hN26 := hB.2.2.2.2.2.2.1.2
  have hN27 := hB.2.2.2.2.2.2.2.1.2
  have hN1 := hB.1.1.2
  have hN2 := hB.1.2.1.2
  have hsc := mSc_bd (sl := sl) (s := s) (aim := aim) hB op
  intro m
  induction m with
  | zero =>
    intro k g M hin hg hM
    obtain ⟨u, v, w, hA⟩ := hM
    refine aj.iload dX12_laysWays_158 rfl ?_
    refine aj.sipush (v := 601) dX12_laysWays_160 rfl ?_
    refine aj.icmp_geN (a := k) (b := 601) (tgt := 183) dX12_laysWays_163 rfl rfl (by omega) (by omega) rfl (fun c163 => ?_) (fun c163 => ?_)
    · refine aj.pick [1, 2, 3, 4, 5, 6, 7] rfl ?_
      exact hk g M (fun j hj => hg j (by omega)) ⟨_, _, _, hA⟩
    · exact absurd c163 (by omega)
  | succ m ih =>
    intro k g M hin hg hM
    obtain ⟨u, v, w, hA⟩ := hM
    refine aj.iload dX12_laysWays_158 rfl ?_
    refine aj.sipush (v := 601) dX12_laysWays_160 rfl ?_
    refine aj.icmp_geN (a := k) (b := 601) (tgt := 183) dX12_laysWays_163 rfl rfl (by omega) (by omega) rfl (fun c163 => ?_) (fun c163 => ?_)
    · exact absurd c163 (by omega)
    · refine aj.aload_n dX12_laysWays_166 rfl ?_
      refine aj.iload dX12_laysWays_167 rfl ?_
      refine aj.aload_n dX12_laysWays_169 rfl ?_
      refine gM24 rfl dX12_laysWays_170 hA ?_
      refine aj.iload dX12_laysWays_173 rfl ?_
      refine aM24N (i := k) dX12_laysWays_175 hA rfl (by omega) ?_
      refine sM22N (i := k) dX12_laysWays_176 hA rfl (by omega) (fun M hA => ?_)
      refine aj.iincN (a := k) (c := 1) (lv' := [(7, .int (nI (k + 1))), (6, .int (nI i)), (5, .int (nI aim)), (4, .int (zb (op))), (0, .ref b), (1, .int x_s), (2, .int x_n), (3, .ref (b + 9))]) dX12_laysWays_177 rfl (Nat.le_of_ble_eq_true rfl) rfl rfl rfl ?_
      refine aj.goto (tgt := 158) dX12_laysWays_180 rfl ?_
      refine aj.pick [0, 1, 2, 3, 4, 5, 6, 7] rfl ?_
      rw [va_up_3 (by omega)] at hA
      exact ih (k + 1) _ M (by omega) (fun j hj => if e : j = k then (by rw [e]; exact updL_s) else (by rw [updL_n e]; exact hg j (by omega))) ⟨_, _, _, hA⟩
theorem lays22_l2 {G : zG} {l : Launch} {b : Nat} {M0 : zM} {I : Nat → Int32} {A : Nat → Nat → Int32} {L : Nat → Nat → Int64} {Q : Option Value → zM → Prop} (s : Nat) {x_s : Int32} (e_s : x_s = nI s) (n : Nat) {x_n : Int32} (e_n : x_n = nI n) (aim : Nat) (op : Prop) [Decidable op] {sl ol : Option (List Nat)} {T : Nat} (hB : mOK (A 1) sl ol T) (hs : s < 4) (haim : aim ≤ 20) (hn : n ≤ 3) (hk : ∀ (g gt : Nat → Int64) (M : zM), (∀ k, k < 601 → g k = lN (mWy (mSc (A 1) sl s aim op) n k)) → mW b M0 M I A (va_up (va_up L 22 g) 24 gt) → aj G l kX12_laysWays 6 189 [(5, .int (nI aim)), (4, .int (zb (op))), (0, .ref b), (1, .int x_s), (2, .int x_n), (3, .ref (b + 9))] [] M 0 0 Q) : ∀ (m i : Nat) (g gt : Nat → Int64) (M : zM), i + m = n → (∀ k, k < 601 → g k = lN (mWy (mSc (A 1) sl s aim op) i k)) → mW b M0 M I A (va_up (va_up L 22 g) 24 gt) → aj G l kX12_laysWays 6 52 [(6, .int (nI i)), (5, .int (nI aim)), (4, .int (zb (op))), (0, .ref b), (1, .int x_s), (2, .int x_n), (3, .ref (b + 9))] [] M 0 0 Q := by
  have hT := hB.2.2.2.2.2.2.2.2.1
  have hN6 := hB.2.2.1.2
  have hN25 := hB.2.2.2.2.2.1.2
  have hN26 := hB.2.2.2.2.2.2.1.2
  have hN27 := hB.2.2.2.2.2.2.2.1.2
  have hN1 := hB.1.1.2
  have hN2 := hB.1.2.1.2
  have hsc := mSc_bd (sl := sl) (s := s) (aim := aim) hB op
  intro m
  induction m with
  | zero =>
    intro i g gt M hin hg hM
    obtain ⟨u, v, w, hA⟩ := hM
    refine aj.iload dX12_laysWays_52 rfl ?_
    refine aj.iload_n dX12_laysWays_54 rfl ?_
    refine aj.icmp_geN (a := i) (b := n) (tgt := 189) dX12_laysWays_55 rfl e_n (by omega) (by omega) rfl (fun c55 => ?_) (fun c55 => ?_)
    · refine aj.pick [1, 2, 3, 4, 5, 6] rfl ?_
      rw [show i = n by omega] at hg
      exact hk g gt M hg ⟨_, _, _, hA⟩
    · exact absurd c55 (by omega)
  | succ m ih =>
    intro i g gt M hin hg hM
    obtain ⟨u, v, w, hA⟩ := hM
    refine aj.iload dX12_laysWays_52 rfl ?_
    refine aj.iload_n dX12_laysWays_54 rfl ?_
    refine aj.icmp_geN (a := i) (b := n) (tgt := 189) dX12_laysWays_55 rfl e_n (by omega) (by omega) rfl (fun c55 => ?_) (fun c55 => ?_)
    · exact absurd c55 (by omega)
    · refine aj.iconst (v := 0) dX12_laysWays_58 rfl ?_
      refine aj.istore (lv' := [(7, .int 0), (6, .int (nI i)), (5, .int (nI aim)), (4, .int (zb (op))), (0, .ref b), (1, .int x_s), (2, .int x_n), (3, .ref (b + 9))]) dX12_laysWays_59 (Nat.le_of_ble_eq_true rfl) rfl ?_
      refine aj.pick [0, 1, 2, 3, 4, 5, 6, 7] rfl ?_
      refine lays22_l3 s e_s n e_n aim op hB hs haim hn i g (fun gt M hgt hM => ?_) 601 0 gt M (by omega) (fun j hj => absurd hj (by omega)) ⟨_, _, _, hA⟩
      obtain ⟨u, v, w, hA⟩ := hM
      refine aj.iconst (v := 0) dX12_laysWays_83 rfl ?_
      refine aj.istore (lv' := [(7, .int 0), (6, .int (nI i)), (5, .int (nI aim)), (4, .int (zb (op))), (0, .ref b), (1, .int x_s), (2, .int x_n), (3, .ref (b + 9))]) dX12_laysWays_84 (Nat.le_of_ble_eq_true rfl) rfl ?_
      refine aj.pick [0, 1, 2, 3, 4, 5, 6, 7] rfl ?_
      refine lays22_l4 s e_s n e_n aim op hB hs haim hn i g (by omega) hg (fun gt M hgt hM => ?_) 601 0 gt M (by omega) (fun t ht => by rw [hgt t ht, mTk_00]; rfl) ⟨_, _, _, hA⟩
      obtain ⟨u, v, w, hA⟩ := hM
      refine aj.iconst (v := 0) dX12_laysWays_155 rfl ?_
      refine aj.istore (lv' := [(7, .int 0), (6, .int (nI i)), (5, .int (nI aim)), (4, .int (zb (op))), (0, .ref b), (1, .int x_s), (2, .int x_n), (3, .ref (b + 9))]) dX12_laysWays_156 (Nat.le_of_ble_eq_true rfl) rfl ?_
      refine aj.pick [0, 1, 2, 3, 4, 5, 6, 7] rfl ?_
      refine lays22_l6 s e_s n e_n aim op hB hs haim hn i gt (fun g M hg hM => ?_) 601 0 g M (by omega) (fun j hj => absurd hj (by omega)) ⟨_, _, _, hA⟩
      obtain ⟨u, v, w, hA⟩ := hM
      refine aj.iincN (a := i) (c := 1) (lv' := [(6, .int (nI (i + 1))), (5, .int (nI aim)), (4, .int (zb (op))), (0, .ref b), (1, .int x_s), (2, .int x_n), (3, .ref (b + 9))]) dX12_laysWays_183 rfl (Nat.le_of_ble_eq_true rfl) rfl rfl rfl ?_
      refine aj.goto (tgt := 52) dX12_laysWays_186 rfl ?_
      refine aj.pick [0, 1, 2, 3, 4, 5, 6] rfl ?_
      exact ih (i + 1) g gt M (by omega) (fun k hk => by rw [hg k hk]; exact hgt k hk) ⟨_, _, _, hA⟩
theorem lays22_end {G : zG} {l : Launch} {b : Nat} {M0 : zM} {I : Nat → Int32} {A : Nat → Nat → Int32} {L : Nat → Nat → Int64} (s : Nat) {x_s : Int32} (e_s : x_s = nI s) (n : Nat) {x_n : Int32} (e_n : x_n = nI n) (aim : Nat) (op : Prop) [Decidable op] {sl ol : Option (List Nat)} {T : Nat} (hB : mOK (A 1) sl ol T) (hs : s < 4) (haim : aim ≤ 20) (hn : n ≤ 3) (g : Nat → Int64) (M : zM) (hg : ∀ k, k < 601 → g k = lN (mWy (mSc (A 1) sl s aim op) 0 k)) (hM : mW b M0 M I A (va_up L 22 g)) : aj G l kX12_laysWays 6 49 [(5, .int (nI aim)), (4, .int (zb (op))), (0, .ref b), (1, .int x_s), (2, .int x_n), (3, .ref (b + 9))] [] M 0 0 (zv (fun M' => ∃ g gt : Nat → Int64, (∀ k, k < 601 → g k = lN (mWy (mSc (A 1) sl s aim op) n k)) ∧ mW b M0 M' I A (va_up (va_up L 22 g) 24 gt))) := by
  obtain ⟨u, v, w, hA⟩ := hM
  refine aj.iconst (v := 0) dX12_laysWays_49 rfl ?_
  refine aj.istore (lv' := [(6, .int 0), (5, .int (nI aim)), (4, .int (zb (op))), (0, .ref b), (1, .int x_s), (2, .int x_n), (3, .ref (b + 9))]) dX12_laysWays_50 (Nat.le_of_ble_eq_true rfl) rfl ?_
  refine aj.pick [0, 1, 2, 3, 4, 5, 6] rfl ?_
  exact lays22_l2 s e_s n e_n aim op hB hs haim hn (fun g gt M hg hM => aj.vret rfl dX12_laysWays_189 ⟨rfl, g, gt, hg, hM⟩) n 0 g (L 24) M (by omega) hg ⟨_, _, _, by rw [va_up_id' (by rw [va_up_ne _ _ (by omega)])]; exact hA⟩
theorem c_laysWays22 {G : zG} {l : Launch} {b : Nat} {M0 M : zM} {I : Nat → Int32} {A : Nat → Nat → Int32} {L : Nat → Nat → Int64} (s : Nat) {x_s : Int32} (e_s : x_s = nI s) (n : Nat) {x_n : Int32} (e_n : x_n = nI n) {sl ol : Option (List Nat)} {T : Nat} (hM : mW b M0 M I A L) (hB : mOK (A 1) sl ol T) (hs : s < 4) (hn : n ≤ 3) : am G l kX12_laysWays 6 [.ref b, .int x_s, .int x_n, .ref (b + 9)] M 0 0 (zv (fun M' => ∃ g gt : Nat → Int64, (∀ k, k < 601 → g k = lN (mWy (mSc (A 1) sl s (mBest (A 1) sl s (mN (A 1 (21 + s))) (mOpen ol (mN (A 1 26)) (mN (A 1 27)) (mN (A 1 25)) = true) 20) (mOpen ol (mN (A 1 26)) (mN (A 1 27)) (mN (A 1 25)) = true)) n k)) ∧ mW b M0 M' I A (va_up (va_up L 22 g) 24 gt))) := by
  obtain ⟨u, v, w, hA⟩ := hM
  have hT := hB.2.2.2.2.2.2.2.2.1
  have hN6 := hB.2.2.1.2
  have hN25 := hB.2.2.2.2.2.1.2
  have hN26 := hB.2.2.2.2.2.2.1.2
  have hN27 := hB.2.2.2.2.2.2.2.1.2
  have hN1 := hB.1.1.2
  have hN2 := hB.1.2.1.2
  have hb20 : mBest (A 1) sl s (mN (A 1 (21 + s))) (mOpen ol (mN (A 1 26)) (mN (A 1 27)) (mN (A 1 25)) = true) 20 ≤ 20 := zmax_le _ 20
  refine am.of (by decide) (Nat.le_of_ble_eq_true rfl) ?_
  refine aj.aload_n dX12_laysWays_0 rfl ?_
  refine aj.callV1 (d' := 3) (As := []) (rest := []) dX12_laysWays_1 v_X12_250 li_X12_isOpenNow hA.1 rfl rfl rfl (Nat.le_of_ble_eq_true rfl) (Nat.le_of_ble_eq_true rfl) (c_isOpenNow ⟨_, _, _, hA⟩ hB) (fun M hM => ?_)
  obtain ⟨u, v, w, hA⟩ := hM
  refine aj.istore (lv' := [(4, .int (zb (mOpen ol (mN (A 1 26)) (mN (A 1 27)) (mN (A 1 25)) = true))), (0, .ref b), (1, .int x_s), (2, .int x_n), (3, .ref (b + 9))]) dX12_laysWays_4 (Nat.le_of_ble_eq_true rfl) rfl ?_
  refine aj.aload_n dX12_laysWays_6 rfl ?_
  refine aj.iload_n dX12_laysWays_7 rfl ?_
  refine aj.iload dX12_laysWays_8 rfl ?_
  refine aj.callV1 (d' := 5) (As := [.int x_s, .int (zb (mOpen ol (mN (A 1 26)) (mN (A 1 27)) (mN (A 1 25)) = true))]) (rest := []) dX12_laysWays_10 v_X12_333 li_X12_bestNow hA.1 rfl rfl rfl (Nat.le_of_ble_eq_true rfl) (Nat.le_of_ble_eq_true rfl) (c_bestNow s e_s (mOpen ol (mN (A 1 26)) (mN (A 1 27)) (mN (A 1 25)) = true) ⟨_, _, _, hA⟩ hB (by omega)) (fun M hM => ?_)
  obtain ⟨u, v, w, hA⟩ := hM
  refine aj.istore (lv' := [(5, .int (nI (mBest (A 1) sl s (mN (A 1 (21 + s))) (mOpen ol (mN (A 1 26)) (mN (A 1 27)) (mN (A 1 25)) = true) 20))), (4, .int (zb (mOpen ol (mN (A 1 26)) (mN (A 1 27)) (mN (A 1 25)) = true))), (0, .ref b), (1, .int x_s), (2, .int x_n), (3, .ref (b + 9))]) dX12_laysWays_13 (Nat.le_of_ble_eq_true rfl) rfl ?_
  refine aj.iconst (v := 0) dX12_laysWays_15 rfl ?_
  refine aj.istore (lv' := [(6, .int 0), (5, .int (nI (mBest (A 1) sl s (mN (A 1 (21 + s))) (mOpen ol (mN (A 1 26)) (mN (A 1 27)) (mN (A 1 25)) = true) 20))), (4, .int (zb (mOpen ol (mN (A 1 26)) (mN (A 1 27)) (mN (A 1 25)) = true))), (0, .ref b), (1, .int x_s), (2, .int x_n), (3, .ref (b + 9))]) dX12_laysWays_16 (Nat.le_of_ble_eq_true rfl) rfl ?_
  refine aj.pick [0, 1, 2, 3, 4, 5, 6] rfl ?_
  exact lays22_l1 s e_s n e_n (mBest (A 1) sl s (mN (A 1 (21 + s))) (mOpen ol (mN (A 1 26)) (mN (A 1 27)) (mN (A 1 25)) = true) 20) (mOpen ol (mN (A 1 26)) (mN (A 1 27)) (mN (A 1 25)) = true) hB hs hb20 hn (fun g M hg hM => lays22_end s e_s n e_n (mBest (A 1) sl s (mN (A 1 (21 + s))) (mOpen ol (mN (A 1 26)) (mN (A 1 27)) (mN (A 1 25)) = true) 20) (mOpen ol (mN (A 1 26)) (mN (A 1 27)) (mN (A 1 25)) = true) hB hs hb20 hn g M hg hM) 601 0 (L 22) M (by omega) (fun k hk => absurd hk (by omega)) ⟨_, _, _, by rw [va_up_id]; exact hA⟩
theorem lays23_l1 {G : zG} {l : Launch} {b : Nat} {M0 : zM} {I : Nat → Int32} {A : Nat → Nat → Int32} {L : Nat → Nat → Int64} {Q : Option Value → zM → Prop} (s : Nat) {x_s : Int32} (e_s : x_s = nI s) (n : Nat) {x_n : Int32} (e_n : x_n = nI n) (aim : Nat) (op : Prop) [Decidable op] {sl ol : Option (List Nat)} {T : Nat} (hB : mOK (A 1) sl ol T) (hs : s < 4) (haim : aim ≤ 20) (hn : n ≤ 3) (hk : ∀ (g : Nat → Int64) (M : zM), (∀ k, k < 601 → g k = lN (mWy (mSc (A 1) sl s aim op) 0 k)) → mW b M0 M I A (va_up L 23 g) → aj G l kX12_laysWays 6 49 [(5, .int (nI aim)), (4, .int (zb (op))), (0, .ref b), (1, .int x_s), (2, .int x_n), (3, .ref (b + 10))] [] M 0 0 Q) : ∀ (m i : Nat) (g : Nat → Int64) (M : zM), i + m = 601 → (∀ k, k < i → g k = lN (mWy (mSc (A 1) sl s aim op) 0 k)) → mW b M0 M I A (va_up L 23 g) → aj G l kX12_laysWays 6 18 [(6, .int (nI i)), (5, .int (nI aim)), (4, .int (zb (op))), (0, .ref b), (1, .int x_s), (2, .int x_n), (3, .ref (b + 10))] [] M 0 0 Q := by
  have hT := hB.2.2.2.2.2.2.2.2.1
  have hN6 := hB.2.2.1.2
  have hN25 := hB.2.2.2.2.2.1.2
  have hN26 := hB.2.2.2.2.2.2.1.2
  have hN27 := hB.2.2.2.2.2.2.2.1.2
  have hN1 := hB.1.1.2
  have hN2 := hB.1.2.1.2
  have hsc := mSc_bd (sl := sl) (s := s) (aim := aim) hB op
  intro m
  induction m with
  | zero =>
    intro i g M hin hg hM
    obtain ⟨u, v, w, hA⟩ := hM
    refine aj.iload dX12_laysWays_18 rfl ?_
    refine aj.sipush (v := 601) dX12_laysWays_20 rfl ?_
    refine aj.icmp_geN (a := i) (b := 601) (tgt := 49) dX12_laysWays_23 rfl rfl (by omega) (by omega) rfl (fun c23 => ?_) (fun c23 => ?_)
    · refine aj.pick [1, 2, 3, 4, 5, 6] rfl ?_
      exact hk g M (fun k hk => hg k (by omega)) ⟨_, _, _, hA⟩
    · exact absurd c23 (by omega)
  | succ m ih =>
    intro i g M hin hg hM
    obtain ⟨u, v, w, hA⟩ := hM
    refine aj.iload dX12_laysWays_18 rfl ?_
    refine aj.sipush (v := 601) dX12_laysWays_20 rfl ?_
    refine aj.icmp_geN (a := i) (b := 601) (tgt := 49) dX12_laysWays_23 rfl rfl (by omega) (by omega) rfl (fun c23 => ?_) (fun c23 => ?_)
    · exact absurd c23 (by omega)
    · refine aj.aload_n dX12_laysWays_26 rfl ?_
      refine aj.iload dX12_laysWays_27 rfl ?_
      refine aj.iload dX12_laysWays_29 rfl ?_
      refine aj.sipush (v := 300) dX12_laysWays_31 rfl ?_
      refine aj.icmp_neN (a := i) (b := 300) (tgt := 41) dX12_laysWays_34 rfl rfl (by omega) (by omega) rfl (fun c34 => ?_) (fun c34 => ?_)
      · refine aj.lconst (v := 0) dX12_laysWays_41 rfl ?_
        refine sM23N (i := i) dX12_laysWays_42 hA rfl (by omega) (fun M hA => ?_)
        refine aj.iincN (a := i) (c := 1) (lv' := [(6, .int (nI (i + 1))), (5, .int (nI aim)), (4, .int (zb (op))), (0, .ref b), (1, .int x_s), (2, .int x_n), (3, .ref (b + 10))]) dX12_laysWays_43 rfl (Nat.le_of_ble_eq_true rfl) rfl rfl rfl ?_
        refine aj.goto (tgt := 18) dX12_laysWays_46 rfl ?_
        refine aj.pick [0, 1, 2, 3, 4, 5, 6] rfl ?_
        rw [bx_uu] at hA
        exact ih (i + 1) _ M (by omega) (fun k hk => if e : k = i then (by rw [e]; refine updL_s.trans ?_; show _ = lN (if (0 : Int) + 300 = (i : Int) then 1 else 0); rw [if_neg (by omega)]; rfl) else (by rw [updL_n e]; exact hg k (by omega))) ⟨_, _, _, hA⟩
      · refine aj.lconst (v := 1) dX12_laysWays_37 rfl ?_
        refine aj.goto (tgt := 42) dX12_laysWays_38 rfl ?_
        refine sM23N (i := i) dX12_laysWays_42 hA rfl (by omega) (fun M hA => ?_)
        refine aj.iincN (a := i) (c := 1) (lv' := [(6, .int (nI (i + 1))), (5, .int (nI aim)), (4, .int (zb (op))), (0, .ref b), (1, .int x_s), (2, .int x_n), (3, .ref (b + 10))]) dX12_laysWays_43 rfl (Nat.le_of_ble_eq_true rfl) rfl rfl rfl ?_
        refine aj.goto (tgt := 18) dX12_laysWays_46 rfl ?_
        refine aj.pick [0, 1, 2, 3, 4, 5, 6] rfl ?_
        rw [bx_uu] at hA
        exact ih (i + 1) _ M (by omega) (fun k hk => if e : k = i then (by rw [e]; refine updL_s.trans ?_; show _ = lN (if (0 : Int) + 300 = (i : Int) then 1 else 0); rw [if_pos (by omega)]; rfl) else (by rw [updL_n e]; exact hg k (by omega))) ⟨_, _, _, hA⟩
theorem lays23_l3 {G : zG} {l : Launch} {b : Nat} {M0 : zM} {I : Nat → Int32} {A : Nat → Nat → Int32} {L : Nat → Nat → Int64} {Q : Option Value → zM → Prop} (s : Nat) {x_s : Int32} (e_s : x_s = nI s) (n : Nat) {x_n : Int32} (e_n : x_n = nI n) (aim : Nat) (op : Prop) [Decidable op] {sl ol : Option (List Nat)} {T : Nat} (hB : mOK (A 1) sl ol T) (hs : s < 4) (haim : aim ≤ 20) (hn : n ≤ 3) (i : Nat) (g : Nat → Int64) (hk : ∀ (gt : Nat → Int64) (M : zM), (∀ k, k < 601 → gt k = 0) → mW b M0 M I A (va_up (va_up L 23 g) 24 gt) → aj G l kX12_laysWays 6 83 [(6, .int (nI i)), (5, .int (nI aim)), (4, .int (zb (op))), (0, .ref b), (1, .int x_s), (2, .int x_n), (3, .ref (b + 10))] [] M 0 0 Q) : ∀ (m k : Nat) (gt : Nat → Int64) (M : zM), k + m = 601 → (∀ j, j < k → gt j = 0) → mW b M0 M I A (va_up (va_up L 23 g) 24 gt) → aj G l kX12_laysWays 6 61 [(7, .int (nI k)), (6, .int (nI i)), (5, .int (nI aim)), (4, .int (zb (op))), (0, .ref b), (1, .int x_s), (2, .int x_n), (3, .ref (b + 10))] [] M 0 0 Q := by
  have hT := hB.2.2.2.2.2.2.2.2.1
  have hN6 := hB.2.2.1.2
  have hN25 := hB.2.2.2.2.2.1.2
  have hN26 := hB.2.2.2.2.2.2.1.2
  have hN27 := hB.2.2.2.2.2.2.2.1.2
  have hN1 := hB.1.1.2
  have hN2 := hB.1.2.1.2
  have hsc := mSc_bd (sl := sl) (s := s) (aim := aim) hB op
  intro m
  induction m with
  | zero =>
    intro k gt M hin hg hM
    obtain ⟨u, v, w, hA⟩ := hM
    refine aj.iload dX12_laysWays_61 rfl ?_
    refine aj.sipush (v := 601) dX12_laysWays_63 rfl ?_
    refine aj.icmp_geN (a := k) (b := 601) (tgt := 83) dX12_laysWays_66 rfl rfl (by omega) (by omega) rfl (fun c66 => ?_) (fun c66 => ?_)
    · refine aj.pick [1, 2, 3, 4, 5, 6, 7] rfl ?_
      exact hk gt M (fun j hj => hg j (by omega)) ⟨_, _, _, hA⟩
    · exact absurd c66 (by omega)
  | succ m ih =>
    intro k gt M hin hg hM
    obtain ⟨u, v, w, hA⟩ := hM
    refine aj.iload dX12_laysWays_61 rfl ?_
    refine aj.sipush (v := 601) dX12_laysWays_63 rfl ?_
    refine aj.icmp_geN (a := k) (b := 601) (tgt := 83) dX12_laysWays_66 rfl rfl (by omega) (by omega) rfl (fun c66 => ?_) (fun c66 => ?_)
    · exact absurd c66 (by omega)
    · refine aj.aload_n dX12_laysWays_69 rfl ?_
      refine gM24 rfl dX12_laysWays_70 hA ?_
      refine aj.iload dX12_laysWays_73 rfl ?_
      refine aj.lconst (v := 0) dX12_laysWays_75 rfl ?_
      refine sM24N (i := k) dX12_laysWays_76 hA rfl (by omega) (fun M hA => ?_)
      refine aj.iincN (a := k) (c := 1) (lv' := [(7, .int (nI (k + 1))), (6, .int (nI i)), (5, .int (nI aim)), (4, .int (zb (op))), (0, .ref b), (1, .int x_s), (2, .int x_n), (3, .ref (b + 10))]) dX12_laysWays_77 rfl (Nat.le_of_ble_eq_true rfl) rfl rfl rfl ?_
      refine aj.goto (tgt := 61) dX12_laysWays_80 rfl ?_
      refine aj.pick [0, 1, 2, 3, 4, 5, 6, 7] rfl ?_
      rw [bx_uu] at hA
      exact ih (k + 1) _ M (by omega) (fun j hj => if e : j = k then (by rw [e]; exact updL_s) else (by rw [updL_n e]; exact hg j (by omega))) ⟨_, _, _, hA⟩
theorem lays23_l5 {G : zG} {l : Launch} {b : Nat} {M0 : zM} {I : Nat → Int32} {A : Nat → Nat → Int32} {L : Nat → Nat → Int64} {Q : Option Value → zM → Prop} (s : Nat) {x_s : Int32} (e_s : x_s = nI s) (n : Nat) {x_n : Int32} (e_n : x_n = nI n) (aim : Nat) (op : Prop) [Decidable op] {sl ol : Option (List Nat)} {T : Nat} (hB : mOK (A 1) sl ol T) (hs : s < 4) (haim : aim ≤ 20) (hn : n ≤ 3) (i k : Nat) (g : Nat → Int64) (hi : i ≤ 2) (hk6 : k < 601) (hg : ∀ k, k < 601 → g k = lN (mWy (mSc (A 1) sl s aim op) i k)) (hk : ∀ (gt : Nat → Int64) (M : zM), (∀ t, t < 601 → gt t = lN (mTk (mSc (A 1) sl s aim op) i k 10 t)) → mW b M0 M I A (va_up (va_up L 23 g) 24 gt) → aj G l kX12_laysWays 6 149 [(7, .int (nI k)), (6, .int (nI i)), (5, .int (nI aim)), (4, .int (zb (op))), (0, .ref b), (1, .int x_s), (2, .int x_n), (3, .ref (b + 10))] [] M 0 0 Q) : ∀ (m j : Nat) (gt : Nat → Int64) (M : zM), j + m = 10 → (∀ t, t < 601 → gt t = lN (mTk (mSc (A 1) sl s aim op) i k j t)) → mW b M0 M I A (va_up (va_up L 23 g) 24 gt) → aj G l kX12_laysWays 6 97 [(8, .int (nI j)), (7, .int (nI k)), (6, .int (nI i)), (5, .int (nI aim)), (4, .int (zb (op))), (0, .ref b), (1, .int x_s), (2, .int x_n), (3, .ref (b + 10))] [] M 0 0 Q := by
  have hT := hB.2.2.2.2.2.2.2.2.1
  have hN6 := hB.2.2.1.2
  have hN25 := hB.2.2.2.2.2.1.2
  have hN26 := hB.2.2.2.2.2.2.1.2
  have hN27 := hB.2.2.2.2.2.2.2.1.2
  have hN1 := hB.1.1.2
  have hN2 := hB.1.2.1.2
  have hsc := mSc_bd (sl := sl) (s := s) (aim := aim) hB op
  intro m
  induction m with
  | zero =>
    intro j gt M hin hgt hM
    obtain ⟨u, v, w, hA⟩ := hM
    have hgk := hg k hk6
    have hwl := mWy_le (mSc (A 1) sl s aim op) i k
    have h102 : 10 ^ i ≤ 10 ^ 2 := Nat.pow_le_pow_right (by decide) hi
    refine aj.iload dX12_laysWays_97 rfl ?_
    refine aj.bipush (v := 10) dX12_laysWays_99 rfl ?_
    refine aj.icmp_geN (a := j) (b := 10) (tgt := 149) dX12_laysWays_101 rfl rfl (by omega) (by omega) rfl (fun c101 => ?_) (fun c101 => ?_)
    · refine aj.pick [1, 2, 3, 4, 5, 6, 7, 8] rfl ?_
      exact hk gt M (fun t ht => by rw [← show j = 10 by omega]; exact hgt t ht) ⟨_, _, _, hA⟩
    · exact absurd c101 (by omega)
  | succ m ih =>
    intro j gt M hin hgt hM
    obtain ⟨u, v, w, hA⟩ := hM
    have hgk := hg k hk6
    have hwl := mWy_le (mSc (A 1) sl s aim op) i k
    have h102 : 10 ^ i ≤ 10 ^ 2 := Nat.pow_le_pow_right (by decide) hi
    refine aj.iload dX12_laysWays_97 rfl ?_
    refine aj.bipush (v := 10) dX12_laysWays_99 rfl ?_
    refine aj.icmp_geN (a := j) (b := 10) (tgt := 149) dX12_laysWays_101 rfl rfl (by omega) (by omega) rfl (fun c101 => ?_) (fun c101 => ?_)
    · exact absurd c101 (by omega)
    · refine aj.aload_n dX12_laysWays_104 rfl ?_
      refine aj.iload dX12_laysWays_105 rfl ?_
      refine aM23N (i := k) dX12_laysWays_107 hA rfl (by omega) ?_
      refine aj.lconst (v := 0) dX12_laysWays_108 rfl ?_
      refine aj.lif_le (tgt := 149) dX12_laysWays_109 dX12_laysWays_110 rfl (fun c109 => ?_) (fun c109 => ?_)
      · refine aj.pick [1, 2, 3, 4, 5, 6, 7, 8] rfl ?_
        have hw0 : mWy (mSc (A 1) sl s aim op) i k = 0 := by
          apply Classical.byContradiction
          intro q
          exact c109 (by show 0 < g k; rw [hgk]; exact (z_l0 (by omega)).mpr (by omega))
        exact hk gt M (fun t ht => by rw [hgt t ht, mTk_w0 hw0]) ⟨_, _, _, hA⟩
      · have hw0 : mWy (mSc (A 1) sl s aim op) i k ≠ 0 := fun q => by
          have z : 0 < g k := c109
          rw [hgk, q] at z
          exact absurd z (by decide)
        have hwo := mWy_out (fun k _ => hsc k) hw0
        have hscj := hsc j
        obtain ⟨tg, htg⟩ : ∃ tg : Nat, (k : Int) + (mSc (A 1) sl s aim op) j = (tg : Int) := ⟨((k : Int) + (mSc (A 1) sl s aim op) j).toNat, by omega⟩
        have hidx := z_idx htg (by omega) (by omega)
        have hml : mLn (A 1) sl s aim j ≤ 20 := mLand_le _ _ _ _ _ _
        refine aj.aload_n dX12_laysWays_113 rfl ?_
        refine gM24 rfl dX12_laysWays_114 hA ?_
        refine aj.iload dX12_laysWays_117 rfl ?_
        refine aj.aload_n dX12_laysWays_119 rfl ?_
        refine aj.aload_n dX12_laysWays_120 rfl ?_
        refine aj.iload_n dX12_laysWays_121 rfl ?_
        refine aj.iload dX12_laysWays_122 rfl ?_
        refine aj.iload dX12_laysWays_124 rfl ?_
        refine aj.callV1 (d' := 3) (As := [.int x_s, .int (nI aim), .int (nI j)]) (rest := [.ref b, .int (nI k), .ref (b + 11)]) dX12_laysWays_126 v_X12_247 li_X12_landsNow hA.1 rfl rfl rfl (Nat.le_of_ble_eq_true rfl) (Nat.le_of_ble_eq_true rfl) (c_landsNow s e_s aim rfl j rfl ⟨_, _, _, hA⟩ hB (by omega) (by omega) (by omega)) (fun M hM => ?_)
        obtain ⟨u, v, w, hA⟩ := hM
        refine aj.iload dX12_laysWays_129 rfl ?_
        refine aj.callV1 (d' := 1) (As := [.int (nI (mLand sl (A 1 (13 + s)) (mN (A 1 (21 + s))) (mN (A 1 26)) aim j)), .int (zb (op))]) (rest := [.int (nI k), .ref (b + 11)]) dX12_laysWays_131 v_X12_254 li_X12_scoresAt hA.1 rfl rfl rfl (Nat.le_of_ble_eq_true rfl) (Nat.le_of_ble_eq_true rfl) (c_scoresAt (nI (mLand sl (A 1 (13 + s)) (mN (A 1 (21 + s))) (mN (A 1 26)) aim j)) (op) ⟨_, _, _, hA⟩) (fun M hM => ?_)
        obtain ⟨u, v, w, hA⟩ := hM
        refine aj.iadd dX12_laysWays_134 ?_
        refine aj.dup2 dX12_laysWays_135 rfl rfl ?_
        refine aM24N (i := tg) dX12_laysWays_136 hA hidx (by omega) ?_
        refine aj.aload_n dX12_laysWays_137 rfl ?_
        refine aj.iload dX12_laysWays_138 rfl ?_
        refine aM23N (i := k) dX12_laysWays_140 hA rfl (by omega) ?_
        refine aj.ladd dX12_laysWays_141 ?_
        refine sM24N (i := tg) dX12_laysWays_142 hA hidx (by omega) (fun M hA => ?_)
        refine aj.iincN (a := j) (c := 1) (lv' := [(8, .int (nI (j + 1))), (7, .int (nI k)), (6, .int (nI i)), (5, .int (nI aim)), (4, .int (zb (op))), (0, .ref b), (1, .int x_s), (2, .int x_n), (3, .ref (b + 10))]) dX12_laysWays_143 rfl (Nat.le_of_ble_eq_true rfl) rfl rfl rfl ?_
        refine aj.goto (tgt := 97) dX12_laysWays_146 rfl ?_
        refine aj.pick [0, 1, 2, 3, 4, 5, 6, 7, 8] rfl ?_
        rw [bx_uu] at hA
        exact ih (j + 1) _ M (by omega) (fun t ht => by
          by_cases e : t = tg
          · rw [e, mTk_hit htg]
            refine updL_s.trans ?_
            show gt tg + g k = _
            rw [hgt tg (by omega), hgk, lN_add]
          · rw [updL_n e, mTk_miss (fun z => e (by omega))]
            exact hgt t ht) ⟨_, _, _, hA⟩
theorem lays23_l4 {G : zG} {l : Launch} {b : Nat} {M0 : zM} {I : Nat → Int32} {A : Nat → Nat → Int32} {L : Nat → Nat → Int64} {Q : Option Value → zM → Prop} (s : Nat) {x_s : Int32} (e_s : x_s = nI s) (n : Nat) {x_n : Int32} (e_n : x_n = nI n) (aim : Nat) (op : Prop) [Decidable op] {sl ol : Option (List Nat)} {T : Nat} (hB : mOK (A 1) sl ol T) (hs : s < 4) (haim : aim ≤ 20) (hn : n ≤ 3) (i : Nat) (g : Nat → Int64) (hi : i ≤ 2) (hg : ∀ k, k < 601 → g k = lN (mWy (mSc (A 1) sl s aim op) i k)) (hk : ∀ (gt : Nat → Int64) (M : zM), (∀ t, t < 601 → gt t = lN (mWy (mSc (A 1) sl s aim op) (i + 1) t)) → mW b M0 M I A (va_up (va_up L 23 g) 24 gt) → aj G l kX12_laysWays 6 155 [(6, .int (nI i)), (5, .int (nI aim)), (4, .int (zb (op))), (0, .ref b), (1, .int x_s), (2, .int x_n), (3, .ref (b + 10))] [] M 0 0 Q) : ∀ (m k : Nat) (gt : Nat → Int64) (M : zM), k + m = 601 → (∀ t, t < 601 → gt t = lN (mTk (mSc (A 1) sl s aim op) i k 0 t)) → mW b M0 M I A (va_up (va_up L 23 g) 24 gt) → aj G l kX12_laysWays 6 86 [(7, .int (nI k)), (6, .int (nI i)), (5, .int (nI aim)), (4, .int (zb (op))), (0, .ref b), (1, .int x_s), (2, .int x_n), (3, .ref (b + 10))] [] M 0 0 Q := by
  have hT := hB.2.2.2.2.2.2.2.2.1
  have hN6 := hB.2.2.1.2
  have hN25 := hB.2.2.2.2.2.1.2
  have hN26 := hB.2.2.2.2.2.2.1.2
  have hN27 := hB.2.2.2.2.2.2.2.1.2
  have hN1 := hB.1.1.2
  have hN2 := hB.1.2.1.2
  have hsc := mSc_bd (sl := sl) (s := s) (aim := aim) hB op
  intro m
  induction m with
  | zero =>
    intro k gt M hin hgt hM
    obtain ⟨u, v, w, hA⟩ := hM
    refine aj.iload dX12_laysWays_86 rfl ?_
    refine aj.sipush (v := 601) dX12_laysWays_88 rfl ?_
    refine aj.icmp_geN (a := k) (b := 601) (tgt := 155) dX12_laysWays_91 rfl rfl (by omega) (by omega) rfl (fun c91 => ?_) (fun c91 => ?_)
    · refine aj.pick [1, 2, 3, 4, 5, 6, 7] rfl ?_
      exact hk gt M (fun t ht => by rw [hgt t ht, mTk_end (fun k _ => hsc k) hi k t (by omega)]) ⟨_, _, _, hA⟩
    · exact absurd c91 (by omega)
  | succ m ih =>
    intro k gt M hin hgt hM
    obtain ⟨u, v, w, hA⟩ := hM
    refine aj.iload dX12_laysWays_86 rfl ?_
    refine aj.sipush (v := 601) dX12_laysWays_88 rfl ?_
    refine aj.icmp_geN (a := k) (b := 601) (tgt := 155) dX12_laysWays_91 rfl rfl (by omega) (by omega) rfl (fun c91 => ?_) (fun c91 => ?_)
    · exact absurd c91 (by omega)
    · refine aj.iconst (v := 0) dX12_laysWays_94 rfl ?_
      refine aj.istore (lv' := [(8, .int 0), (7, .int (nI k)), (6, .int (nI i)), (5, .int (nI aim)), (4, .int (zb (op))), (0, .ref b), (1, .int x_s), (2, .int x_n), (3, .ref (b + 10))]) dX12_laysWays_95 (Nat.le_of_ble_eq_true rfl) rfl ?_
      refine aj.pick [0, 1, 2, 3, 4, 5, 6, 7, 8] rfl ?_
      refine lays23_l5 s e_s n e_n aim op hB hs haim hn i k g hi (by omega) hg (fun gt M hgt hM => ?_) 10 0 gt M (by omega) hgt ⟨_, _, _, hA⟩
      obtain ⟨u, v, w, hA⟩ := hM
      refine aj.iincN (a := k) (c := 1) (lv' := [(7, .int (nI (k + 1))), (6, .int (nI i)), (5, .int (nI aim)), (4, .int (zb (op))), (0, .ref b), (1, .int x_s), (2, .int x_n), (3, .ref (b + 10))]) dX12_laysWays_149 rfl (Nat.le_of_ble_eq_true rfl) rfl rfl rfl ?_
      refine aj.goto (tgt := 86) dX12_laysWays_152 rfl ?_
      refine aj.pick [0, 1, 2, 3, 4, 5, 6, 7] rfl ?_
      exact ih (k + 1) gt M (by omega) (fun t ht => by rw [hgt t ht, mTk_row]) ⟨_, _, _, hA⟩
theorem lays23_l6 {G : zG} {l : Launch} {b : Nat} {M0 : zM} {I : Nat → Int32} {A : Nat → Nat → Int32} {L : Nat → Nat → Int64} {Q : Option Value → zM → Prop} (s : Nat) {x_s : Int32} (e_s : x_s = nI s) (n : Nat) {x_n : Int32} (e_n : x_n = nI n) (aim : Nat) (op : Prop) [Decidable op] {sl ol : Option (List Nat)} {T : Nat} (hB : mOK (A 1) sl ol T) (hs : s < 4) (haim : aim ≤ 20) (hn : n ≤ 3) (i : Nat) (gt : Nat → Int64) (hk : ∀ (g : Nat → Int64) (M : zM), (∀ k, k < 601 → g k = gt k) → mW b M0 M I A (va_up (va_up L 23 g) 24 gt) → aj G l kX12_laysWays 6 183 [(6, .int (nI i)), (5, .int (nI aim)), (4, .int (zb (op))), (0, .ref b), (1, .int x_s), (2, .int x_n), (3, .ref (b + 10))] [] M 0 0 Q) : ∀ (m k : Nat) (g : Nat → Int64) (M : zM), k + m = 601 → (∀ j, j < k → g j = gt j) → mW b M0 M I A (va_up (va_up L 23 g) 24 gt) → aj G l kX12_laysWays 6 158 [(7, .int (nI k)), (6, .int (nI i)), (5, .int (nI aim)), (4, .int (zb (op))), (0, .ref b), (1, .int x_s), (2, .int x_n), (3, .ref (b + 10))] [] M 0 0 Q := by
  have hT := hB.2.2.2.2.2.2.2.2.1
  have hN6 := hB.2.2.1.2
  have hN25 := hB.2.2.2.2.2.1.2
  have hN26 := hB.2.2.2.2.2.2.1.2
  have hN27 := hB.2.2.2.2.2.2.2.1.2
  have hN1 := hB.1.1.2
  have hN2 := hB.1.2.1.2
  have hsc := mSc_bd (sl := sl) (s := s) (aim := aim) hB op
  intro m
  induction m with
  | zero =>
    intro k g M hin hg hM
    obtain ⟨u, v, w, hA⟩ := hM
    refine aj.iload dX12_laysWays_158 rfl ?_
    refine aj.sipush (v := 601) dX12_laysWays_160 rfl ?_
    refine aj.icmp_geN (a := k) (b := 601) (tgt := 183) dX12_laysWays_163 rfl rfl (by omega) (by omega) rfl (fun c163 => ?_) (fun c163 => ?_)
    · refine aj.pick [1, 2, 3, 4, 5, 6, 7] rfl ?_
      exact hk g M (fun j hj => hg j (by omega)) ⟨_, _, _, hA⟩
    · exact absurd c163 (by omega)
  | succ m ih =>
    intro k g M hin hg hM
    obtain ⟨u, v, w, hA⟩ := hM
    refine aj.iload dX12_laysWays_158 rfl ?_
    refine aj.sipush (v := 601) dX12_laysWays_160 rfl ?_
    refine aj.icmp_geN (a := k) (b := 601) (tgt := 183) dX12_laysWays_163 rfl rfl (by omega) (by omega) rfl (fun c163 => ?_) (fun c163 => ?_)
    · exact absurd c163 (by omega)
    · refine aj.aload_n dX12_laysWays_166 rfl ?_
      refine aj.iload dX12_laysWays_167 rfl ?_
      refine aj.aload_n dX12_laysWays_169 rfl ?_
      refine gM24 rfl dX12_laysWays_170 hA ?_
      refine aj.iload dX12_laysWays_173 rfl ?_
      refine aM24N (i := k) dX12_laysWays_175 hA rfl (by omega) ?_
      refine sM23N (i := k) dX12_laysWays_176 hA rfl (by omega) (fun M hA => ?_)
      refine aj.iincN (a := k) (c := 1) (lv' := [(7, .int (nI (k + 1))), (6, .int (nI i)), (5, .int (nI aim)), (4, .int (zb (op))), (0, .ref b), (1, .int x_s), (2, .int x_n), (3, .ref (b + 10))]) dX12_laysWays_177 rfl (Nat.le_of_ble_eq_true rfl) rfl rfl rfl ?_
      refine aj.goto (tgt := 158) dX12_laysWays_180 rfl ?_
      refine aj.pick [0, 1, 2, 3, 4, 5, 6, 7] rfl ?_
      rw [va_up_3 (by omega)] at hA
      exact ih (k + 1) _ M (by omega) (fun j hj => if e : j = k then (by rw [e]; exact updL_s) else (by rw [updL_n e]; exact hg j (by omega))) ⟨_, _, _, hA⟩
theorem lays23_l2 {G : zG} {l : Launch} {b : Nat} {M0 : zM} {I : Nat → Int32} {A : Nat → Nat → Int32} {L : Nat → Nat → Int64} {Q : Option Value → zM → Prop} (s : Nat) {x_s : Int32} (e_s : x_s = nI s) (n : Nat) {x_n : Int32} (e_n : x_n = nI n) (aim : Nat) (op : Prop) [Decidable op] {sl ol : Option (List Nat)} {T : Nat} (hB : mOK (A 1) sl ol T) (hs : s < 4) (haim : aim ≤ 20) (hn : n ≤ 3) (hk : ∀ (g gt : Nat → Int64) (M : zM), (∀ k, k < 601 → g k = lN (mWy (mSc (A 1) sl s aim op) n k)) → mW b M0 M I A (va_up (va_up L 23 g) 24 gt) → aj G l kX12_laysWays 6 189 [(5, .int (nI aim)), (4, .int (zb (op))), (0, .ref b), (1, .int x_s), (2, .int x_n), (3, .ref (b + 10))] [] M 0 0 Q) : ∀ (m i : Nat) (g gt : Nat → Int64) (M : zM), i + m = n → (∀ k, k < 601 → g k = lN (mWy (mSc (A 1) sl s aim op) i k)) → mW b M0 M I A (va_up (va_up L 23 g) 24 gt) → aj G l kX12_laysWays 6 52 [(6, .int (nI i)), (5, .int (nI aim)), (4, .int (zb (op))), (0, .ref b), (1, .int x_s), (2, .int x_n), (3, .ref (b + 10))] [] M 0 0 Q := by
  have hT := hB.2.2.2.2.2.2.2.2.1
  have hN6 := hB.2.2.1.2
  have hN25 := hB.2.2.2.2.2.1.2
  have hN26 := hB.2.2.2.2.2.2.1.2
  have hN27 := hB.2.2.2.2.2.2.2.1.2
  have hN1 := hB.1.1.2
  have hN2 := hB.1.2.1.2
  have hsc := mSc_bd (sl := sl) (s := s) (aim := aim) hB op
  intro m
  induction m with
  | zero =>
    intro i g gt M hin hg hM
    obtain ⟨u, v, w, hA⟩ := hM
    refine aj.iload dX12_laysWays_52 rfl ?_
    refine aj.iload_n dX12_laysWays_54 rfl ?_
    refine aj.icmp_geN (a := i) (b := n) (tgt := 189) dX12_laysWays_55 rfl e_n (by omega) (by omega) rfl (fun c55 => ?_) (fun c55 => ?_)
    · refine aj.pick [1, 2, 3, 4, 5, 6] rfl ?_
      rw [show i = n by omega] at hg
      exact hk g gt M hg ⟨_, _, _, hA⟩
    · exact absurd c55 (by omega)
  | succ m ih =>
    intro i g gt M hin hg hM
    obtain ⟨u, v, w, hA⟩ := hM
    refine aj.iload dX12_laysWays_52 rfl ?_
    refine aj.iload_n dX12_laysWays_54 rfl ?_
    refine aj.icmp_geN (a := i) (b := n) (tgt := 189) dX12_laysWays_55 rfl e_n (by omega) (by omega) rfl (fun c55 => ?_) (fun c55 => ?_)
    · exact absurd c55 (by omega)
    · refine aj.iconst (v := 0) dX12_laysWays_58 rfl ?_
      refine aj.istore (lv' := [(7, .int 0), (6, .int (nI i)), (5, .int (nI aim)), (4, .int (zb (op))), (0, .ref b), (1, .int x_s), (2, .int x_n), (3, .ref (b + 10))]) dX12_laysWays_59 (Nat.le_of_ble_eq_true rfl) rfl ?_
      refine aj.pick [0, 1, 2, 3, 4, 5, 6, 7] rfl ?_
      refine lays23_l3 s e_s n e_n aim op hB hs haim hn i g (fun gt M hgt hM => ?_) 601 0 gt M (by omega) (fun j hj => absurd hj (by omega)) ⟨_, _, _, hA⟩
      obtain ⟨u, v, w, hA⟩ := hM
      refine aj.iconst (v := 0) dX12_laysWays_83 rfl ?_
      refine aj.istore (lv' := [(7, .int 0), (6, .int (nI i)), (5, .int (nI aim)), (4, .int (zb (op))), (0, .ref b), (1, .int x_s), (2, .int x_n), (3, .ref (b + 10))]) dX12_laysWays_84 (Nat.le_of_ble_eq_true rfl) rfl ?_
      refine aj.pick [0, 1, 2, 3, 4, 5, 6, 7] rfl ?_
      refine lays23_l4 s e_s n e_n aim op hB hs haim hn i g (by omega) hg (fun gt M hgt hM => ?_) 601 0 gt M (by omega) (fun t ht => by rw [hgt t ht, mTk_00]; rfl) ⟨_, _, _, hA⟩
      obtain ⟨u, v, w, hA⟩ := hM
      refine aj.iconst (v := 0) dX12_laysWays_155 rfl ?_
      refine aj.istore (lv' := [(7, .int 0), (6, .int (nI i)), (5, .int (nI aim)), (4, .int (zb (op))), (0, .ref b), (1, .int x_s), (2, .int x_n), (3, .ref (b + 10))]) dX12_laysWays_156 (Nat.le_of_ble_eq_true rfl) rfl ?_
      refine aj.pick [0, 1, 2, 3, 4, 5, 6, 7] rfl ?_
      refine lays23_l6 s e_s n e_n aim op hB hs haim hn i gt (fun g M hg hM => ?_) 601 0 g M (by omega) (fun j hj => absurd hj (by omega)) ⟨_, _, _, hA⟩
      obtain ⟨u, v, w, hA⟩ := hM
      refine aj.iincN (a := i) (c := 1) (lv' := [(6, .int (nI (i + 1))), (5, .int (nI aim)), (4, .int (zb (op))), (0, .ref b), (1, .int x_s), (2, .int x_n), (3, .ref (b + 10))]) dX12_laysWays_183 rfl (Nat.le_of_ble_eq_true rfl) rfl rfl rfl ?_
      refine aj.goto (tgt := 52) dX12_laysWays_186 rfl ?_
      refine aj.pick [0, 1, 2, 3, 4, 5, 6] rfl ?_
      exact ih (i + 1) g gt M (by omega) (fun k hk => by rw [hg k hk]; exact hgt k hk) ⟨_, _, _, hA⟩
theorem lays23_end {G : zG} {l : Launch} {b : Nat} {M0 : zM} {I : Nat → Int32} {A : Nat → Nat → Int32} {L : Nat → Nat → Int64} (s : Nat) {x_s : Int32} (e_s : x_s = nI s) (n : Nat) {x_n : Int32} (e_n : x_n = nI n) (aim : Nat) (op : Prop) [Decidable op] {sl ol : Option (List Nat)} {T : Nat} (hB : mOK (A 1) sl ol T) (hs : s < 4) (haim : aim ≤ 20) (hn : n ≤ 3) (g : Nat → Int64) (M : zM) (hg : ∀ k, k < 601 → g k = lN (mWy (mSc (A 1) sl s aim op) 0 k)) (hM : mW b M0 M I A (va_up L 23 g)) : aj G l kX12_laysWays 6 49 [(5, .int (nI aim)), (4, .int (zb (op))), (0, .ref b), (1, .int x_s), (2, .int x_n), (3, .ref (b + 10))] [] M 0 0 (zv (fun M' => ∃ g gt : Nat → Int64, (∀ k, k < 601 → g k = lN (mWy (mSc (A 1) sl s aim op) n k)) ∧ mW b M0 M' I A (va_up (va_up L 23 g) 24 gt))) := by
  obtain ⟨u, v, w, hA⟩ := hM
  refine aj.iconst (v := 0) dX12_laysWays_49 rfl ?_
  refine aj.istore (lv' := [(6, .int 0), (5, .int (nI aim)), (4, .int (zb (op))), (0, .ref b), (1, .int x_s), (2, .int x_n), (3, .ref (b + 10))]) dX12_laysWays_50 (Nat.le_of_ble_eq_true rfl) rfl ?_
  refine aj.pick [0, 1, 2, 3, 4, 5, 6] rfl ?_
  exact lays23_l2 s e_s n e_n aim op hB hs haim hn (fun g gt M hg hM => aj.vret rfl dX12_laysWays_189 ⟨rfl, g, gt, hg, hM⟩) n 0 g (L 24) M (by omega) hg ⟨_, _, _, by rw [va_up_id' (by rw [va_up_ne _ _ (by omega)])]; exact hA⟩
theorem c_laysWays23 {G : zG} {l : Launch} {b : Nat} {M0 M : zM} {I : Nat → Int32} {A : Nat → Nat → Int32} {L : Nat → Nat → Int64} (s : Nat) {x_s : Int32} (e_s : x_s = nI s) (n : Nat) {x_n : Int32} (e_n : x_n = nI n) {sl ol : Option (List Nat)} {T : Nat} (hM : mW b M0 M I A L) (hB : mOK (A 1) sl ol T) (hs : s < 4) (hn : n ≤ 3) : am G l kX12_laysWays 6 [.ref b, .int x_s, .int x_n, .ref (b + 10)] M 0 0 (zv (fun M' => ∃ g gt : Nat → Int64, (∀ k, k < 601 → g k = lN (mWy (mSc (A 1) sl s (mBest (A 1) sl s (mN (A 1 (21 + s))) (mOpen ol (mN (A 1 26)) (mN (A 1 27)) (mN (A 1 25)) = true) 20) (mOpen ol (mN (A 1 26)) (mN (A 1 27)) (mN (A 1 25)) = true)) n k)) ∧ mW b M0 M' I A (va_up (va_up L 23 g) 24 gt))) := by
  obtain ⟨u, v, w, hA⟩ := hM
  have hT := hB.2.2.2.2.2.2.2.2.1
  have hN6 := hB.2.2.1.2
  have hN25 := hB.2.2.2.2.2.1.2
  have hN26 := hB.2.2.2.2.2.2.1.2
  have hN27 := hB.2.2.2.2.2.2.2.1.2
  have hN1 := hB.1.1.2
  have hN2 := hB.1.2.1.2
  have hb20 : mBest (A 1) sl s (mN (A 1 (21 + s))) (mOpen ol (mN (A 1 26)) (mN (A 1 27)) (mN (A 1 25)) = true) 20 ≤ 20 := zmax_le _ 20
  refine am.of (by decide) (Nat.le_of_ble_eq_true rfl) ?_
  refine aj.aload_n dX12_laysWays_0 rfl ?_
  refine aj.callV1 (d' := 3) (As := []) (rest := []) dX12_laysWays_1 v_X12_250 li_X12_isOpenNow hA.1 rfl rfl rfl (Nat.le_of_ble_eq_true rfl) (Nat.le_of_ble_eq_true rfl) (c_isOpenNow ⟨_, _, _, hA⟩ hB) (fun M hM => ?_)
  obtain ⟨u, v, w, hA⟩ := hM
  refine aj.istore (lv' := [(4, .int (zb (mOpen ol (mN (A 1 26)) (mN (A 1 27)) (mN (A 1 25)) = true))), (0, .ref b), (1, .int x_s), (2, .int x_n), (3, .ref (b + 10))]) dX12_laysWays_4 (Nat.le_of_ble_eq_true rfl) rfl ?_
  refine aj.aload_n dX12_laysWays_6 rfl ?_
  refine aj.iload_n dX12_laysWays_7 rfl ?_
  refine aj.iload dX12_laysWays_8 rfl ?_
  refine aj.callV1 (d' := 5) (As := [.int x_s, .int (zb (mOpen ol (mN (A 1 26)) (mN (A 1 27)) (mN (A 1 25)) = true))]) (rest := []) dX12_laysWays_10 v_X12_333 li_X12_bestNow hA.1 rfl rfl rfl (Nat.le_of_ble_eq_true rfl) (Nat.le_of_ble_eq_true rfl) (c_bestNow s e_s (mOpen ol (mN (A 1 26)) (mN (A 1 27)) (mN (A 1 25)) = true) ⟨_, _, _, hA⟩ hB (by omega)) (fun M hM => ?_)
  obtain ⟨u, v, w, hA⟩ := hM
  refine aj.istore (lv' := [(5, .int (nI (mBest (A 1) sl s (mN (A 1 (21 + s))) (mOpen ol (mN (A 1 26)) (mN (A 1 27)) (mN (A 1 25)) = true) 20))), (4, .int (zb (mOpen ol (mN (A 1 26)) (mN (A 1 27)) (mN (A 1 25)) = true))), (0, .ref b), (1, .int x_s), (2, .int x_n), (3, .ref (b + 10))]) dX12_laysWays_13 (Nat.le_of_ble_eq_true rfl) rfl ?_
  refine aj.iconst (v := 0) dX12_laysWays_15 rfl ?_
  refine aj.istore (lv' := [(6, .int 0), (5, .int (nI (mBest (A 1) sl s (mN (A 1 (21 + s))) (mOpen ol (mN (A 1 26)) (mN (A 1 27)) (mN (A 1 25)) = true) 20))), (4, .int (zb (mOpen ol (mN (A 1 26)) (mN (A 1 27)) (mN (A 1 25)) = true))), (0, .ref b), (1, .int x_s), (2, .int x_n), (3, .ref (b + 10))]) dX12_laysWays_16 (Nat.le_of_ble_eq_true rfl) rfl ?_
  refine aj.pick [0, 1, 2, 3, 4, 5, 6] rfl ?_
  exact lays23_l1 s e_s n e_n (mBest (A 1) sl s (mN (A 1 (21 + s))) (mOpen ol (mN (A 1 26)) (mN (A 1 27)) (mN (A 1 25)) = true) 20) (mOpen ol (mN (A 1 26)) (mN (A 1 27)) (mN (A 1 25)) = true) hB hs hb20 hn (fun g M hg hM => lays23_end s e_s n e_n (mBest (A 1) sl s (mN (A 1 (21 + s))) (mOpen ol (mN (A 1 26)) (mN (A 1 27)) (mN (A 1 25)) = true) 20) (mOpen ol (mN (A 1 26)) (mN (A 1 27)) (mN (A 1 25)) = true) hB hs hb20 hn g M hg hM) 601 0 (L 23) M (by omega) (fun k hk => absurd hk (by omega)) ⟨_, _, _, by rw [va_up_id]; exact hA⟩
