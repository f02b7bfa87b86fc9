abbrev strBad (L : Nat → Nat → Int64) (t k : Nat) : Prop := ¬ ((0 ≤ L 34 (40 * t + k) ∧ L 34 (40 * t + k) ≤ 999) ∧ (0 ≤ L 34 (40 * t + k) - L 34 (40 * t + k) / 100 * 100 ∧ L 34 (40 * t + k) - L 34 (40 * t + k) / 100 * 100 ≤ 20))
/-- the code by which a call on what has strayed is refused, 0 if it isn't -/
def mStrC (A : Nat → Nat → Int32) (L : Nat → Nat → Int64) (t s aim : Int32) : Int32 := if inR t 0 3 ∧ inR s 0 ((mN (A 1 6) : Int) - 1) ∧ inR aim 0 20 then (if A 32 (mN t) = -1 then -6 else if inR (A 33 (mN t)) 1 8 then (if zfirst (strBad L (mN t)) (mN (A 33 (mN t))) 0 = none then 0 else -3) else -4) else -2
def strOK (L : Nat → Nat → Int64) (t m : Nat) : Prop := m ≤ 8 ∧ ∀ k, k < m → L 34 (40 * t + k) = lN (psF L t k) ∧ psF L t k ≤ 999 ∧ psF L t k % 100 ≤ 20
theorem strOK_of {L : Nat → Nat → Int64} {t m : Nat} (hm : m ≤ 8) (h : zfirst (strBad L t) m 0 = none) : strOK L t m := by
  refine ⟨hm, fun k hk => ?_⟩
  have h1 := Classical.not_not.mp (zfirst_none h k (by omega) (by omega))
  have h2 := Int64.le_iff_toInt_le.mp h1.1.1
  have h3 := Int64.le_iff_toInt_le.mp h1.1.2
  have h4 := Int64.le_iff_toInt_le.mp h1.2.2
  have e0 : (0 : Int64).toInt = 0 := rfl
  have e1 : (999 : Int64).toInt = 999 := rfl
  have e2 : (20 : Int64).toInt = 20 := rfl
  have e3 : (100 : Int64).toInt = 100 := rfl
  rw [i64_rem _ _ (by rw [e3]; decide), e3, e2, Int.tmod_eq_emod_of_nonneg (by omega)] at h4
  exact ⟨i64_nat (by unfold psF; omega), by unfold psF; omega, by unfold psF; omega⟩
theorem mStrC_0 {A : Nat → Nat → Int32} {L : Nat → Nat → Int64} {t s aim : Int32} (h : mStrC A L t s aim = 0) : inR t 0 3 ∧ inR s 0 ((mN (A 1 6) : Int) - 1) ∧ inR aim 0 20 ∧ ¬ A 32 (mN t) = -1 ∧ inR (A 33 (mN t)) 1 8 ∧ zfirst (strBad L (mN t)) (mN (A 33 (mN t))) 0 = none := by
  unfold mStrC at h
  split at h
  · rename_i q
    split at h
    · exact absurd h (by decide)
    · rename_i q2
      split at h
      · rename_i q3
        split at h
        · rename_i q4
          exact ⟨q.1, q.2.1, q.2.2, q2, q3, q4⟩
        · exact absurd h (by decide)
      · exact absurd h (by decide)
  · exact absurd h (by decide)
/-- by a wind all that has strayed is as told -/
abbrev mBy (B : Nat → Int32) (sl : Option (List Nat)) (L : Nat → Nat → Int64) (t s aim wd n : Nat) : Prop := ∀ k, k < n → mLand sl (B (13 + s)) (mN (B (21 + s))) wd aim (psF L t k / 100) = psF L t k % 100
theorem mBy_s {B : Nat → Int32} {sl : Option (List Nat)} {L : Nat → Nat → Int64} {t s aim wd n : Nat} : mBy B sl L t s aim wd (n + 1) ↔ mBy B sl L t s aim wd n ∧ mLand sl (B (13 + s)) (mN (B (21 + s))) wd aim (psF L t n / 100) = psF L t n % 100 := by
  constructor
  · intro h
    exact ⟨fun k hk => h k (by omega), h n (by omega)⟩
  · intro h k hk
    by_cases e : k = n
    · rw [e]; exact h.2
    · exact h.1 k (by omega)
theorem zb_and1 {c : Prop} [Decidable c] : zb c &&& 1 = zb c := by unfold zb; split <;> rfl
theorem zb_and0 {c : Prop} [Decidable c] : zb c &&& 0 = 0 := by unfold zb; split <;> rfl
/-- the greatest of the first n -/
def nmx (f : Nat → Nat) : Nat → Nat
  | 0 => 0
  | n + 1 => max (nmx f n) (f n)
theorem nmx_s (f : Nat → Nat) (n : Nat) : nmx f (n + 1) = max (nmx f n) (f n) := rfl
theorem nmx_le {f : Nat → Nat} {c : Nat} : ∀ {n : Nat}, nmx f n ≤ c ↔ ∀ k, k < n → f k ≤ c
  | 0 => ⟨fun _ k hk => absurd hk (by omega), fun _ => Nat.zero_le _⟩
  | n + 1 => by
    rw [nmx_s, Nat.max_le, nmx_le (n := n)]
    constructor
    · intro h k hk
      by_cases e : k = n
      · rw [e]; exact h.2
      · exact h.1 k (by omega)
    · intro h
      exact ⟨fun k hk => h k (by omega), h n (by omega)⟩
theorem nmx_up {f g : Nat → Nat} {n p : Nat} (hp : p < n) (h1 : f p ≤ g p) (h2 : ∀ k, k ≠ p → g k = f k) : nmx g n = max (nmx f n) (g p) := by
  apply Nat.le_antisymm
  · rw [nmx_le]
    intro k hk
    by_cases e : k = p
    · rw [e]; exact Nat.le_max_right _ _
    · rw [h2 k e]
      exact Nat.le_trans (nmx_le.mp (Nat.le_refl _) k hk) (Nat.le_max_left _ _)
  · rw [Nat.max_le, nmx_le]
    refine ⟨fun k hk => ?_, nmx_le.mp (Nat.le_refl _) p hp⟩
    by_cases e : k = p
    · rw [e]; exact Nat.le_trans h1 (nmx_le.mp (Nat.le_refl _) p hp)
    · rw [← h2 k e]; exact nmx_le.mp (Nat.le_refl _) k hk
theorem nmx_congr {f g : Nat → Nat} : ∀ {n : Nat}, (∀ k, k < n → f k = g k) → nmx f n = nmx g n
  | 0, _ => rfl
  | n + 1, h => by rw [nmx_s, nmx_s, nmx_congr (n := n) (fun k hk => h k (by omega)), h n (by omega)]
/-- by how many winds of a set a lot lands at a place; the greatest of these -/
abbrev mWc (B : Nat → Int32) (sl : Option (List Nat)) (f : Nat → Prop) [DecidablePred f] (s aim lot k n : Nat) : Nat := zcnt (fun wd => (wd < 10 ∧ f wd) ∧ mLand sl (B (13 + s)) (mN (B (21 + s))) wd aim lot = k) n
abbrev mOft (B : Nat → Int32) (sl : Option (List Nat)) (f : Nat → Prop) [DecidablePred f] (s aim lot n : Nat) : Nat := nmx (fun k => mWc B sl f s aim lot k n) 21
theorem noStr_loop {G : zG} {l : Launch} {b : Nat} {M0 : zM} {I : Nat → Int32} {A : Nat → Nat → Int32} {L : Nat → Nat → Int64} (t : Nat) {x_t : Int32} (e_t : x_t = nI t) (m : Nat) (r : Option Nat) (ht : t < 4) (hm : A 33 t = nI m) (hm8 : m ≤ 8) : ∀ (n i : Nat)  (M : zM), i + n = m → zfirst (strBad L t) n i = r → mW b M0 M I A L → aj G l kX12_noStrayed 2 70 [(5, .int (nI i)), (0, .ref b), (1, .int x_t)] [] M 0 0 (zr (.int (if r = none then 0 else -3)) (fun M' => mW b M0 M' I A L)) := by
  intro n
  induction n with
  | zero =>
    intro i M hin hz hM
    obtain ⟨u, v, w, hA⟩ := hM
    refine aj.iload dX12_noStrayed_70 rfl ?_
    refine aj.aload_n dX12_noStrayed_72 rfl ?_
    refine gM33 rfl dX12_noStrayed_73 hA ?_
    refine aj.iload_n dX12_noStrayed_76 rfl ?_
    refine aM33N (i := t) dX12_noStrayed_77 hA e_t (by omega) ?_
    refine aj.icmp_geN (a := i) (b := m) (tgt := 128) dX12_noStrayed_78 rfl hm (by omega) (by omega) rfl (fun c78 => ?_) (fun c78 => ?_)
    · refine aj.iconst (v := 0) dX12_noStrayed_128 rfl ?_
      exact aj.iret rfl dX12_noStrayed_129 ⟨by rw [if_pos (by rw [← hz]; rfl)], _, _, _, hA⟩
    · exact absurd c78 (by omega)
  | succ n ih =>
    intro i M hin hz hM
    obtain ⟨u, v, w, hA⟩ := hM
    refine aj.iload dX12_noStrayed_70 rfl ?_
    refine aj.aload_n dX12_noStrayed_72 rfl ?_
    refine gM33 rfl dX12_noStrayed_73 hA ?_
    refine aj.iload_n dX12_noStrayed_76 rfl ?_
    refine aM33N (i := t) dX12_noStrayed_77 hA e_t (by omega) ?_
    refine aj.icmp_geN (a := i) (b := m) (tgt := 128) dX12_noStrayed_78 rfl hm (by omega) (by omega) rfl (fun c78 => ?_) (fun c78 => ?_)
    · exact absurd c78 (by omega)
    · refine aj.aload_n dX12_noStrayed_81 rfl ?_
      refine gM34 rfl dX12_noStrayed_82 hA ?_
      refine aj.bipush (v := 40) dX12_noStrayed_85 rfl ?_
      refine aj.iload_n dX12_noStrayed_87 rfl ?_
      refine aj.imulN (a := 40) (b := t) dX12_noStrayed_88 rfl e_t ?_
      refine aj.iload dX12_noStrayed_89 rfl ?_
      refine aj.iaddN (a := 40 * t) (b := i) dX12_noStrayed_91 rfl rfl ?_
      refine aM34N (i := (40 * t) + i) dX12_noStrayed_92 hA rfl (by omega) ?_
      refine aj.lstore (lv' := [(6, .long (L 34 ((40 * t) + i))), (5, .int (nI i)), (0, .ref b), (1, .int x_t)]) dX12_noStrayed_93 (Nat.le_of_ble_eq_true rfl) rfl ?_
      refine aj.lload dX12_noStrayed_95 rfl ?_
      refine aj.lconst (v := 0) dX12_noStrayed_97 rfl ?_
      refine aj.ldc2 dX12_noStrayed_98 w1801 ?_
      refine aj.callS1 (d' := 0) (As := [.long (L 34 ((40 * t) + i)), .long 0, .long 999]) (rest := []) dX12_noStrayed_101 v_X12_142 w1380 rfl rfl (Nat.le_of_ble_eq_true rfl) (Nat.le_of_ble_eq_true rfl) (c_within _ (L 34 ((40 * t) + i)) 0 999) (fun M hM => ?_)
      subst hM
      refine aj.if_eqB (tgt := 119) dX12_noStrayed_104 rfl (fun c104 => ?_) (fun c104 => ?_)
      · refine aj.bipush (v := (-3)) dX12_noStrayed_119 rfl ?_
        exact aj.iret rfl dX12_noStrayed_121 ⟨by rw [if_neg (by rw [← hz, zfirst_s, if_pos (fun z => c104 z.1)]; exact fun z => nomatch z)], _, _, _, hA⟩
      · refine aj.lload dX12_noStrayed_107 rfl ?_
        refine aj.ldc2 dX12_noStrayed_109 w1802 ?_
        refine aj.lrem dX12_noStrayed_112 (by decide) ?_
        refine aj.callS1 (d' := 1) (As := [.long ((L 34 ((40 * t) + i)) - (L 34 ((40 * t) + i)) / 100 * 100)]) (rest := []) dX12_noStrayed_113 v_X12_241 w1506 rfl rfl (Nat.le_of_ble_eq_true rfl) (Nat.le_of_ble_eq_true rfl) (c_isPlace _ ((L 34 ((40 * t) + i)) - (L 34 ((40 * t) + i)) / 100 * 100)) (fun M hM => ?_)
        subst hM
        refine aj.if_neB (tgt := 122) dX12_noStrayed_116 rfl (fun c116 => ?_) (fun c116 => ?_)
        · refine aj.iincN (a := i) (c := 1) (lv' := [(5, .int (nI (i + 1))), (6, .long (L 34 ((40 * t) + i))), (0, .ref b), (1, .int x_t)]) dX12_noStrayed_122 rfl (Nat.le_of_ble_eq_true rfl) rfl rfl rfl ?_
          refine aj.goto (tgt := 70) dX12_noStrayed_125 rfl ?_
          refine aj.pick [0, 2, 3] rfl ?_
          exact ih (i + 1)  M (by omega) (by rw [← hz, zfirst_s, if_neg (fun z => z ⟨c104, c116⟩)]) ⟨_, _, _, hA⟩
        · refine aj.bipush (v := (-3)) dX12_noStrayed_119 rfl ?_
          exact aj.iret rfl dX12_noStrayed_121 ⟨by rw [if_neg (by rw [← hz, zfirst_s, if_pos (fun z => c116 z.2)]; exact fun z => nomatch z)], _, _, _, hA⟩
theorem q_noStrayed {G : zG} {l : Launch} {b : Nat} {M0 M : zM} {I : Nat → Int32} {A : Nat → Nat → Int32} {L : Nat → Nat → Int64} (t : Int32) (s : Int32) (aim : Int32) (hM : mW b M0 M I A L) (hTr : ∀ j, j < 4 → bd (A 33 j) 40) {sl ol : Option (List Nat)} {T : Nat} (hB : mOK (A 1) sl ol T) : am G l kX12_noStrayed 2 [.ref b, .int t, .int s, .int aim] M 0 0 (zr (.int (mStrC A L t s aim)) (fun M' => mW b M0 M' I A L)) := by
  obtain ⟨u, v, w, hA⟩ := hM
  have hT := hB.2.2.2.2.2.2.2.2.1
  have hN6 := hB.2.2.1.2
  have hN25 := hB.2.2.2.2.2.1.2
  have hN26 := hB.2.2.2.2.2.2.1.2
  have hN27 := hB.2.2.2.2.2.2.2.1.2
  have hN1 := hB.1.1.2
  have hN2 := hB.1.2.1.2
  refine am.of (by decide) (Nat.le_of_ble_eq_true rfl) ?_
  refine aj.iload_n dX12_noStrayed_0 rfl ?_
  refine aj.i2l dX12_noStrayed_1 ?_
  refine aj.lconst (v := 0) dX12_noStrayed_2 rfl ?_
  refine aj.ldc2 dX12_noStrayed_3 w1608 ?_
  refine aj.callS1 (d' := 0) (As := [.long (Int32.toInt64 t), .long 0, .long 3]) (rest := []) dX12_noStrayed_6 v_X12_142 w1380 rfl rfl (Nat.le_of_ble_eq_true rfl) (Nat.le_of_ble_eq_true rfl) (c_withinI (a := 0) (c := 3) _ t 0 3 rfl rfl) (fun M hM => ?_)
  subst hM
  refine aj.if_eqB (tgt := 29) dX12_noStrayed_9 rfl (fun c9 => ?_) (fun c9 => ?_)
  · refine aj.bipush (v := (-2)) dX12_noStrayed_29 rfl ?_
    exact aj.iret rfl dX12_noStrayed_31 ⟨by unfold mStrC; rw [if_neg (fun z => c9 z.1)], _, _, _, hA⟩
  · have h_t := inR_bd (n := 3) c9 (by decide)
    have h2_t := h_t.2
    refine aj.aload_n dX12_noStrayed_12 rfl ?_
    refine aj.iload_n dX12_noStrayed_13 rfl ?_
    refine aj.i2l dX12_noStrayed_14 ?_
    refine aj.callV1 (d' := 1) (As := [.long (Int32.toInt64 s)]) (rest := []) dX12_noStrayed_15 v_X12_236 li_X12_isShooter hA.1 rfl rfl rfl (Nat.le_of_ble_eq_true rfl) (Nat.le_of_ble_eq_true rfl) (c_isShooter s ⟨_, _, _, hA⟩ hB) (fun M hM => ?_)
    obtain ⟨u, v, w, hA⟩ := hM
    refine aj.if_eqB (tgt := 29) dX12_noStrayed_18 rfl (fun c18 => ?_) (fun c18 => ?_)
    · refine aj.bipush (v := (-2)) dX12_noStrayed_29 rfl ?_
      exact aj.iret rfl dX12_noStrayed_31 ⟨by unfold mStrC; rw [if_neg (fun z => c18 z.2.1)], _, _, _, hA⟩
    · have h_s := inR_bdS c18 (by omega)
      have h2_s := h_s.2
      refine aj.iload_n dX12_noStrayed_21 rfl ?_
      refine aj.i2l dX12_noStrayed_22 ?_
      refine aj.callS1 (d' := 1) (As := [.long (Int32.toInt64 aim)]) (rest := []) dX12_noStrayed_23 v_X12_241 w1506 rfl rfl (Nat.le_of_ble_eq_true rfl) (Nat.le_of_ble_eq_true rfl) (c_isPlaceI _ aim) (fun M hM => ?_)
      subst hM
      refine aj.if_neB (tgt := 32) dX12_noStrayed_26 rfl (fun c26 => ?_) (fun c26 => ?_)
      · have h_aim := inR_bd (n := 20) c26 (by decide)
        have h2_aim := h_aim.2
        refine aj.aload_n dX12_noStrayed_32 rfl ?_
        refine aj.iload_n dX12_noStrayed_33 rfl ?_
        refine aj.callV1 (d' := 1) (As := [.int t]) (rest := []) dX12_noStrayed_34 v_X12_294 li_X12_noTray hA.1 rfl rfl rfl (Nat.le_of_ble_eq_true rfl) (Nat.le_of_ble_eq_true rfl) (q_noTray t ⟨_, _, _, hA⟩ hB) (fun M hM => ?_)
        obtain ⟨u, v, w, hA⟩ := hM
        refine aj.istore (lv' := [(4, .int (if inR t 0 3 then (if A 32 (mN t) = -1 then (-6 : Int32) else 0) else -2)), (0, .ref b), (1, .int t), (2, .int s), (3, .int aim)]) dX12_noStrayed_37 (Nat.le_of_ble_eq_true rfl) rfl ?_
        refine aj.iload dX12_noStrayed_39 rfl ?_
        refine aj.if_eq (tgt := 47) dX12_noStrayed_41 rfl (fun c41 => ?_) (fun c41 => ?_)
        · have g2 : ¬ A 32 (mN t) = -1 := fun q => by rw [if_pos c9, if_pos q] at c41; exact absurd c41 (by decide)
          have hm40 := (hTr (mN t) (by omega)).2
          refine aj.aload_n dX12_noStrayed_47 rfl ?_
          refine gM33 rfl dX12_noStrayed_48 hA ?_
          refine aj.iload_n dX12_noStrayed_51 rfl ?_
          refine aM33N (i := mN t) dX12_noStrayed_52 hA h_t.1 (by omega) ?_
          refine aj.i2l dX12_noStrayed_53 ?_
          refine aj.lconst (v := 1) dX12_noStrayed_54 rfl ?_
          refine aj.ldc2 dX12_noStrayed_55 w1763 ?_
          refine aj.callS1 (d' := 0) (As := [.long (Int32.toInt64 (A 33 (mN t))), .long 1, .long 8]) (rest := []) dX12_noStrayed_58 v_X12_142 w1380 rfl rfl (Nat.le_of_ble_eq_true rfl) (Nat.le_of_ble_eq_true rfl) (c_withinI (a := 1) (c := 8) _ (A 33 (mN t)) 1 8 rfl rfl) (fun M hM => ?_)
          subst hM
          refine aj.if_neB (tgt := 67) dX12_noStrayed_61 rfl (fun c61 => ?_) (fun c61 => ?_)
          · have hm8 := (inR_bd1 (n := 8) c61 (by decide)).2.1
            refine aj.iconst (v := 0) dX12_noStrayed_67 rfl ?_
            refine aj.istore (lv' := [(5, .int 0), (4, .int (if inR t 0 3 then (if A 32 (mN t) = -1 then (-6 : Int32) else 0) else -2)), (0, .ref b), (1, .int t), (2, .int s), (3, .int aim)]) dX12_noStrayed_68 (Nat.le_of_ble_eq_true rfl) rfl ?_
            refine aj.pick [0, 2, 3] rfl ?_
            unfold mStrC
            rw [if_pos (⟨c9, c18, c26⟩ : _ ∧ _ ∧ _), if_neg g2, if_neg g2, if_pos c61]
            exact noStr_loop (mN t) h_t.1 (mN (A 33 (mN t))) _ (by omega) (hTr (mN t) (by omega)).1 hm8 (mN (A 33 (mN t))) 0 M (by omega) rfl ⟨_, _, _, hA⟩
          · refine aj.bipush (v := (-4)) dX12_noStrayed_64 rfl ?_
            exact aj.iret rfl dX12_noStrayed_66 ⟨by unfold mStrC; rw [if_pos (⟨c9, c18, c26⟩ : _ ∧ _ ∧ _), if_neg g2, if_neg c61], _, _, _, hA⟩
        · refine aj.iload dX12_noStrayed_44 rfl ?_
          exact aj.iret rfl dX12_noStrayed_46 ⟨by unfold mStrC; rw [if_pos (⟨c9, c18, c26⟩ : _ ∧ _ ∧ _)]; by_cases c2 : A 32 (mN t) = -1; (rw [if_pos c9, if_pos c2, if_pos c2]); exact absurd (by rw [if_pos c9, if_neg c2]) c41, _, _, _, hA⟩
      · refine aj.bipush (v := (-2)) dX12_noStrayed_29 rfl ?_
        exact aj.iret rfl dX12_noStrayed_31 ⟨by unfold mStrC; rw [if_neg (fun z => c26 z.2.2)], _, _, _, hA⟩
theorem winds_in {G : zG} {l : Launch} {b : Nat} {M0 : zM} {I : Nat → Int32} {A : Nat → Nat → Int32} {L : Nat → Nat → Int64} {Q : Option Value → zM → Prop} (t : Nat) {x_t : Int32} (e_t : x_t = nI t) (s : Nat) {x_s : Int32} (e_s : x_s = nI s) (aim : Nat) {x_aim : Int32} (e_aim : x_aim = nI aim) (m wd : Nat) (set : Int32) {sl ol : Option (List Nat)} {T : Nat} (hB : mOK (A 1) sl ol T) (ht : t < 4) (hs : s < 4) (haim : aim ≤ 20) (hm : A 33 t = nI m) (hok : strOK L t m) (hwd : wd ≤ 9) (hk : ∀ M, mW b M0 M I A L → aj G l kX12_windsOf 3 91 [(6, .int (zb (mBy (A 1) sl L t s aim wd m))), (5, .int (nI wd)), (4, .int set), (0, .ref b), (1, .int x_t), (2, .int x_s), (3, .int x_aim)] [] M 0 0 Q) : ∀ (n i : Nat) (acc : Int32) (M : zM), i + n = m → acc = zb (mBy (A 1) sl L t s aim wd i) → mW b M0 M I A L → aj G l kX12_windsOf 3 19 [(7, .int (nI i)), (6, .int acc), (5, .int (nI wd)), (4, .int set), (0, .ref b), (1, .int x_t), (2, .int x_s), (3, .int x_aim)] [] M 0 0 Q := by
  have hm8 := hok.1
  have hag := (hB.2.2.2.2.1 s hs).2
  have hT := hB.2.2.2.2.2.2.2.2.1
  have hN6 := hB.2.2.1.2
  have hN25 := hB.2.2.2.2.2.1.2
  have hN26 := hB.2.2.2.2.2.2.1.2
  have hN27 := hB.2.2.2.2.2.2.2.1.2
  have hN1 := hB.1.1.2
  have hN2 := hB.1.2.1.2
  intro n
  induction n with
  | zero =>
    intro i acc M hin hacc hM
    obtain ⟨u, v, w, hA⟩ := hM
    rw [show i = m by omega] at hacc
    subst hacc
    refine aj.iload dX12_windsOf_19 rfl ?_
    refine aj.aload_n dX12_windsOf_21 rfl ?_
    refine gM33 rfl dX12_windsOf_22 hA ?_
    refine aj.iload_n dX12_windsOf_25 rfl ?_
    refine aM33N (i := t) dX12_windsOf_26 hA e_t (by omega) ?_
    refine aj.icmp_geN (a := i) (b := m) (tgt := 91) dX12_windsOf_27 rfl hm (by omega) (by omega) rfl (fun c27 => ?_) (fun c27 => ?_)
    · refine aj.pick [1, 2, 3, 4, 5, 6, 7] rfl ?_
      exact hk M ⟨_, _, _, hA⟩
    · exact absurd c27 (by omega)
  | succ n ih =>
    intro i acc M hin hacc hM
    obtain ⟨u, v, w, hA⟩ := hM
    obtain ⟨hp1, hp2, hp3⟩ := hok.2 i (by omega)
    have hml : mLand sl (A 1 (13 + s)) (mN (A 1 (21 + s))) wd aim (psF L t i / 100) ≤ 20 := mLand_le _ _ _ _ _ _
    refine aj.iload dX12_windsOf_19 rfl ?_
    refine aj.aload_n dX12_windsOf_21 rfl ?_
    refine gM33 rfl dX12_windsOf_22 hA ?_
    refine aj.iload_n dX12_windsOf_25 rfl ?_
    refine aM33N (i := t) dX12_windsOf_26 hA e_t (by omega) ?_
    refine aj.icmp_geN (a := i) (b := m) (tgt := 91) dX12_windsOf_27 rfl hm (by omega) (by omega) rfl (fun c27 => ?_) (fun c27 => ?_)
    · exact absurd c27 (by omega)
    · refine aj.aload_n dX12_windsOf_30 rfl ?_
      refine gM34 rfl dX12_windsOf_31 hA ?_
      refine aj.bipush (v := 40) dX12_windsOf_34 rfl ?_
      refine aj.iload_n dX12_windsOf_36 rfl ?_
      refine aj.imulN (a := 40) (b := t) dX12_windsOf_37 rfl e_t ?_
      refine aj.iload dX12_windsOf_38 rfl ?_
      refine aj.iaddN (a := 40 * t) (b := i) dX12_windsOf_40 rfl rfl ?_
      refine aM34N (i := (40 * t) + i) dX12_windsOf_41 hA rfl (by omega) ?_
      refine aj.l2iN (a := psF L t i) dX12_windsOf_42 hp1 ?_
      refine aj.istore (lv' := [(8, .int (nI (psF L t i))), (7, .int (nI i)), (6, .int acc), (5, .int (nI wd)), (4, .int set), (0, .ref b), (1, .int x_t), (2, .int x_s), (3, .int x_aim)]) dX12_windsOf_43 (Nat.le_of_ble_eq_true rfl) rfl ?_
      refine aj.iload dX12_windsOf_45 rfl ?_
      refine aj.aload_n dX12_windsOf_47 rfl ?_
      refine aj.iload_n dX12_windsOf_48 rfl ?_
      refine aj.iload_n dX12_windsOf_49 rfl ?_
      refine aj.iload dX12_windsOf_50 rfl ?_
      refine aj.bipush (v := 100) dX12_windsOf_52 rfl ?_
      refine aj.idivN (a := psF L t i) (b := 100) dX12_windsOf_54 rfl rfl (by omega) (by omega) (by omega) ?_
      refine aj.aload_n dX12_windsOf_55 rfl ?_
      refine gM1 rfl dX12_windsOf_56 hA ?_
      refine aj.bipush (v := 21) dX12_windsOf_59 rfl ?_
      refine aj.iload_n dX12_windsOf_61 rfl ?_
      refine aj.iaddN (a := 21) (b := s) dX12_windsOf_62 rfl e_s ?_
      refine aM1N (i := 21 + s) dX12_windsOf_63 hA rfl (by omega) ?_
      refine aj.iload dX12_windsOf_64 rfl ?_
      refine aj.callV1 (d' := 2) (As := [.int x_s, .int x_aim, .int (nI ((psF L t i) / 100)), .int (A 1 (21 + s)), .int (nI wd)]) (rest := [.int acc]) dX12_windsOf_66 v_X12_225 li_X12_landsBy hA.1 rfl rfl rfl (Nat.le_of_ble_eq_true rfl) (Nat.le_of_ble_eq_true rfl) (c_landsBy s e_s aim e_aim ((psF L t i) / 100) rfl (mN (A 1 (21 + s))) ((hB.2.2.2.2.1 s hs).1) wd rfl ⟨_, _, _, hA⟩ hB (by omega) (by omega) (by omega) (by omega) (by omega)) (fun M hM => ?_)
      obtain ⟨u, v, w, hA⟩ := hM
      refine aj.iload dX12_windsOf_69 rfl ?_
      refine aj.bipush (v := 100) dX12_windsOf_71 rfl ?_
      refine aj.iremN (a := psF L t i) (b := 100) dX12_windsOf_73 rfl rfl (by omega) (by omega) (by omega) ?_
      refine aj.icmp_neN (a := mLand sl (A 1 (13 + s)) (mN (A 1 (21 + s))) wd aim ((psF L t i) / 100)) (b := (psF L t i) % 100) (tgt := 81) dX12_windsOf_74 rfl rfl (by omega) (by omega) rfl (fun c74 => ?_) (fun c74 => ?_)
      · refine aj.iconst (v := 0) dX12_windsOf_81 rfl ?_
        refine aj.iand dX12_windsOf_82 ?_
        refine aj.istore (lv' := [(6, .int (acc &&& 0)), (8, .int (nI (psF L t i))), (7, .int (nI i)), (5, .int (nI wd)), (4, .int set), (0, .ref b), (1, .int x_t), (2, .int x_s), (3, .int x_aim)]) dX12_windsOf_83 (Nat.le_of_ble_eq_true rfl) rfl ?_
        refine aj.iincN (a := i) (c := 1) (lv' := [(7, .int (nI (i + 1))), (6, .int (acc &&& 0)), (8, .int (nI (psF L t i))), (5, .int (nI wd)), (4, .int set), (0, .ref b), (1, .int x_t), (2, .int x_s), (3, .int x_aim)]) dX12_windsOf_85 rfl (Nat.le_of_ble_eq_true rfl) rfl rfl rfl ?_
        refine aj.goto (tgt := 19) dX12_windsOf_88 rfl ?_
        refine aj.pick [0, 1, 3, 4, 5, 6, 7, 8] rfl ?_
        exact ih (i + 1) _ M (by omega) (by rw [hacc, zb_and0, zb_f (fun z => c74 (mBy_s.mp z).2)]) ⟨_, _, _, hA⟩
      · refine aj.iconst (v := 1) dX12_windsOf_77 rfl ?_
        refine aj.goto (tgt := 82) dX12_windsOf_78 rfl ?_
        refine aj.iand dX12_windsOf_82 ?_
        refine aj.istore (lv' := [(6, .int (acc &&& 1)), (8, .int (nI (psF L t i))), (7, .int (nI i)), (5, .int (nI wd)), (4, .int set), (0, .ref b), (1, .int x_t), (2, .int x_s), (3, .int x_aim)]) dX12_windsOf_83 (Nat.le_of_ble_eq_true rfl) rfl ?_
        refine aj.iincN (a := i) (c := 1) (lv' := [(7, .int (nI (i + 1))), (6, .int (acc &&& 1)), (8, .int (nI (psF L t i))), (5, .int (nI wd)), (4, .int set), (0, .ref b), (1, .int x_t), (2, .int x_s), (3, .int x_aim)]) dX12_windsOf_85 rfl (Nat.le_of_ble_eq_true rfl) rfl rfl rfl ?_
        refine aj.goto (tgt := 19) dX12_windsOf_88 rfl ?_
        refine aj.pick [0, 1, 3, 4, 5, 6, 7, 8] rfl ?_
        exact ih (i + 1) _ M (by omega) (by rw [hacc, zb_and1]; exact zb_iff ⟨fun z => mBy_s.mpr ⟨z, c74⟩, fun z => (mBy_s.mp z).1⟩) ⟨_, _, _, hA⟩
theorem winds_out {G : zG} {l : Launch} {b : Nat} {M0 : zM} {I : Nat → Int32} {A : Nat → Nat → Int32} {L : Nat → Nat → Int64} (t : Nat) {x_t : Int32} (e_t : x_t = nI t) (s : Nat) {x_s : Int32} (e_s : x_s = nI s) (aim : Nat) {x_aim : Int32} (e_aim : x_aim = nI aim) (m : Nat) {sl ol : Option (List Nat)} {T : Nat} (hB : mOK (A 1) sl ol T) (ht : t < 4) (hs : s < 4) (haim : aim ≤ 20) (hm : A 33 t = nI m) (hok : strOK L t m) : ∀ (n i : Nat) (set : Int32) (M : zM), i + n = 10 → set = zbits (fun wd => mBy (A 1) sl L t s aim wd m) i → mW b M0 M I A L → aj G l kX12_windsOf 3 6 [(5, .int (nI i)), (4, .int set), (0, .ref b), (1, .int x_t), (2, .int x_s), (3, .int x_aim)] [] M 0 0 (zr (.int (zbits (fun wd => mBy (A 1) sl L t s aim wd m) 10)) (fun M' => mW b M0 M' I A L)) := by
  have hT := hB.2.2.2.2.2.2.2.2.1
  have hN6 := hB.2.2.1.2
  have hN25 := hB.2.2.2.2.2.1.2
  have hN26 := hB.2.2.2.2.2.2.1.2
  have hN27 := hB.2.2.2.2.2.2.2.1.2
  have hN1 := hB.1.1.2
  have hN2 := hB.1.2.1.2
  intro n
  induction n with
  | zero =>
    intro i set M hin hacc hM
    obtain ⟨u, v, w, hA⟩ := hM
    refine aj.iload dX12_windsOf_6 rfl ?_
    refine aj.bipush (v := 10) dX12_windsOf_8 rfl ?_
    refine aj.icmp_geN (a := i) (b := 10) (tgt := 115) dX12_windsOf_10 rfl rfl (by omega) (by omega) rfl (fun c10 => ?_) (fun c10 => ?_)
    · refine aj.iload dX12_windsOf_115 rfl ?_
      exact aj.iret rfl dX12_windsOf_117 ⟨by rw [hacc, show i = 10 by omega], _, _, _, hA⟩
    · exact absurd c10 (by omega)
  | succ n ih =>
    intro i set M hin hacc hM
    obtain ⟨u, v, w, hA⟩ := hM
    refine aj.iload dX12_windsOf_6 rfl ?_
    refine aj.bipush (v := 10) dX12_windsOf_8 rfl ?_
    refine aj.icmp_geN (a := i) (b := 10) (tgt := 115) dX12_windsOf_10 rfl rfl (by omega) (by omega) rfl (fun c10 => ?_) (fun c10 => ?_)
    · exact absurd c10 (by omega)
    · refine aj.iconst (v := 1) dX12_windsOf_13 rfl ?_
      refine aj.istore (lv' := [(6, .int 1), (5, .int (nI i)), (4, .int set), (0, .ref b), (1, .int x_t), (2, .int x_s), (3, .int x_aim)]) dX12_windsOf_14 (Nat.le_of_ble_eq_true rfl) rfl ?_
      refine aj.iconst (v := 0) dX12_windsOf_16 rfl ?_
      refine aj.istore (lv' := [(7, .int 0), (6, .int 1), (5, .int (nI i)), (4, .int set), (0, .ref b), (1, .int x_t), (2, .int x_s), (3, .int x_aim)]) dX12_windsOf_17 (Nat.le_of_ble_eq_true rfl) rfl ?_
      refine aj.pick [0, 1, 2, 3, 4, 5, 6, 7] rfl ?_
      refine winds_in t e_t s e_s aim e_aim m i set hB ht hs haim hm hok (by omega) (fun M hM => ?_) m 0 1 M (by omega) (by rw [zb_t (fun k hk => absurd hk (by omega))]) ⟨_, _, _, hA⟩
      obtain ⟨u, v, w, hA⟩ := hM
      refine aj.iload dX12_windsOf_91 rfl ?_
      refine aj.iload dX12_windsOf_93 rfl ?_
      refine aj.if_eqB (tgt := 105) dX12_windsOf_95 rfl (fun c95 => ?_) (fun c95 => ?_)
      · refine aj.iconst (v := 0) dX12_windsOf_105 rfl ?_
        refine aj.ior dX12_windsOf_106 ?_
        refine aj.istore (lv' := [(4, .int (set ||| 0)), (6, .int (zb (mBy (A 1) sl L t s aim i m))), (5, .int (nI i)), (0, .ref b), (1, .int x_t), (2, .int x_s), (3, .int x_aim)]) dX12_windsOf_107 (Nat.le_of_ble_eq_true rfl) rfl ?_
        refine aj.iincN (a := i) (c := 1) (lv' := [(5, .int (nI (i + 1))), (4, .int (set ||| 0)), (6, .int (zb (mBy (A 1) sl L t s aim i m))), (0, .ref b), (1, .int x_t), (2, .int x_s), (3, .int x_aim)]) dX12_windsOf_109 rfl (Nat.le_of_ble_eq_true rfl) rfl rfl rfl ?_
        refine aj.goto (tgt := 6) dX12_windsOf_112 rfl ?_
        refine aj.pick [0, 1, 3, 4, 5, 6] rfl ?_
        exact ih (i + 1) _ M (by omega) (by rw [hacc, z_or0, zbits_s, if_neg c95]) ⟨_, _, _, hA⟩
      · refine aj.iconst (v := 1) dX12_windsOf_98 rfl ?_
        refine aj.iload dX12_windsOf_99 rfl ?_
        refine aj.ishl dX12_windsOf_101 ?_
        refine aj.goto (tgt := 106) dX12_windsOf_102 rfl ?_
        refine aj.ior dX12_windsOf_106 ?_
        refine aj.istore (lv' := [(4, .int (set ||| (1 <<< ((nI i) &&& 31)))), (6, .int (zb (mBy (A 1) sl L t s aim i m))), (5, .int (nI i)), (0, .ref b), (1, .int x_t), (2, .int x_s), (3, .int x_aim)]) dX12_windsOf_107 (Nat.le_of_ble_eq_true rfl) rfl ?_
        refine aj.iincN (a := i) (c := 1) (lv' := [(5, .int (nI (i + 1))), (4, .int (set ||| (1 <<< ((nI i) &&& 31)))), (6, .int (zb (mBy (A 1) sl L t s aim i m))), (0, .ref b), (1, .int x_t), (2, .int x_s), (3, .int x_aim)]) dX12_windsOf_109 rfl (Nat.le_of_ble_eq_true rfl) rfl rfl rfl ?_
        refine aj.goto (tgt := 6) dX12_windsOf_112 rfl ?_
        refine aj.pick [0, 1, 3, 4, 5, 6] rfl ?_
        exact ih (i + 1) _ M (by omega) (by rw [hacc, zbits_s, if_pos c95]) ⟨_, _, _, hA⟩
theorem c_windsOf {G : zG} {l : Launch} {b : Nat} {M0 M : zM} {I : Nat → Int32} {A : Nat → Nat → Int32} {L : Nat → Nat → Int64} (t : Nat) {x_t : Int32} (e_t : x_t = nI t) (s : Nat) {x_s : Int32} (e_s : x_s = nI s) (aim : Nat) {x_aim : Int32} (e_aim : x_aim = nI aim) (m : Nat) {sl ol : Option (List Nat)} {T : Nat} (hM : mW b M0 M I A L) (hB : mOK (A 1) sl ol T) (ht : t < 4) (hs : s < 4) (haim : aim ≤ 20) (hm : A 33 t = nI m) (hok : strOK L t m) : am G l kX12_windsOf 3 [.ref b, .int x_t, .int x_s, .int x_aim] M 0 0 (zr (.int (zbits (fun wd => mBy (A 1) sl L t s aim wd m) 10)) (fun M' => mW b M0 M' I A L)) := by
  obtain ⟨u, v, w, hA⟩ := hM
  refine am.of (by decide) (Nat.le_of_ble_eq_true rfl) ?_
  refine aj.iconst (v := 0) dX12_windsOf_0 rfl ?_
  refine aj.istore (lv' := [(4, .int 0), (0, .ref b), (1, .int x_t), (2, .int x_s), (3, .int x_aim)]) dX12_windsOf_1 (Nat.le_of_ble_eq_true rfl) rfl ?_
  refine aj.iconst (v := 0) dX12_windsOf_3 rfl ?_
  refine aj.istore (lv' := [(5, .int 0), (4, .int 0), (0, .ref b), (1, .int x_t), (2, .int x_s), (3, .int x_aim)]) dX12_windsOf_4 (Nat.le_of_ble_eq_true rfl) rfl ?_
  refine aj.pick [0, 1, 2, 3, 4, 5] rfl ?_
  exact winds_out t e_t s e_s aim e_aim m hB ht hs haim hm hok 10 0 0 M (by omega) rfl ⟨_, _, _, hA⟩
theorem q_winds {G : zG} {l : Launch} {b : Nat} {M0 M : zM} {I : Nat → Int32} {A : Nat → Nat → Int32} {L : Nat → Nat → Int64} (t : Int32) (s : Int32) (aim : Int32) (hM : mW b M0 M I A L) (hTr : ∀ j, j < 4 → bd (A 33 j) 40) {sl ol : Option (List Nat)} {T : Nat} (hB : mOK (A 1) sl ol T) : am G l kX12_winds 4 [.ref b, .int t, .int s, .int aim] M 0 0 (zr (.int (if mStrC A L t s aim = 0 then zbits (fun wd => mBy (A 1) sl L (mN t) (mN s) (mN aim) wd (mN (A 33 (mN t)))) 10 else mStrC A L t s aim)) (fun M' => mW b M0 M' I A L)) := by
  obtain ⟨u, v, w, hA⟩ := hM
  have hT := hB.2.2.2.2.2.2.2.2.1
  have hN6 := hB.2.2.1.2
  have hN25 := hB.2.2.2.2.2.1.2
  have hN26 := hB.2.2.2.2.2.2.1.2
  have hN27 := hB.2.2.2.2.2.2.2.1.2
  have hN1 := hB.1.1.2
  have hN2 := hB.1.2.1.2
  refine am.of (by decide) (Nat.le_of_ble_eq_true rfl) ?_
  refine aj.aload_n dX12_winds_0 rfl ?_
  refine aj.iconst (v := 0) dX12_winds_1 rfl ?_
  refine pM0 rfl dX12_winds_2 hA (fun M hA => ?_)
  refine aj.aload_n dX12_winds_5 rfl ?_
  refine aj.iload_n dX12_winds_6 rfl ?_
  refine aj.iload_n dX12_winds_7 rfl ?_
  refine aj.iload_n dX12_winds_8 rfl ?_
  refine aj.callV1 (d' := 2) (As := [.int t, .int s, .int aim]) (rest := []) dX12_winds_9 v_X12_406 li_X12_noStrayed hA.1 rfl rfl rfl (Nat.le_of_ble_eq_true rfl) (Nat.le_of_ble_eq_true rfl) (q_noStrayed t s aim ⟨_, _, _, hA⟩ hTr hB) (fun M hM => ?_)
  obtain ⟨u, v, w, hA⟩ := hM
  refine aj.istore (lv' := [(4, .int (mStrC A L t s aim)), (0, .ref b), (1, .int t), (2, .int s), (3, .int aim)]) dX12_winds_12 (Nat.le_of_ble_eq_true rfl) rfl ?_
  refine aj.iload dX12_winds_14 rfl ?_
  refine aj.if_eq (tgt := 24) dX12_winds_16 rfl (fun c16 => ?_) (fun c16 => ?_)
  · obtain ⟨k1, k2, k3, k4, k5, k6⟩ := mStrC_0 c16
    have h_t := inR_bd (n := 3) k1 (by decide)
    have h2_t := h_t.2
    have h_s := inR_bdS k2 (by omega)
    have h2_s := h_s.2
    have h_aim := inR_bd (n := 20) k3 (by decide)
    have h2_aim := h_aim.2
    have hok := strOK_of (inR_bd1 (n := 8) k5 (by decide)).2.1 k6
    refine aj.aload_n dX12_winds_24 rfl ?_
    refine aj.iload_n dX12_winds_25 rfl ?_
    refine aj.iload_n dX12_winds_26 rfl ?_
    refine aj.iload_n dX12_winds_27 rfl ?_
    refine aj.callV1 (d' := 3) (As := [.int t, .int s, .int aim]) (rest := []) dX12_winds_28 v_X12_409 li_X12_windsOf hA.1 rfl rfl rfl (Nat.le_of_ble_eq_true rfl) (Nat.le_of_ble_eq_true rfl) (c_windsOf (mN t) h_t.1 (mN s) h_s.1 (mN aim) h_aim.1 (mN (A 33 (mN t))) ⟨_, _, _, hA⟩ hB (by omega) (by omega) (by omega) (hTr (mN t) (by omega)).1 hok) (fun M hM => ?_)
    obtain ⟨u, v, w, hA⟩ := hM
    exact aj.iret rfl dX12_winds_31 ⟨by rw [if_pos c16], _, _, _, hA⟩
  · refine aj.iload dX12_winds_19 rfl ?_
    refine aj.goto (tgt := 31) dX12_winds_21 rfl ?_
    exact aj.iret rfl dX12_winds_31 ⟨by rw [if_neg c16], _, _, _, hA⟩
theorem often_l1 {G : zG} {l : Launch} {b : Nat} {M0 : zM} {I : Nat → Int32} {A : Nat → Nat → Int32} {L : Nat → Nat → Int64} {Q : Option Value → zM → Prop} (set x y z : Int32) (hk : ∀ (g : Nat → Int32) (M : zM), (∀ k, k < 21 → g k = 0) → mW b M0 M I (va_up A 21 g) L → aj G l kX12_mostOften 3 27 [(5, .int 0), (0, .ref b), (1, .int set), (2, .int x), (3, .int y), (4, .int z)] [] M 0 0 Q) : ∀ (n i : Nat) (g : Nat → Int32) (M : zM), i + n = 21 → (∀ k, k < i → g k = 0) → mW b M0 M I (va_up A 21 g) L → aj G l kX12_mostOften 3 6 [(6, .int (nI i)), (5, .int 0), (0, .ref b), (1, .int set), (2, .int x), (3, .int y), (4, .int z)] [] M 0 0 Q := by
  intro n
  induction n with
  | zero =>
    intro i g M hin hg hM
    obtain ⟨u, v, w, hA⟩ := hM
    refine aj.iload dX12_mostOften_6 rfl ?_
    refine aj.bipush (v := 21) dX12_mostOften_8 rfl ?_
    refine aj.icmp_geN (a := i) (b := 21) (tgt := 27) dX12_mostOften_10 rfl rfl (by omega) (by omega) rfl (fun c10 => ?_) (fun c10 => ?_)
    · refine aj.pick [1, 2, 3, 4, 5, 6] rfl ?_
      exact hk g M (fun k hk => hg k (by omega)) ⟨_, _, _, hA⟩
    · exact absurd c10 (by omega)
  | succ n ih =>
    intro i g M hin hg hM
    obtain ⟨u, v, w, hA⟩ := hM
    refine aj.iload dX12_mostOften_6 rfl ?_
    refine aj.bipush (v := 21) dX12_mostOften_8 rfl ?_
    refine aj.icmp_geN (a := i) (b := 21) (tgt := 27) dX12_mostOften_10 rfl rfl (by omega) (by omega) rfl (fun c10 => ?_) (fun c10 => ?_)
    · exact absurd c10 (by omega)
    · refine aj.aload_n dX12_mostOften_13 rfl ?_
      refine gM21 rfl dX12_mostOften_14 hA ?_
      refine aj.iload dX12_mostOften_17 rfl ?_
      refine aj.iconst (v := 0) dX12_mostOften_19 rfl ?_
      refine sM21N (i := i) dX12_mostOften_20 hA rfl (by omega) (fun M hA => ?_)
      refine aj.iincN (a := i) (c := 1) (lv' := [(6, .int (nI (i + 1))), (5, .int 0), (0, .ref b), (1, .int set), (2, .int x), (3, .int y), (4, .int z)]) dX12_mostOften_21 rfl (Nat.le_of_ble_eq_true rfl) rfl rfl rfl ?_
      refine aj.goto (tgt := 6) dX12_mostOften_24 rfl ?_
      refine aj.pick [0, 1, 2, 3, 4, 5, 6] rfl ?_
      rw [bx_uu] at hA
      exact ih (i + 1) _ M (by omega) (fun k hk => if e : k = i then (by rw [e]; exact pk_us) else (by rw [pk_un e]; exact hg k (by omega))) ⟨_, _, _, hA⟩
theorem often_l2 {G : zG} {l : Launch} {b : Nat} {M0 : zM} {I : Nat → Int32} {A : Nat → Nat → Int32} {L : Nat → Nat → Int64} (s : Nat) {x_s : Int32} (e_s : x_s = nI s) (aim : Nat) {x_aim : Int32} (e_aim : x_aim = nI aim) (lot : Nat) {x_lot : Int32} (e_lot : x_lot = nI lot) (f : Nat → Prop) [DecidablePred f] {sl ol : Option (List Nat)} {T : Nat} (hB : mOK (A 1) sl ol T) (hs : s < 4) (haim : aim ≤ 20) (hlot : lot ≤ 9) : ∀ (n i y : Nat) (g : Nat → Int32) (M : zM), i + n = 10 → y = mOft (A 1) sl f s aim lot i → (∀ k, k < 21 → g k = nI (mWc (A 1) sl f s aim lot k i)) → mW b M0 M I (va_up A 21 g) L → aj G l kX12_mostOften 3 30 [(6, .int (nI i)), (5, .int (nI y)), (0, .ref b), (1, .int (zbits f 10)), (2, .int x_s), (3, .int x_aim), (4, .int x_lot)] [] M 0 0 (zr (.int (nI (mOft (A 1) sl f s aim lot 10))) (fun M' => mV b M0 M' I A L)) := by
  have hag := (hB.2.2.2.2.1 s hs).2
  have hT := hB.2.2.2.2.2.2.2.2.1
  have hN6 := hB.2.2.1.2
  have hN25 := hB.2.2.2.2.2.1.2
  have hN26 := hB.2.2.2.2.2.2.1.2
  have hN27 := hB.2.2.2.2.2.2.2.1.2
  have hN1 := hB.1.1.2
  have hN2 := hB.1.2.1.2
  intro n
  induction n with
  | zero =>
    intro i y g M hin hy hg hM
    obtain ⟨u, v, w, hA⟩ := hM
    have hml : mLand sl (A 1 (13 + s)) (mN (A 1 (21 + s))) i aim lot ≤ 20 := mLand_le _ _ _ _ _ _
    have hwc : ∀ k, mWc (A 1) sl f s aim lot k i ≤ i := fun k => zcnt_le _ _
    have hyl : y ≤ i := by rw [hy]; exact nmx_le.mpr (fun k _ => hwc k)
    have hgp := hg (mLand sl (A 1 (13 + s)) (mN (A 1 (21 + s))) i aim lot) (by omega)
    have hwp := hwc (mLand sl (A 1 (13 + s)) (mN (A 1 (21 + s))) i aim lot)
    refine aj.iload dX12_mostOften_30 rfl ?_
    refine aj.bipush (v := 10) dX12_mostOften_32 rfl ?_
    refine aj.icmp_geN (a := i) (b := 10) (tgt := 114) dX12_mostOften_34 rfl rfl (by omega) (by omega) rfl (fun c34 => ?_) (fun c34 => ?_)
    · refine aj.iload dX12_mostOften_114 rfl ?_
      exact aj.iret rfl dX12_mostOften_116 ⟨by rw [hy, show i = 10 by omega], g, _, _, _, hA⟩
    · exact absurd c34 (by omega)
  | succ n ih =>
    intro i y g M hin hy hg hM
    obtain ⟨u, v, w, hA⟩ := hM
    have hml : mLand sl (A 1 (13 + s)) (mN (A 1 (21 + s))) i aim lot ≤ 20 := mLand_le _ _ _ _ _ _
    have hwc : ∀ k, mWc (A 1) sl f s aim lot k i ≤ i := fun k => zcnt_le _ _
    have hyl : y ≤ i := by rw [hy]; exact nmx_le.mpr (fun k _ => hwc k)
    have hgp := hg (mLand sl (A 1 (13 + s)) (mN (A 1 (21 + s))) i aim lot) (by omega)
    have hwp := hwc (mLand sl (A 1 (13 + s)) (mN (A 1 (21 + s))) i aim lot)
    refine aj.iload dX12_mostOften_30 rfl ?_
    refine aj.bipush (v := 10) dX12_mostOften_32 rfl ?_
    refine aj.icmp_geN (a := i) (b := 10) (tgt := 114) dX12_mostOften_34 rfl rfl (by omega) (by omega) rfl (fun c34 => ?_) (fun c34 => ?_)
    · exact absurd c34 (by omega)
    · refine aj.iload_n dX12_mostOften_37 rfl ?_
      refine aj.i2l dX12_mostOften_38 ?_
      refine aj.iload dX12_mostOften_39 rfl ?_
      refine aj.callS1 (d' := 0) (As := [.long (Int32.toInt64 (zbits f 10)), .int (nI i)]) (rest := []) dX12_mostOften_41 v_X12_391 w1787 rfl rfl (Nat.le_of_ble_eq_true rfl) (Nat.le_of_ble_eq_true rfl) (c_isIn _ f 10 i rfl (by omega) (by omega)) (fun M hM => ?_)
      subst hM
      refine aj.if_neB (tgt := 50) dX12_mostOften_44 rfl (fun c44 => ?_) (fun c44 => ?_)
      · refine aj.aload_n dX12_mostOften_50 rfl ?_
        refine aj.iload_n dX12_mostOften_51 rfl ?_
        refine aj.iload_n dX12_mostOften_52 rfl ?_
        refine aj.iload dX12_mostOften_53 rfl ?_
        refine aj.aload_n dX12_mostOften_55 rfl ?_
        refine gM1 rfl dX12_mostOften_56 hA ?_
        refine aj.bipush (v := 21) dX12_mostOften_59 rfl ?_
        refine aj.iload_n dX12_mostOften_61 rfl ?_
        refine aj.iaddN (a := 21) (b := s) dX12_mostOften_62 rfl e_s ?_
        refine aM1N (i := 21 + s) dX12_mostOften_63 hA rfl (by omega) ?_
        refine aj.iload dX12_mostOften_64 rfl ?_
        refine aj.callV1 (d' := 2) (As := [.int x_s, .int x_aim, .int x_lot, .int (A 1 (21 + s)), .int (nI i)]) (rest := []) dX12_mostOften_66 v_X12_225 li_X12_landsBy hA.1 rfl rfl rfl (Nat.le_of_ble_eq_true rfl) (Nat.le_of_ble_eq_true rfl) (c_landsBy s e_s aim e_aim lot e_lot (mN (A 1 (21 + s))) ((hB.2.2.2.2.1 s hs).1) i rfl ⟨_, _, _, hA⟩ hB (by omega) (by omega) (by omega) (by omega) (by omega)) (fun M hM => ?_)
        obtain ⟨u, v, w, hA⟩ := hM
        refine aj.istore (lv' := [(7, .int (nI (mLand sl (A 1 (13 + s)) (mN (A 1 (21 + s))) i aim lot))), (6, .int (nI i)), (5, .int (nI y)), (0, .ref b), (1, .int (zbits f 10)), (2, .int x_s), (3, .int x_aim), (4, .int x_lot)]) dX12_mostOften_69 (Nat.le_of_ble_eq_true rfl) rfl ?_
        refine aj.aload_n dX12_mostOften_71 rfl ?_
        refine gM21 rfl dX12_mostOften_72 hA ?_
        refine aj.iload dX12_mostOften_75 rfl ?_
        refine aj.dup2 dX12_mostOften_77 rfl rfl ?_
        refine aM21N (i := mLand sl (A 1 (13 + s)) (mN (A 1 (21 + s))) i aim lot) dX12_mostOften_78 hA rfl (by omega) ?_
        refine aj.iconst (v := 1) dX12_mostOften_79 rfl ?_
        refine aj.iaddN (a := mWc (A 1) sl f s aim lot (mLand sl (A 1 (13 + s)) (mN (A 1 (21 + s))) i aim lot) i) (b := 1) dX12_mostOften_80 hgp rfl ?_
        refine sM21N (i := mLand sl (A 1 (13 + s)) (mN (A 1 (21 + s))) i aim lot) dX12_mostOften_81 hA rfl (by omega) (fun M hA => ?_)
        rw [bx_uu] at hA
        obtain ⟨g2, eg2⟩ : ∃ z, z = upd g (mLand sl (A 1 (13 + s)) (mN (A 1 (21 + s))) i aim lot) (nI (mWc (A 1) sl f s aim lot (mLand sl (A 1 (13 + s)) (mN (A 1 (21 + s))) i aim lot) i + 1)) := ⟨_, rfl⟩
        replace hA : mA b M0 M I (va_up A 21 g2) L u v w := by rw [eg2]; exact hA
        have hg2 : g2 (mLand sl (A 1 (13 + s)) (mN (A 1 (21 + s))) i aim lot) = nI (mWc (A 1) sl f s aim lot (mLand sl (A 1 (13 + s)) (mN (A 1 (21 + s))) i aim lot) i + 1) := by rw [eg2, pk_us]
        refine aj.aload_n dX12_mostOften_82 rfl ?_
        refine gM21 rfl dX12_mostOften_83 hA ?_
        refine aj.iload dX12_mostOften_86 rfl ?_
        refine aM21N (i := mLand sl (A 1 (13 + s)) (mN (A 1 (21 + s))) i aim lot) dX12_mostOften_88 hA rfl (by omega) ?_
        refine aj.iload dX12_mostOften_89 rfl ?_
        refine aj.icmp_leN (a := mWc (A 1) sl f s aim lot (mLand sl (A 1 (13 + s)) (mN (A 1 (21 + s))) i aim lot) i + 1) (b := y) (tgt := 104) dX12_mostOften_91 hg2 rfl (by omega) (by omega) rfl (fun c91 => ?_) (fun c91 => ?_)
        · refine aj.iload dX12_mostOften_104 rfl ?_
          refine aj.istore (lv' := [(5, .int (nI y)), (7, .int (nI (mLand sl (A 1 (13 + s)) (mN (A 1 (21 + s))) i aim lot))), (6, .int (nI i)), (0, .ref b), (1, .int (zbits f 10)), (2, .int x_s), (3, .int x_aim), (4, .int x_lot)]) dX12_mostOften_106 (Nat.le_of_ble_eq_true rfl) rfl ?_
          refine aj.iincN (a := i) (c := 1) (lv' := [(6, .int (nI (i + 1))), (5, .int (nI y)), (7, .int (nI (mLand sl (A 1 (13 + s)) (mN (A 1 (21 + s))) i aim lot))), (0, .ref b), (1, .int (zbits f 10)), (2, .int x_s), (3, .int x_aim), (4, .int x_lot)]) dX12_mostOften_108 rfl (Nat.le_of_ble_eq_true rfl) rfl rfl rfl ?_
          refine aj.goto (tgt := 30) dX12_mostOften_111 rfl ?_
          refine aj.pick [0, 1, 3, 4, 5, 6, 7] rfl ?_
          have hs1 : ∀ k, mWc (A 1) sl f s aim lot k (i + 1) = mWc (A 1) sl f s aim lot k i + (if mLand sl (A 1 (13 + s)) (mN (A 1 (21 + s))) i aim lot = k then 1 else 0) := fun k => by
            show zcnt _ (i + 1) = _
            rw [zcnt_s]
            congr 1
            by_cases e : mLand sl (A 1 (13 + s)) (mN (A 1 (21 + s))) i aim lot = k
            · rw [if_pos ⟨c44, e⟩, if_pos e]
            · rw [if_neg (fun z => e z.2), if_neg e]
          have hu : mOft (A 1) sl f s aim lot (i + 1) = max (mOft (A 1) sl f s aim lot i) (mWc (A 1) sl f s aim lot (mLand sl (A 1 (13 + s)) (mN (A 1 (21 + s))) i aim lot) i + 1) := by
            have q := nmx_up (f := fun k => mWc (A 1) sl f s aim lot k i) (g := fun k => mWc (A 1) sl f s aim lot k (i + 1)) (n := 21) (p := mLand sl (A 1 (13 + s)) (mN (A 1 (21 + s))) i aim lot) (by omega) (by show _ ≤ mWc (A 1) sl f s aim lot _ (i + 1); rw [hs1]; exact Nat.le_add_right _ _) (fun k hk => by show mWc (A 1) sl f s aim lot k (i + 1) = _; rw [hs1, if_neg (fun z => hk z.symm)]; rfl)
            rw [hs1, if_pos rfl] at q
            exact q
          skip
          exact ih (i + 1) _ g2 M (by omega) (by rw [hu, ← hy]; omega) (fun k hk => by
            rw [hs1 k]
            by_cases e : mLand sl (A 1 (13 + s)) (mN (A 1 (21 + s))) i aim lot = k
            · rw [if_pos e, ← e]; exact hg2
            · rw [if_neg e, eg2, pk_un (fun z => e z.symm)]; exact hg k hk) ⟨_, _, _, hA⟩
        · refine aj.aload_n dX12_mostOften_94 rfl ?_
          refine gM21 rfl dX12_mostOften_95 hA ?_
          refine aj.iload dX12_mostOften_98 rfl ?_
          refine aM21N (i := mLand sl (A 1 (13 + s)) (mN (A 1 (21 + s))) i aim lot) dX12_mostOften_100 hA rfl (by omega) ?_
          refine aj.goto (tgt := 106) dX12_mostOften_101 rfl ?_
          refine aj.istore (lv' := [(5, .int (g2 (mLand sl (A 1 (13 + s)) (mN (A 1 (21 + s))) i aim lot))), (7, .int (nI (mLand sl (A 1 (13 + s)) (mN (A 1 (21 + s))) i aim lot))), (6, .int (nI i)), (0, .ref b), (1, .int (zbits f 10)), (2, .int x_s), (3, .int x_aim), (4, .int x_lot)]) dX12_mostOften_106 (Nat.le_of_ble_eq_true rfl) rfl ?_
          refine aj.iincN (a := i) (c := 1) (lv' := [(6, .int (nI (i + 1))), (5, .int (g2 (mLand sl (A 1 (13 + s)) (mN (A 1 (21 + s))) i aim lot))), (7, .int (nI (mLand sl (A 1 (13 + s)) (mN (A 1 (21 + s))) i aim lot))), (0, .ref b), (1, .int (zbits f 10)), (2, .int x_s), (3, .int x_aim), (4, .int x_lot)]) dX12_mostOften_108 rfl (Nat.le_of_ble_eq_true rfl) rfl rfl rfl ?_
          refine aj.goto (tgt := 30) dX12_mostOften_111 rfl ?_
          refine aj.pick [0, 1, 3, 4, 5, 6, 7] rfl ?_
          have hs1 : ∀ k, mWc (A 1) sl f s aim lot k (i + 1) = mWc (A 1) sl f s aim lot k i + (if mLand sl (A 1 (13 + s)) (mN (A 1 (21 + s))) i aim lot = k then 1 else 0) := fun k => by
            show zcnt _ (i + 1) = _
            rw [zcnt_s]
            congr 1
            by_cases e : mLand sl (A 1 (13 + s)) (mN (A 1 (21 + s))) i aim lot = k
            · rw [if_pos ⟨c44, e⟩, if_pos e]
            · rw [if_neg (fun z => e z.2), if_neg e]
          have hu : mOft (A 1) sl f s aim lot (i + 1) = max (mOft (A 1) sl f s aim lot i) (mWc (A 1) sl f s aim lot (mLand sl (A 1 (13 + s)) (mN (A 1 (21 + s))) i aim lot) i + 1) := by
            have q := nmx_up (f := fun k => mWc (A 1) sl f s aim lot k i) (g := fun k => mWc (A 1) sl f s aim lot k (i + 1)) (n := 21) (p := mLand sl (A 1 (13 + s)) (mN (A 1 (21 + s))) i aim lot) (by omega) (by show _ ≤ mWc (A 1) sl f s aim lot _ (i + 1); rw [hs1]; exact Nat.le_add_right _ _) (fun k hk => by show mWc (A 1) sl f s aim lot k (i + 1) = _; rw [hs1, if_neg (fun z => hk z.symm)]; rfl)
            rw [hs1, if_pos rfl] at q
            exact q
          show aj G l kX12_mostOften 3 30 [(6, .int (nI (i + 1))), (5, .int (g2 (mLand sl (A 1 (13 + s)) (mN (A 1 (21 + s))) i aim lot))), (0, .ref b), (1, .int (zbits f 10)), (2, .int x_s), (3, .int x_aim), (4, .int x_lot)] [] M 0 0 _
          rw [hg2]
          exact ih (i + 1) _ g2 M (by omega) (by rw [hu, ← hy]; omega) (fun k hk => by
            rw [hs1 k]
            by_cases e : mLand sl (A 1 (13 + s)) (mN (A 1 (21 + s))) i aim lot = k
            · rw [if_pos e, ← e]; exact hg2
            · rw [if_neg e, eg2, pk_un (fun z => e z.symm)]; exact hg k hk) ⟨_, _, _, hA⟩
      · refine aj.goto (tgt := 108) dX12_mostOften_47 rfl ?_
        refine aj.iincN (a := i) (c := 1) (lv' := [(6, .int (nI (i + 1))), (5, .int (nI y)), (0, .ref b), (1, .int (zbits f 10)), (2, .int x_s), (3, .int x_aim), (4, .int x_lot)]) dX12_mostOften_108 rfl (Nat.le_of_ble_eq_true rfl) rfl rfl rfl ?_
        refine aj.goto (tgt := 30) dX12_mostOften_111 rfl ?_
        refine aj.pick [0, 1, 2, 3, 4, 5, 6] rfl ?_
        have hs0 : ∀ k, mWc (A 1) sl f s aim lot k (i + 1) = mWc (A 1) sl f s aim lot k i := fun k => by
          show zcnt _ (i + 1) = _
          rw [zcnt_s, if_neg (fun z => c44 z.1)]
          rfl
        exact ih (i + 1) y g M (by omega) (by rw [hy]; exact nmx_congr (fun k _ => (hs0 k).symm)) (fun k hk => by rw [hs0 k]; exact hg k hk) ⟨_, _, _, hA⟩
theorem often_mid {G : zG} {l : Launch} {b : Nat} {M0 : zM} {I : Nat → Int32} {A : Nat → Nat → Int32} {L : Nat → Nat → Int64} (s : Nat) {x_s : Int32} (e_s : x_s = nI s) (aim : Nat) {x_aim : Int32} (e_aim : x_aim = nI aim) (lot : Nat) {x_lot : Int32} (e_lot : x_lot = nI lot) (f : Nat → Prop) [DecidablePred f] {sl ol : Option (List Nat)} {T : Nat} (hB : mOK (A 1) sl ol T) (hs : s < 4) (haim : aim ≤ 20) (hlot : lot ≤ 9) (g : Nat → Int32) (M : zM) (hg : ∀ k, k < 21 → g k = 0) (hM : mW b M0 M I (va_up A 21 g) L) : aj G l kX12_mostOften 3 27 [(5, .int 0), (0, .ref b), (1, .int (zbits f 10)), (2, .int x_s), (3, .int x_aim), (4, .int x_lot)] [] M 0 0 (zr (.int (nI (mOft (A 1) sl f s aim lot 10))) (fun M' => mV b M0 M' I A L)) := by
  obtain ⟨u, v, w, hA⟩ := hM
  refine aj.iconst (v := 0) dX12_mostOften_27 rfl ?_
  refine aj.istore (lv' := [(6, .int 0), (5, .int 0), (0, .ref b), (1, .int (zbits f 10)), (2, .int x_s), (3, .int x_aim), (4, .int x_lot)]) dX12_mostOften_28 (Nat.le_of_ble_eq_true rfl) rfl ?_
  refine aj.pick [0, 1, 2, 3, 4, 5, 6] rfl ?_
  exact often_l2 s e_s aim e_aim lot e_lot f hB hs haim hlot 10 0 0 g M (by omega) (Nat.le_zero.mp (nmx_le.mpr (fun k _ => Nat.le_refl 0))).symm (fun k hk => (hg k hk).trans (show (0 : Int32) = nI (zcnt _ 0) from rfl)) ⟨_, _, _, hA⟩
theorem c_mostOften {G : zG} {l : Launch} {b : Nat} {M0 M : zM} {I : Nat → Int32} {A : Nat → Nat → Int32} {L : Nat → Nat → Int64} (s : Nat) {x_s : Int32} (e_s : x_s = nI s) (aim : Nat) {x_aim : Int32} (e_aim : x_aim = nI aim) (lot : Nat) {x_lot : Int32} (e_lot : x_lot = nI lot) (f : Nat → Prop) [DecidablePred f] {sl ol : Option (List Nat)} {T : Nat} (hM : mV b M0 M I A L) (hB : mOK (A 1) sl ol T) (hs : s < 4) (haim : aim ≤ 20) (hlot : lot ≤ 9) : am G l kX12_mostOften 3 [.ref b, .int (zbits f 10), .int x_s, .int x_aim, .int x_lot] M 0 0 (zr (.int (nI (mOft (A 1) sl f s aim lot 10))) (fun M' => mV b M0 M' I A L)) := by
  obtain ⟨g, u, v, w, hA⟩ := hM
  refine am.of (by decide) (Nat.le_of_ble_eq_true rfl) ?_
  refine aj.iconst (v := 0) dX12_mostOften_0 rfl ?_
  refine aj.istore (lv' := [(5, .int 0), (0, .ref b), (1, .int (zbits f 10)), (2, .int x_s), (3, .int x_aim), (4, .int x_lot)]) dX12_mostOften_1 (Nat.le_of_ble_eq_true rfl) rfl ?_
  refine aj.iconst (v := 0) dX12_mostOften_3 rfl ?_
  refine aj.istore (lv' := [(6, .int 0), (5, .int 0), (0, .ref b), (1, .int (zbits f 10)), (2, .int x_s), (3, .int x_aim), (4, .int x_lot)]) dX12_mostOften_4 (Nat.le_of_ble_eq_true rfl) rfl ?_
  refine aj.pick [0, 1, 2, 3, 4, 5, 6] rfl ?_
  exact often_l1 (zbits f 10) x_s x_aim x_lot (fun g M hg hM => often_mid s e_s aim e_aim lot e_lot f hB hs haim hlot g M hg hM) 21 0 g M (by omega) (fun k hk => absurd hk (by omega)) ⟨_, _, _, hA⟩
theorem attempt_loop {G : zG} {l : Launch} {b : Nat} {M0 : zM} {I : Nat → Int32} {A : Nat → Nat → Int32} {L : Nat → Nat → Int64} (s : Nat) {x_s : Int32} (e_s : x_s = nI s) (aim : Nat) {x_aim : Int32} (e_aim : x_aim = nI aim) (f : Nat → Prop) [DecidablePred f] {sl ol : Option (List Nat)} {T : Nat} (hB : mOK (A 1) sl ol T) (hs : s < 4) (haim : aim ≤ 20) (h0 : ¬ zbits f 10 = 0) : ∀ (n i : Nat) (x : Int32) (y : Nat) (M : zM), i + n = 10 → zmn (fun j => mOft (A 1) sl f s aim j 10) i x y → y ≤ 268435456 → mV b M0 M I A L → aj G l kX12_attempt 4 42 [(8, .int (nI i)), (7, .int (nI y)), (6, .int x), (5, .int (zbits f 10)), (0, .ref b), (2, .int x_s), (3, .int x_aim)] [] M 0 0 (zr (.int (nI (zmin (fun j => mOft (A 1) sl f s aim j 10) 9))) (fun M' => mV b M0 M' I A L)) := by
  have hT := hB.2.2.2.2.2.2.2.2.1
  have hN6 := hB.2.2.1.2
  have hN25 := hB.2.2.2.2.2.1.2
  have hN26 := hB.2.2.2.2.2.2.1.2
  have hN27 := hB.2.2.2.2.2.2.2.1.2
  have hN1 := hB.1.1.2
  have hN2 := hB.1.2.1.2
  intro n
  induction n with
  | zero =>
    intro i x y M hin hz hy hM
    obtain ⟨g, u, v, w, hA⟩ := hM
    have hal : mOft (A 1) sl f s aim i 10 ≤ 10 := nmx_le.mpr (fun k _ => zcnt_le _ _)
    refine aj.iload dX12_attempt_42 rfl ?_
    refine aj.bipush (v := 10) dX12_attempt_44 rfl ?_
    refine aj.icmp_geN (a := i) (b := 10) (tgt := 90) dX12_attempt_46 rfl rfl (by omega) (by omega) rfl (fun c46 => ?_) (fun c46 => ?_)
    · refine aj.iload dX12_attempt_90 rfl ?_
      exact aj.iret rfl dX12_attempt_92 ⟨by rcases hz with ⟨q, -⟩ | ⟨-, rfl, -⟩; omega; rw [show i - 1 = 9 by omega], _, _, _, _, hA⟩
    · exact absurd c46 (by omega)
  | succ n ih =>
    intro i x y M hin hz hy hM
    obtain ⟨g, u, v, w, hA⟩ := hM
    have hal : mOft (A 1) sl f s aim i 10 ≤ 10 := nmx_le.mpr (fun k _ => zcnt_le _ _)
    refine aj.iload dX12_attempt_42 rfl ?_
    refine aj.bipush (v := 10) dX12_attempt_44 rfl ?_
    refine aj.icmp_geN (a := i) (b := 10) (tgt := 90) dX12_attempt_46 rfl rfl (by omega) (by omega) rfl (fun c46 => ?_) (fun c46 => ?_)
    · exact absurd c46 (by omega)
    · refine aj.iload dX12_attempt_49 rfl ?_
      refine aj.if_eq (tgt := 90) dX12_attempt_51 rfl (fun c51 => ?_) (fun c51 => ?_)
      · exact absurd c51 h0
      · refine aj.aload_n dX12_attempt_54 rfl ?_
        refine aj.iload dX12_attempt_55 rfl ?_
        refine aj.iload_n dX12_attempt_57 rfl ?_
        refine aj.iload_n dX12_attempt_58 rfl ?_
        refine aj.iload dX12_attempt_59 rfl ?_
        refine aj.callV1 (d' := 3) (As := [.int (zbits f 10), .int x_s, .int x_aim, .int (nI i)]) (rest := []) dX12_attempt_61 v_X12_412 li_X12_mostOften hA.1 rfl rfl rfl (Nat.le_of_ble_eq_true rfl) (Nat.le_of_ble_eq_true rfl) (c_mostOften s e_s aim e_aim i rfl f ⟨_, _, _, _, hA⟩ hB (by omega) (by omega) (by omega)) (fun M hM => ?_)
        obtain ⟨g, u, v, w, hA⟩ := hM
        refine aj.istore (lv' := [(9, .int (nI (mOft (A 1) sl f s aim i 10))), (8, .int (nI i)), (7, .int (nI y)), (6, .int x), (5, .int (zbits f 10)), (0, .ref b), (2, .int x_s), (3, .int x_aim)]) dX12_attempt_64 (Nat.le_of_ble_eq_true rfl) rfl ?_
        refine aj.iload dX12_attempt_66 rfl ?_
        refine aj.iload dX12_attempt_68 rfl ?_
        refine aj.icmp_ltN (a := mOft (A 1) sl f s aim i 10) (b := y) (tgt := 76) dX12_attempt_70 rfl rfl (by omega) (by omega) rfl (fun c70 => ?_) (fun c70 => ?_)
        · refine aj.iload dX12_attempt_76 rfl ?_
          refine aj.istore (lv' := [(6, .int (nI i)), (9, .int (nI (mOft (A 1) sl f s aim i 10))), (8, .int (nI i)), (7, .int (nI y)), (5, .int (zbits f 10)), (0, .ref b), (2, .int x_s), (3, .int x_aim)]) dX12_attempt_78 (Nat.le_of_ble_eq_true rfl) rfl ?_
          refine aj.iload dX12_attempt_80 rfl ?_
          refine aj.istore (lv' := [(7, .int (nI (mOft (A 1) sl f s aim i 10))), (6, .int (nI i)), (9, .int (nI (mOft (A 1) sl f s aim i 10))), (8, .int (nI i)), (5, .int (zbits f 10)), (0, .ref b), (2, .int x_s), (3, .int x_aim)]) dX12_attempt_82 (Nat.le_of_ble_eq_true rfl) rfl ?_
          refine aj.iincN (a := i) (c := 1) (lv' := [(8, .int (nI (i + 1))), (7, .int (nI (mOft (A 1) sl f s aim i 10))), (6, .int (nI i)), (9, .int (nI (mOft (A 1) sl f s aim i 10))), (5, .int (zbits f 10)), (0, .ref b), (2, .int x_s), (3, .int x_aim)]) dX12_attempt_84 rfl (Nat.le_of_ble_eq_true rfl) rfl rfl rfl ?_
          refine aj.goto (tgt := 42) dX12_attempt_87 rfl ?_
          refine aj.pick [0, 1, 2, 4, 5, 6, 7] rfl ?_
          exact ih (i + 1) _ _ M (by omega) (zmn_up hz c70) (by omega) ⟨_, _, _, _, hA⟩
        · refine aj.goto (tgt := 84) dX12_attempt_73 rfl ?_
          refine aj.iincN (a := i) (c := 1) (lv' := [(8, .int (nI (i + 1))), (9, .int (nI (mOft (A 1) sl f s aim i 10))), (7, .int (nI y)), (6, .int x), (5, .int (zbits f 10)), (0, .ref b), (2, .int x_s), (3, .int x_aim)]) dX12_attempt_84 rfl (Nat.le_of_ble_eq_true rfl) rfl rfl rfl ?_
          refine aj.goto (tgt := 42) dX12_attempt_87 rfl ?_
          refine aj.pick [0, 2, 3, 4, 5, 6, 7] rfl ?_
          exact ih (i + 1) x y M (by omega) (zmn_no hz c70 (by show mOft _ _ _ _ _ _ _ < _; omega)) hy ⟨_, _, _, _, hA⟩
theorem attempt_none {G : zG} {l : Launch} {b : Nat} {M0 : zM} {I : Nat → Int32} {A : Nat → Nat → Int32} {L : Nat → Nat → Int64} (f : Nat → Prop) [DecidablePred f] (h0 : zbits f 10 = 0) (M : zM) (hM : mV b M0 M I A L) : aj G l kX12_attempt 4 42 [(8, .int 0), (7, .int 268435456), (6, .int (-1)), (5, .int (zbits f 10)), (0, .ref b)] [] M 0 0 (zr (.int (-1)) (fun M' => mV b M0 M' I A L)) := by
  obtain ⟨g, u, v, w, hA⟩ := hM
  refine aj.iload dX12_attempt_42 rfl ?_
  refine aj.bipush (v := 10) dX12_attempt_44 rfl ?_
  refine aj.icmp_geN (a := 0) (b := 10) (tgt := 90) dX12_attempt_46 rfl rfl (by omega) (by omega) rfl (fun c46 => ?_) (fun c46 => ?_)
  · exact absurd c46 (by omega)
  · refine aj.iload dX12_attempt_49 rfl ?_
    refine aj.if_eq (tgt := 90) dX12_attempt_51 rfl (fun c51 => ?_) (fun c51 => ?_)
    · refine aj.iload dX12_attempt_90 rfl ?_
      exact aj.iret rfl dX12_attempt_92 ⟨rfl, _, _, _, _, hA⟩
    · exact absurd h0 c51
theorem q_attempt {G : zG} {l : Launch} {b : Nat} {M0 M : zM} {I : Nat → Int32} {A : Nat → Nat → Int32} {L : Nat → Nat → Int64} (t : Int32) (s : Int32) (aim : Int32) (hM : mW b M0 M I A L) (hTr : ∀ j, j < 4 → bd (A 33 j) 40) {sl ol : Option (List Nat)} {T : Nat} (hB : mOK (A 1) sl ol T) : am G l kX12_attempt 4 [.ref b, .int t, .int s, .int aim] M 0 0 (zr (.int (if mStrC A L t s aim = 0 then (if zbits (fun wd => mBy (A 1) sl L (mN t) (mN s) (mN aim) wd (mN (A 33 (mN t)))) 10 = 0 then -1 else nI (zmin (fun j => mOft (A 1) sl (fun wd => mBy (A 1) sl L (mN t) (mN s) (mN aim) wd (mN (A 33 (mN t)))) (mN s) (mN aim) j 10) 9)) else mStrC A L t s aim)) (fun M' => mV b M0 M' I A L)) := by
  obtain ⟨u, v, w, hA⟩ := hM
  have hT := hB.2.2.2.2.2.2.2.2.1
  have hN6 := hB.2.2.1.2
  have hN25 := hB.2.2.2.2.2.1.2
  have hN26 := hB.2.2.2.2.2.2.1.2
  have hN27 := hB.2.2.2.2.2.2.2.1.2
  have hN1 := hB.1.1.2
  have hN2 := hB.1.2.1.2
  refine am.of (by decide) (Nat.le_of_ble_eq_true rfl) ?_
  refine aj.aload_n dX12_attempt_0 rfl ?_
  refine aj.iconst (v := 0) dX12_attempt_1 rfl ?_
  refine pM0 rfl dX12_attempt_2 hA (fun M hA => ?_)
  refine aj.aload_n dX12_attempt_5 rfl ?_
  refine aj.iload_n dX12_attempt_6 rfl ?_
  refine aj.iload_n dX12_attempt_7 rfl ?_
  refine aj.iload_n dX12_attempt_8 rfl ?_
  refine aj.callV1 (d' := 2) (As := [.int t, .int s, .int aim]) (rest := []) dX12_attempt_9 v_X12_406 li_X12_noStrayed hA.1 rfl rfl rfl (Nat.le_of_ble_eq_true rfl) (Nat.le_of_ble_eq_true rfl) (q_noStrayed t s aim ⟨_, _, _, hA⟩ hTr hB) (fun M hM => ?_)
  obtain ⟨u, v, w, hA⟩ := hM
  refine aj.istore (lv' := [(4, .int (mStrC A L t s aim)), (0, .ref b), (1, .int t), (2, .int s), (3, .int aim)]) dX12_attempt_12 (Nat.le_of_ble_eq_true rfl) rfl ?_
  refine aj.iload dX12_attempt_14 rfl ?_
  refine aj.if_eq (tgt := 22) dX12_attempt_16 rfl (fun c16 => ?_) (fun c16 => ?_)
  · obtain ⟨k1, k2, k3, k4, k5, k6⟩ := mStrC_0 c16
    have h_t := inR_bd (n := 3) k1 (by decide)
    have h2_t := h_t.2
    have h_s := inR_bdS k2 (by omega)
    have h2_s := h_s.2
    have h_aim := inR_bd (n := 20) k3 (by decide)
    have h2_aim := h_aim.2
    have hok := strOK_of (inR_bd1 (n := 8) k5 (by decide)).2.1 k6
    refine aj.aload_n dX12_attempt_22 rfl ?_
    refine aj.iload_n dX12_attempt_23 rfl ?_
    refine aj.iload_n dX12_attempt_24 rfl ?_
    refine aj.iload_n dX12_attempt_25 rfl ?_
    refine aj.callV1 (d' := 3) (As := [.int t, .int s, .int aim]) (rest := []) dX12_attempt_26 v_X12_409 li_X12_windsOf hA.1 rfl rfl rfl (Nat.le_of_ble_eq_true rfl) (Nat.le_of_ble_eq_true rfl) (c_windsOf (mN t) h_t.1 (mN s) h_s.1 (mN aim) h_aim.1 (mN (A 33 (mN t))) ⟨_, _, _, hA⟩ hB (by omega) (by omega) (by omega) (hTr (mN t) (by omega)).1 hok) (fun M hM => ?_)
    obtain ⟨u, v, w, hA⟩ := hM
    refine aj.istore (lv' := [(5, .int (zbits (fun wd => mBy (A 1) sl L (mN t) (mN s) (mN aim) wd (mN (A 33 (mN t)))) 10)), (4, .int (mStrC A L t s aim)), (0, .ref b), (1, .int t), (2, .int s), (3, .int aim)]) dX12_attempt_29 (Nat.le_of_ble_eq_true rfl) rfl ?_
    refine aj.iconst (v := (-1)) dX12_attempt_31 rfl ?_
    refine aj.istore (lv' := [(6, .int (-1)), (5, .int (zbits (fun wd => mBy (A 1) sl L (mN t) (mN s) (mN aim) wd (mN (A 33 (mN t)))) 10)), (4, .int (mStrC A L t s aim)), (0, .ref b), (1, .int t), (2, .int s), (3, .int aim)]) dX12_attempt_32 (Nat.le_of_ble_eq_true rfl) rfl ?_
    refine aj.ldcw dX12_attempt_34 w1781 ?_
    refine aj.istore (lv' := [(7, .int 268435456), (6, .int (-1)), (5, .int (zbits (fun wd => mBy (A 1) sl L (mN t) (mN s) (mN aim) wd (mN (A 33 (mN t)))) 10)), (4, .int (mStrC A L t s aim)), (0, .ref b), (1, .int t), (2, .int s), (3, .int aim)]) dX12_attempt_37 (Nat.le_of_ble_eq_true rfl) rfl ?_
    refine aj.iconst (v := 0) dX12_attempt_39 rfl ?_
    refine aj.istore (lv' := [(8, .int 0), (7, .int 268435456), (6, .int (-1)), (5, .int (zbits (fun wd => mBy (A 1) sl L (mN t) (mN s) (mN aim) wd (mN (A 33 (mN t)))) 10)), (4, .int (mStrC A L t s aim)), (0, .ref b), (1, .int t), (2, .int s), (3, .int aim)]) dX12_attempt_40 (Nat.le_of_ble_eq_true rfl) rfl ?_
    by_cases h0 : zbits (fun wd => mBy (A 1) sl L (mN t) (mN s) (mN aim) wd (mN (A 33 (mN t)))) 10 = 0
    · refine aj.pick [0, 1, 2, 3, 5] rfl ?_
      rw [if_pos c16, if_pos h0]
      exact attempt_none _ h0 M (mV.of ⟨_, _, _, hA⟩)
    · refine aj.pick [0, 1, 2, 3, 5, 7, 8] rfl ?_
      rw [if_pos c16, if_neg h0]
      exact attempt_loop (mN s) h_s.1 (mN aim) h_aim.1 (fun wd => mBy (A 1) sl L (mN t) (mN s) (mN aim) wd (mN (A 33 (mN t)))) hB (by omega) h2_aim h0 10 0 (-1) 268435456 M (by omega) (Or.inl ⟨rfl, rfl, rfl⟩) (by omega) (mV.of ⟨_, _, _, hA⟩)
  · refine aj.iload dX12_attempt_19 rfl ?_
    exact aj.iret rfl dX12_attempt_21 ⟨by rw [if_neg c16], mV.of ⟨_, _, _, hA⟩⟩
