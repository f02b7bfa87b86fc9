abbrev seenBad (L : Nat → Nat → Int64) (t k : Nat) : Prop := ¬ (0 ≤ L 34 (40 * t + k) ∧ L 34 (40 * t + k) ≤ 20)
/-- the code by which a call on what is seen is refused, 0 if it isn't -/
def mSeenC (A : Nat → Nat → Int32) (L : Nat → Nat → Int64) (t aim : Int32) : Int32 := if inR t 0 3 ∧ inR aim 0 20 then (if A 32 (mN t) = -1 then -6 else if inR (A 33 (mN t)) 1 8 then (if zfirst (seenBad L (mN t)) (mN (A 33 (mN t))) 0 = none then 0 else -3) else -4) else -2
theorem zfirst_none {p : Nat → Prop} [DecidablePred p] : ∀ {n i : Nat}, zfirst p n i = none → ∀ k, i ≤ k → k < i + n → ¬ p k
  | 0, i, _, k, h1, h2 => absurd h1 (by omega)
  | n + 1, i, h, k, h1, h2 => by
    rw [zfirst_s] at h
    split at h
    · cases h
    · rename_i q
      by_cases e : k = i
      · rw [e]; exact q
      · exact zfirst_none h k (by omega) (by omega)
def nprod (f : Nat → Nat) : Nat → Nat
  | 0 => 1
  | n + 1 => nprod f n * f n
theorem nprod_le {f : Nat → Nat} (h : ∀ k, f k ≤ 10) : ∀ n, nprod f n ≤ 10 ^ n
  | 0 => Nat.le_refl _
  | n + 1 => by
    show nprod f n * f n ≤ 10 ^ (n + 1)
    rw [Nat.pow_succ]
    exact Nat.mul_le_mul (nprod_le h n) (h n)
abbrev psF (L : Nat → Nat → Int64) (t k : Nat) : Nat := (L 34 (40 * t + k)).toInt.toNat
/-- by how many rows of lots a shooter can have shot all that is told -/
abbrev mWays (B : Nat → Int32) (sl : Option (List Nat)) (L : Nat → Nat → Int64) (t s aim n : Nat) : Nat := nprod (fun k => mCnt B sl s aim (psF L t k) 10) n
def seenOK (L : Nat → Nat → Int64) (t m : Nat) : Prop := m ≤ 8 ∧ ∀ k, k < m → L 34 (40 * t + k) = lN (psF L t k) ∧ psF L t k ≤ 20
theorem seenOK_of {L : Nat → Nat → Int64} {t m : Nat} (hm : m ≤ 8) (h : zfirst (seenBad L t) m 0 = none) : seenOK L t m := by
  refine ⟨hm, fun k hk => ?_⟩
  have h1 := Classical.not_not.mp (zfirst_none h k (by omega) (by omega))
  have h2 := Int64.le_iff_toInt_le.mp h1.1
  have h3 := Int64.le_iff_toInt_le.mp h1.2
  have e0 : (0 : Int64).toInt = 0 := rfl
  have e1 : (20 : Int64).toInt = 20 := rfl
  exact ⟨i64_nat (by unfold psF; omega), by unfold psF; omega⟩
theorem noSeen_loop {G : zG} {l : Launch} {b : Nat} {M0 : zM} {I : Nat → Int32} {A : Nat → Nat → Int32} {L : Nat → Nat → Int64} (t : Nat) {x_t : Int32} (e_t : x_t = nI t) (m : Nat) (r : Option Nat) (ht : t < 4) (hm : A 33 t = nI m) (hm8 : m ≤ 8) : ∀ (n i : Nat)  (M : zM), i + n = m → zfirst (seenBad L t) n i = r → mW b M0 M I A L → aj G l kX12_noSeen 2 58 [(4, .int (nI i)), (0, .ref b), (1, .int x_t)] [] M 0 0 (zr (.int (if r = none then 0 else -3)) (fun M' => mW b M0 M' I A L)) := by
  intro n
  induction n with
  | zero =>
    intro i M hin hz hM
    obtain ⟨u, v, w, hA⟩ := hM
    refine aj.iload dX12_noSeen_58 rfl ?_
    refine aj.aload_n dX12_noSeen_60 rfl ?_
    refine gM33 rfl dX12_noSeen_61 hA ?_
    refine aj.iload_n dX12_noSeen_64 rfl ?_
    refine aM33N (i := t) dX12_noSeen_65 hA e_t (by omega) ?_
    refine aj.icmp_geN (a := i) (b := m) (tgt := 96) dX12_noSeen_66 rfl hm (by omega) (by omega) rfl (fun c66 => ?_) (fun c66 => ?_)
    · refine aj.iconst (v := 0) dX12_noSeen_96 rfl ?_
      exact aj.iret rfl dX12_noSeen_97 ⟨by rw [if_pos (by rw [← hz]; rfl)], _, _, _, hA⟩
    · exact absurd c66 (by omega)
  | succ n ih =>
    intro i M hin hz hM
    obtain ⟨u, v, w, hA⟩ := hM
    refine aj.iload dX12_noSeen_58 rfl ?_
    refine aj.aload_n dX12_noSeen_60 rfl ?_
    refine gM33 rfl dX12_noSeen_61 hA ?_
    refine aj.iload_n dX12_noSeen_64 rfl ?_
    refine aM33N (i := t) dX12_noSeen_65 hA e_t (by omega) ?_
    refine aj.icmp_geN (a := i) (b := m) (tgt := 96) dX12_noSeen_66 rfl hm (by omega) (by omega) rfl (fun c66 => ?_) (fun c66 => ?_)
    · exact absurd c66 (by omega)
    · refine aj.aload_n dX12_noSeen_69 rfl ?_
      refine gM34 rfl dX12_noSeen_70 hA ?_
      refine aj.bipush (v := 40) dX12_noSeen_73 rfl ?_
      refine aj.iload_n dX12_noSeen_75 rfl ?_
      refine aj.imulN (a := 40) (b := t) dX12_noSeen_76 rfl e_t ?_
      refine aj.iload dX12_noSeen_77 rfl ?_
      refine aj.iaddN (a := 40 * t) (b := i) dX12_noSeen_79 rfl rfl ?_
      refine aM34N (i := (40 * t) + i) dX12_noSeen_80 hA rfl (by omega) ?_
      refine aj.callS1 (d' := 1) (As := [.long (L 34 ((40 * t) + i))]) (rest := []) dX12_noSeen_81 v_X12_241 w1506 rfl rfl (Nat.le_of_ble_eq_true rfl) (Nat.le_of_ble_eq_true rfl) (c_isPlace _ (L 34 ((40 * t) + i))) (fun M hM => ?_)
      subst hM
      refine aj.if_neB (tgt := 90) dX12_noSeen_84 rfl (fun c84 => ?_) (fun c84 => ?_)
      · refine aj.iincN (a := i) (c := 1) (lv' := [(4, .int (nI (i + 1))), (0, .ref b), (1, .int x_t)]) dX12_noSeen_90 rfl (Nat.le_of_ble_eq_true rfl) rfl rfl rfl ?_
        refine aj.goto (tgt := 58) dX12_noSeen_93 rfl ?_
        refine aj.pick [0, 1, 2] rfl ?_
        exact ih (i + 1)  M (by omega) (by rw [← hz, zfirst_s, if_neg (fun z => z c84)]) ⟨_, _, _, hA⟩
      · refine aj.bipush (v := (-3)) dX12_noSeen_87 rfl ?_
        exact aj.iret rfl dX12_noSeen_89 ⟨by rw [if_neg (by rw [← hz, zfirst_s, if_pos c84]; exact fun z => nomatch z)], _, _, _, hA⟩
theorem q_noSeen {G : zG} {l : Launch} {b : Nat} {M0 M : zM} {I : Nat → Int32} {A : Nat → Nat → Int32} {L : Nat → Nat → Int64} (t : Int32) (aim : Int32) (hM : mW b M0 M I A L) (hTr : ∀ j, j < 4 → bd (A 33 j) 40) {sl ol : Option (List Nat)} {T : Nat} (hB : mOK (A 1) sl ol T) : am G l kX12_noSeen 2 [.ref b, .int t, .int aim] M 0 0 (zr (.int (mSeenC A L t aim)) (fun M' => mW b M0 M' I A L)) := by
  obtain ⟨u, v, w, hA⟩ := hM
  refine am.of (by decide) (Nat.le_of_ble_eq_true rfl) ?_
  refine aj.iload_n dX12_noSeen_0 rfl ?_
  refine aj.i2l dX12_noSeen_1 ?_
  refine aj.lconst (v := 0) dX12_noSeen_2 rfl ?_
  refine aj.ldc2 dX12_noSeen_3 w1608 ?_
  refine aj.callS1 (d' := 0) (As := [.long (Int32.toInt64 t), .long 0, .long 3]) (rest := []) dX12_noSeen_6 v_X12_142 w1380 rfl rfl (Nat.le_of_ble_eq_true rfl) (Nat.le_of_ble_eq_true rfl) (c_withinI (a := 0) (c := 3) _ t 0 3 rfl rfl) (fun M hM => ?_)
  subst hM
  refine aj.if_eqB (tgt := 20) dX12_noSeen_9 rfl (fun c9 => ?_) (fun c9 => ?_)
  · refine aj.bipush (v := (-2)) dX12_noSeen_20 rfl ?_
    exact aj.iret rfl dX12_noSeen_22 ⟨by unfold mSeenC; rw [if_neg (fun z => c9 z.1)], _, _, _, hA⟩
  · have h_t := inR_bd (n := 3) c9 (by decide)
    have h2_t := h_t.2
    refine aj.iload_n dX12_noSeen_12 rfl ?_
    refine aj.i2l dX12_noSeen_13 ?_
    refine aj.callS1 (d' := 1) (As := [.long (Int32.toInt64 aim)]) (rest := []) dX12_noSeen_14 v_X12_241 w1506 rfl rfl (Nat.le_of_ble_eq_true rfl) (Nat.le_of_ble_eq_true rfl) (c_isPlaceI _ aim) (fun M hM => ?_)
    subst hM
    refine aj.if_neB (tgt := 23) dX12_noSeen_17 rfl (fun c17 => ?_) (fun c17 => ?_)
    · have h_aim := inR_bd (n := 20) c17 (by decide)
      have h2_aim := h_aim.2
      refine aj.aload_n dX12_noSeen_23 rfl ?_
      refine aj.iload_n dX12_noSeen_24 rfl ?_
      refine aj.callV1 (d' := 1) (As := [.int t]) (rest := []) dX12_noSeen_25 v_X12_294 li_X12_noTray hA.1 rfl rfl rfl (Nat.le_of_ble_eq_true rfl) (Nat.le_of_ble_eq_true rfl) (q_noTray t ⟨_, _, _, hA⟩ hB) (fun M hM => ?_)
      obtain ⟨u, v, w, hA⟩ := hM
      refine aj.istore_n (lv' := [(3, .int (if inR t 0 3 then (if A 32 (mN t) = -1 then (-6 : Int32) else 0) else -2)), (0, .ref b), (1, .int t), (2, .int aim)]) dX12_noSeen_28 (Nat.le_of_ble_eq_true rfl) rfl ?_
      refine aj.iload_n dX12_noSeen_29 rfl ?_
      refine aj.if_eq (tgt := 35) dX12_noSeen_30 rfl (fun c30 => ?_) (fun c30 => ?_)
      · have g2 : ¬ A 32 (mN t) = -1 := fun q => by rw [if_pos c9, if_pos q] at c30; exact absurd c30 (by decide)
        have hm40 := (hTr (mN t) (by omega)).2
        refine aj.aload_n dX12_noSeen_35 rfl ?_
        refine gM33 rfl dX12_noSeen_36 hA ?_
        refine aj.iload_n dX12_noSeen_39 rfl ?_
        refine aM33N (i := mN t) dX12_noSeen_40 hA h_t.1 (by omega) ?_
        refine aj.i2l dX12_noSeen_41 ?_
        refine aj.lconst (v := 1) dX12_noSeen_42 rfl ?_
        refine aj.ldc2 dX12_noSeen_43 w1763 ?_
        refine aj.callS1 (d' := 0) (As := [.long (Int32.toInt64 (A 33 (mN t))), .long 1, .long 8]) (rest := []) dX12_noSeen_46 v_X12_142 w1380 rfl rfl (Nat.le_of_ble_eq_true rfl) (Nat.le_of_ble_eq_true rfl) (c_withinI (a := 1) (c := 8) _ (A 33 (mN t)) 1 8 rfl rfl) (fun M hM => ?_)
        subst hM
        refine aj.if_neB (tgt := 55) dX12_noSeen_49 rfl (fun c49 => ?_) (fun c49 => ?_)
        · have hm8 := (inR_bd1 (n := 8) c49 (by decide)).2.1
          refine aj.iconst (v := 0) dX12_noSeen_55 rfl ?_
          refine aj.istore (lv' := [(4, .int 0), (3, .int (if inR t 0 3 then (if A 32 (mN t) = -1 then (-6 : Int32) else 0) else -2)), (0, .ref b), (1, .int t), (2, .int aim)]) dX12_noSeen_56 (Nat.le_of_ble_eq_true rfl) rfl ?_
          refine aj.pick [0, 2, 3] rfl ?_
          unfold mSeenC
          rw [if_pos (⟨c9, c17⟩ : _ ∧ _), if_neg g2, if_neg g2, if_pos c49]
          exact noSeen_loop (mN t) h_t.1 (mN (A 33 (mN t))) _ (by omega) (hTr (mN t) (by omega)).1 hm8 (mN (A 33 (mN t))) 0 M (by omega) rfl ⟨_, _, _, hA⟩
        · refine aj.bipush (v := (-4)) dX12_noSeen_52 rfl ?_
          exact aj.iret rfl dX12_noSeen_54 ⟨by unfold mSeenC; rw [if_pos (⟨c9, c17⟩ : _ ∧ _), if_neg g2, if_neg c49], _, _, _, hA⟩
      · refine aj.iload_n dX12_noSeen_33 rfl ?_
        exact aj.iret rfl dX12_noSeen_34 ⟨by unfold mSeenC; rw [if_pos (⟨c9, c17⟩ : _ ∧ _)]; by_cases c2 : A 32 (mN t) = -1; (rw [if_pos c9, if_pos c2, if_pos c2]); exact absurd (by rw [if_pos c9, if_neg c2]) c30, _, _, _, hA⟩
    · refine aj.bipush (v := (-2)) dX12_noSeen_20 rfl ?_
      exact aj.iret rfl dX12_noSeen_22 ⟨by unfold mSeenC; rw [if_neg (fun z => c17 z.2)], _, _, _, hA⟩
theorem lotsOf_loop {G : zG} {l : Launch} {b : Nat} {M0 : zM} {I : Nat → Int32} {A : Nat → Nat → Int32} {L : Nat → Nat → Int64} (t : Nat) {x_t : Int32} (e_t : x_t = nI t) (m s aim : Nat) {sl : Option (List Nat)} (ht : t < 4) (hm : A 33 t = nI m) (hok : seenOK L t m) (g : Nat → Int32) (hg : ∀ k, k < 21 → g k = nI (mCnt (A 1) sl s aim k 10)) : ∀ (n i : Nat) (acc : Int64) (M : zM), i + n = m → acc = lN (mWays (A 1) sl L t s aim i) → mW b M0 M I (va_up A 21 g) L → aj G l kX12_lotsOf 5 12 [(6, .int (nI i)), (4, .long acc), (0, .ref b), (1, .int x_t)] [] M 0 0 (zr (.long (lN (mWays (A 1) sl L t s aim m))) (fun M' => mV b M0 M' I A L)) := by
  have hm8 := hok.1
  intro n
  induction n with
  | zero =>
    intro i acc M hin hacc hM
    obtain ⟨u, v, w, hA⟩ := hM
    refine aj.iload dX12_lotsOf_12 rfl ?_
    refine aj.aload_n dX12_lotsOf_14 rfl ?_
    refine gM33 rfl dX12_lotsOf_15 hA ?_
    refine aj.iload_n dX12_lotsOf_18 rfl ?_
    refine aM33N (i := t) dX12_lotsOf_19 hA e_t (by omega) ?_
    refine aj.icmp_geN (a := i) (b := m) (tgt := 53) dX12_lotsOf_20 rfl hm (by omega) (by omega) rfl (fun c20 => ?_) (fun c20 => ?_)
    · refine aj.lload dX12_lotsOf_53 rfl ?_
      exact aj.lret rfl dX12_lotsOf_55 ⟨by rw [hacc, show i = m by omega], _, _, _, _, hA⟩
    · exact absurd c20 (by omega)
  | succ n ih =>
    intro i acc M hin hacc hM
    obtain ⟨u, v, w, hA⟩ := hM
    obtain ⟨hp1, hp2⟩ := hok.2 i (by omega)
    have hgp := hg (psF L t i) (by omega)
    have hcl : mCnt (A 1) sl s aim (psF L t i) 10 ≤ 10 := zcnt_le _ 10
    refine aj.iload dX12_lotsOf_12 rfl ?_
    refine aj.aload_n dX12_lotsOf_14 rfl ?_
    refine gM33 rfl dX12_lotsOf_15 hA ?_
    refine aj.iload_n dX12_lotsOf_18 rfl ?_
    refine aM33N (i := t) dX12_lotsOf_19 hA e_t (by omega) ?_
    refine aj.icmp_geN (a := i) (b := m) (tgt := 53) dX12_lotsOf_20 rfl hm (by omega) (by omega) rfl (fun c20 => ?_) (fun c20 => ?_)
    · exact absurd c20 (by omega)
    · refine aj.lload dX12_lotsOf_23 rfl ?_
      refine aj.aload_n dX12_lotsOf_25 rfl ?_
      refine gM21 rfl dX12_lotsOf_26 hA ?_
      refine aj.aload_n dX12_lotsOf_29 rfl ?_
      refine gM34 rfl dX12_lotsOf_30 hA ?_
      refine aj.bipush (v := 40) dX12_lotsOf_33 rfl ?_
      refine aj.iload_n dX12_lotsOf_35 rfl ?_
      refine aj.imulN (a := 40) (b := t) dX12_lotsOf_36 rfl e_t ?_
      refine aj.iload dX12_lotsOf_37 rfl ?_
      refine aj.iaddN (a := 40 * t) (b := i) dX12_lotsOf_39 rfl rfl ?_
      refine aM34N (i := (40 * t) + i) dX12_lotsOf_40 hA rfl (by omega) ?_
      refine aj.l2iN (a := psF L t i) dX12_lotsOf_41 hp1 ?_
      refine aM21N (i := psF L t i) dX12_lotsOf_42 hA rfl (by omega) ?_
      refine aj.i2lN (a := mCnt (A 1) sl s aim (psF L t i) 10) dX12_lotsOf_43 hgp (by omega) ?_
      refine aj.lmul dX12_lotsOf_44 ?_
      refine aj.lstore (lv' := [(4, .long (acc * (lN (mCnt (A 1) sl s aim (psF L t i) 10)))), (6, .int (nI i)), (0, .ref b), (1, .int x_t)]) dX12_lotsOf_45 (Nat.le_of_ble_eq_true rfl) rfl ?_
      refine aj.iincN (a := i) (c := 1) (lv' := [(6, .int (nI (i + 1))), (4, .long (acc * (lN (mCnt (A 1) sl s aim (psF L t i) 10)))), (0, .ref b), (1, .int x_t)]) dX12_lotsOf_47 rfl (Nat.le_of_ble_eq_true rfl) rfl rfl rfl ?_
      refine aj.goto (tgt := 12) dX12_lotsOf_50 rfl ?_
      refine aj.pick [0, 1, 2, 3] rfl ?_
      exact ih (i + 1) _ M (by omega) (by rw [hacc, lN_mul]; rfl) ⟨_, _, _, hA⟩
theorem c_lotsOf {G : zG} {l : Launch} {b : Nat} {M0 M : zM} {I : Nat → Int32} {A : Nat → Nat → Int32} {L : Nat → Nat → Int64} (t : Nat) {x_t : Int32} (e_t : x_t = nI t) (aim : Nat) {x_aim : Int32} (e_aim : x_aim = nI aim) (s : Nat) {x_s : Int32} (e_s : x_s = nI s) (m : Nat) {sl ol : Option (List Nat)} {T : Nat} (hM0 : mV b M0 M I A L) (hB : mOK (A 1) sl ol T) (ht : t < 4) (haim : aim ≤ 20) (hs : s < 4) (hm : A 33 t = nI m) (hok : seenOK L t m) : am G l kX12_lotsOf 5 [.ref b, .int x_t, .int x_aim, .int x_s] M 0 0 (zr (.long (lN (mWays (A 1) sl L t s aim m))) (fun M' => mV b M0 M' I A L)) := by
  obtain ⟨g0, u, v, w, hA⟩ := id hM0
  refine am.of (by decide) (Nat.le_of_ble_eq_true rfl) ?_
  refine aj.aload_n dX12_lotsOf_0 rfl ?_
  refine aj.iload_n dX12_lotsOf_1 rfl ?_
  refine aj.iload_n dX12_lotsOf_2 rfl ?_
  refine aj.callV0 (d' := 4) (As := [.int x_s, .int x_aim]) (rest := []) dX12_lotsOf_3 v_X12_336 li_X12_laysLanded hA.1 rfl rfl rfl (Nat.le_of_ble_eq_true rfl) (Nat.le_of_ble_eq_true rfl) (c_laysLanded s e_s aim e_aim hM0 hB hs haim) (fun M hM => ?_)
  obtain ⟨g, hg, u, v, w, hA⟩ := hM
  refine aj.lconst (v := 1) dX12_lotsOf_6 rfl ?_
  refine aj.lstore (lv' := [(4, .long 1), (0, .ref b), (1, .int x_t), (2, .int x_aim), (3, .int x_s)]) dX12_lotsOf_7 (Nat.le_of_ble_eq_true rfl) rfl ?_
  refine aj.iconst (v := 0) dX12_lotsOf_9 rfl ?_
  refine aj.istore (lv' := [(6, .int 0), (4, .long 1), (0, .ref b), (1, .int x_t), (2, .int x_aim), (3, .int x_s)]) dX12_lotsOf_10 (Nat.le_of_ble_eq_true rfl) rfl ?_
  refine aj.pick [0, 1, 2, 3] rfl ?_
  exact lotsOf_loop t e_t m s aim ht hm hok g hg m 0 1 M (by omega) rfl ⟨_, _, _, hA⟩
theorem z_l0 {a : Nat} (h : a < 2 ^ 62) : (0 : Int64) < lN a ↔ 0 < a := by rw [show (0 : Int64) = lN 0 from rfl]; exact pk_lLT (by decide) (by omega)
theorem shootersOf_loop {G : zG} {l : Launch} {b : Nat} {M0 : zM} {I : Nat → Int32} {A : Nat → Nat → Int32} {L : Nat → Nat → Int64} (t : Nat) {x_t : Int32} (e_t : x_t = nI t) (aim : Nat) {x_aim : Int32} (e_aim : x_aim = nI aim) (m : Nat) {sl ol : Option (List Nat)} {T : Nat} (hB : mOK (A 1) sl ol T) (ht : t < 4) (haim : aim ≤ 20) (hm : A 33 t = nI m) (hok : seenOK L t m) : ∀ (n i : Nat) (acc : Int32) (M : zM), i + n = mN (A 1 6) → acc = zbits (fun s => 0 < mWays (A 1) sl L t s aim m) i → mV b M0 M I A L → aj G l kX12_shootersOf 6 5 [(4, .int (nI i)), (3, .int acc), (0, .ref b), (1, .int x_t), (2, .int x_aim)] [] M 0 0 (zr (.int (zbits (fun s => 0 < mWays (A 1) sl L t s aim m) (mN (A 1 6)))) (fun M' => mV b M0 M' I A L)) := by
  have hm8 := hok.1
  have hT := hB.2.2.2.2.2.2.2.2.1
  have hN6 := hB.2.2.1.2
  have hN25 := hB.2.2.2.2.2.1.2
  have hN26 := hB.2.2.2.2.2.2.1.2
  have hN27 := hB.2.2.2.2.2.2.2.1.2
  have hN1 := hB.1.1.2
  have hN2 := hB.1.2.1.2
  intro n
  induction n with
  | zero =>
    intro i acc M hin hacc hM
    obtain ⟨g, u, v, w, hA⟩ := hM
    refine aj.iload dX12_shootersOf_5 rfl ?_
    refine aj.aload_n dX12_shootersOf_7 rfl ?_
    refine gM1 rfl dX12_shootersOf_8 hA ?_
    refine aj.bipush (v := 6) dX12_shootersOf_11 rfl ?_
    refine aM1N (i := 6) dX12_shootersOf_13 hA rfl (by omega) ?_
    refine aj.icmp_geN (a := i) (b := mN (A 1 6)) (tgt := 47) dX12_shootersOf_14 rfl hB.2.2.1.1 (by omega) (by omega) rfl (fun c14 => ?_) (fun c14 => ?_)
    · refine aj.iload_n dX12_shootersOf_47 rfl ?_
      exact aj.iret rfl dX12_shootersOf_48 ⟨by rw [hacc, show i = mN (A 1 6) by omega], _, _, _, _, hA⟩
    · exact absurd c14 (by omega)
  | succ n ih =>
    intro i acc M hin hacc hM
    obtain ⟨g, u, v, w, hA⟩ := hM
    have hwl : mWays (A 1) sl L t i aim m ≤ 10 ^ m := nprod_le (fun k => zcnt_le _ 10) m
    have hw8 : 10 ^ m ≤ 10 ^ 8 := Nat.pow_le_pow_right (by decide) hm8
    refine aj.iload dX12_shootersOf_5 rfl ?_
    refine aj.aload_n dX12_shootersOf_7 rfl ?_
    refine gM1 rfl dX12_shootersOf_8 hA ?_
    refine aj.bipush (v := 6) dX12_shootersOf_11 rfl ?_
    refine aM1N (i := 6) dX12_shootersOf_13 hA rfl (by omega) ?_
    refine aj.icmp_geN (a := i) (b := mN (A 1 6)) (tgt := 47) dX12_shootersOf_14 rfl hB.2.2.1.1 (by omega) (by omega) rfl (fun c14 => ?_) (fun c14 => ?_)
    · exact absurd c14 (by omega)
    · refine aj.iload_n dX12_shootersOf_17 rfl ?_
      refine aj.aload_n dX12_shootersOf_18 rfl ?_
      refine aj.iload_n dX12_shootersOf_19 rfl ?_
      refine aj.iload_n dX12_shootersOf_20 rfl ?_
      refine aj.iload dX12_shootersOf_21 rfl ?_
      refine aj.callV1 (d' := 5) (As := [.int x_t, .int x_aim, .int (nI i)]) (rest := [.int acc]) dX12_shootersOf_23 v_X12_379 li_X12_lotsOf hA.1 rfl rfl rfl (Nat.le_of_ble_eq_true rfl) (Nat.le_of_ble_eq_true rfl) (c_lotsOf t e_t aim e_aim i rfl (m) ⟨_, _, _, _, hA⟩ hB ht haim (by omega) hm hok) (fun M hM => ?_)
      obtain ⟨g, u, v, w, hA⟩ := hM
      refine aj.lconst (v := 0) dX12_shootersOf_26 rfl ?_
      refine aj.lif_le (tgt := 38) dX12_shootersOf_27 dX12_shootersOf_28 rfl (fun c27 => ?_) (fun c27 => ?_)
      · refine aj.iconst (v := 0) dX12_shootersOf_38 rfl ?_
        refine aj.ior dX12_shootersOf_39 ?_
        refine aj.istore_n (lv' := [(3, .int (acc ||| 0)), (4, .int (nI i)), (0, .ref b), (1, .int x_t), (2, .int x_aim)]) dX12_shootersOf_40 (Nat.le_of_ble_eq_true rfl) rfl ?_
        refine aj.iincN (a := i) (c := 1) (lv' := [(4, .int (nI (i + 1))), (3, .int (acc ||| 0)), (0, .ref b), (1, .int x_t), (2, .int x_aim)]) dX12_shootersOf_41 rfl (Nat.le_of_ble_eq_true rfl) rfl rfl rfl ?_
        refine aj.goto (tgt := 5) dX12_shootersOf_44 rfl ?_
        refine aj.pick [0, 1, 2, 3, 4] rfl ?_
        exact ih (i + 1) _ M (by omega) (by rw [hacc, z_or0, zbits_s, if_neg (fun z => c27 ((z_l0 (by omega)).mpr z))]) ⟨_, _, _, _, hA⟩
      · refine aj.iconst (v := 1) dX12_shootersOf_31 rfl ?_
        refine aj.iload dX12_shootersOf_32 rfl ?_
        refine aj.ishl dX12_shootersOf_34 ?_
        refine aj.goto (tgt := 39) dX12_shootersOf_35 rfl ?_
        refine aj.ior dX12_shootersOf_39 ?_
        refine aj.istore_n (lv' := [(3, .int (acc ||| (1 <<< ((nI i) &&& 31)))), (4, .int (nI i)), (0, .ref b), (1, .int x_t), (2, .int x_aim)]) dX12_shootersOf_40 (Nat.le_of_ble_eq_true rfl) rfl ?_
        refine aj.iincN (a := i) (c := 1) (lv' := [(4, .int (nI (i + 1))), (3, .int (acc ||| (1 <<< ((nI i) &&& 31)))), (0, .ref b), (1, .int x_t), (2, .int x_aim)]) dX12_shootersOf_41 rfl (Nat.le_of_ble_eq_true rfl) rfl rfl rfl ?_
        refine aj.goto (tgt := 5) dX12_shootersOf_44 rfl ?_
        refine aj.pick [0, 1, 2, 3, 4] rfl ?_
        exact ih (i + 1) _ M (by omega) (by rw [hacc, zbits_s, if_pos ((z_l0 (by omega)).mp c27)]) ⟨_, _, _, _, hA⟩
theorem c_shootersOf {G : zG} {l : Launch} {b : Nat} {M0 M : zM} {I : Nat → Int32} {A : Nat → Nat → Int32} {L : Nat → Nat → Int64} (t : Nat) {x_t : Int32} (e_t : x_t = nI t) (aim : Nat) {x_aim : Int32} (e_aim : x_aim = nI aim) (m : Nat) {sl ol : Option (List Nat)} {T : Nat} (hM0 : mV b M0 M I A L) (hB : mOK (A 1) sl ol T) (ht : t < 4) (haim : aim ≤ 20) (hm : A 33 t = nI m) (hok : seenOK L t m) : am G l kX12_shootersOf 6 [.ref b, .int x_t, .int x_aim] M 0 0 (zr (.int (zbits (fun s => 0 < mWays (A 1) sl L t s aim m) (mN (A 1 6)))) (fun M' => mV b M0 M' I A L)) := by
  refine am.of (by decide) (Nat.le_of_ble_eq_true rfl) ?_
  refine aj.iconst (v := 0) dX12_shootersOf_0 rfl ?_
  refine aj.istore_n (lv' := [(3, .int 0), (0, .ref b), (1, .int x_t), (2, .int x_aim)]) dX12_shootersOf_1 (Nat.le_of_ble_eq_true rfl) rfl ?_
  refine aj.iconst (v := 0) dX12_shootersOf_2 rfl ?_
  refine aj.istore (lv' := [(4, .int 0), (3, .int 0), (0, .ref b), (1, .int x_t), (2, .int x_aim)]) dX12_shootersOf_3 (Nat.le_of_ble_eq_true rfl) rfl ?_
  refine aj.pick [0, 1, 2, 3, 4] rfl ?_
  exact shootersOf_loop t e_t aim e_aim m hB ht haim hm hok (mN (A 1 6)) 0 0 M (by omega) rfl hM0
