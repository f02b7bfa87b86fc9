def nsum (f : Nat → Nat) : Nat → Nat
  | 0 => 0
  | n + 1 => nsum f n + f n
theorem nsum_le {f : Nat → Nat} {c : Nat} (h : ∀ k, f k ≤ c) : ∀ n, nsum f n ≤ c * n
  | 0 => Nat.le_refl _
  | n + 1 => by
    show nsum f n + f n ≤ c * (n + 1)
    have := nsum_le h n
    have := h n
    rw [Nat.mul_succ]
    omega
theorem nsum_ge {f : Nat → Nat} : ∀ {n k : Nat}, k < n → f k ≤ nsum f n
  | 0, k, h => absurd h (by omega)
  | n + 1, k, h => by
    show f k ≤ nsum f n + f n
    by_cases e : k = n
    · rw [e]; omega
    · have := nsum_ge (f := f) (n := n) (k := k) (by omega)
      omega
theorem odds_loop {G : zG} {l : Launch} {b : Nat} {M0 : zM} {I : Nat → Int32} {A : Nat → Nat → Int32} {L : Nat → Nat → Int64} {Q : Option Value → zM → Prop} (t : Nat) {x_t : Int32} (e_t : x_t = nI t) (aim : Nat) {x_aim : Int32} (e_aim : x_aim = nI aim) (m : Nat) {sl ol : Option (List Nat)} {T : Nat} (hB : mOK (A 1) sl ol T) (ht : t < 4) (haim : aim ≤ 20) (hm : A 33 t = nI m) (hok : seenOK L t m) (x y : Int32) (hk : ∀ M, mV b M0 M I A L → aj G l kX12_odds 83 103 [(6, .long (lN (nsum (fun j => mWays (A 1) sl L t j aim m) (mN (A 1 6))))), (0, .ref b), (1, .int x_t), (2, .int x_aim), (3, .int x), (4, .int y)] [] M 0 0 Q) : ∀ (n i : Nat) (acc : Int64) (M : zM), i + n = mN (A 1 6) → acc = lN (nsum (fun j => mWays (A 1) sl L t j aim m) i) → mV b M0 M I A L → aj G l kX12_odds 83 72 [(8, .int (nI i)), (6, .long acc), (0, .ref b), (1, .int x_t), (2, .int x_aim), (3, .int x), (4, .int y)] [] M 0 0 Q := by
  have hm8 := hok.1
  have hT := hB.2.2.2.2.2.2.2.2.1
  have hN6 := hB.2.2.1.2
  have hN25 := hB.2.2.2.2.2.1.2
  have hN26 := hB.2.2.2.2.2.2.1.2
  have hN27 := hB.2.2.2.2.2.2.2.1.2
  have hN1 := hB.1.1.2
  have hN2 := hB.1.2.1.2
  intro n
  induction n with
  | zero =>
    intro i acc M hin hacc hM
    obtain ⟨g, u, v, w, hA⟩ := hM
    rw [show i = mN (A 1 6) by omega] at hacc
    subst hacc
    refine aj.iload dX12_odds_72 rfl ?_
    refine aj.aload_n dX12_odds_74 rfl ?_
    refine gM1 rfl dX12_odds_75 hA ?_
    refine aj.bipush (v := 6) dX12_odds_78 rfl ?_
    refine aM1N (i := 6) dX12_odds_80 hA rfl (by omega) ?_
    refine aj.icmp_geN (a := i) (b := mN (A 1 6)) (tgt := 103) dX12_odds_81 rfl hB.2.2.1.1 (by omega) (by omega) rfl (fun c81 => ?_) (fun c81 => ?_)
    · refine aj.pick [1, 2, 3, 4, 5, 6] rfl ?_
      exact hk M ⟨_, _, _, _, hA⟩
    · exact absurd c81 (by omega)
  | succ n ih =>
    intro i acc M hin hacc hM
    obtain ⟨g, u, v, w, hA⟩ := hM
    refine aj.iload dX12_odds_72 rfl ?_
    refine aj.aload_n dX12_odds_74 rfl ?_
    refine gM1 rfl dX12_odds_75 hA ?_
    refine aj.bipush (v := 6) dX12_odds_78 rfl ?_
    refine aM1N (i := 6) dX12_odds_80 hA rfl (by omega) ?_
    refine aj.icmp_geN (a := i) (b := mN (A 1 6)) (tgt := 103) dX12_odds_81 rfl hB.2.2.1.1 (by omega) (by omega) rfl (fun c81 => ?_) (fun c81 => ?_)
    · exact absurd c81 (by omega)
    · refine aj.lload dX12_odds_84 rfl ?_
      refine aj.aload_n dX12_odds_86 rfl ?_
      refine aj.iload_n dX12_odds_87 rfl ?_
      refine aj.iload_n dX12_odds_88 rfl ?_
      refine aj.iload dX12_odds_89 rfl ?_
      refine aj.callV1 (d' := 5) (As := [.int x_t, .int x_aim, .int (nI i)]) (rest := [.long acc]) dX12_odds_91 v_X12_379 li_X12_lotsOf hA.1 rfl rfl rfl (Nat.le_of_ble_eq_true rfl) (Nat.le_of_ble_eq_true rfl) (c_lotsOf t e_t aim e_aim i rfl (m) ⟨_, _, _, _, hA⟩ hB ht haim (by omega) hm hok) (fun M hM => ?_)
      obtain ⟨g, u, v, w, hA⟩ := hM
      refine aj.ladd dX12_odds_94 ?_
      refine aj.lstore (lv' := [(6, .long (acc + (lN (mWays (A 1) sl L t i aim m)))), (8, .int (nI i)), (0, .ref b), (1, .int x_t), (2, .int x_aim), (3, .int x), (4, .int y)]) dX12_odds_95 (Nat.le_of_ble_eq_true rfl) rfl ?_
      refine aj.iincN (a := i) (c := 1) (lv' := [(8, .int (nI (i + 1))), (6, .long (acc + (lN (mWays (A 1) sl L t i aim m)))), (0, .ref b), (1, .int x_t), (2, .int x_aim), (3, .int x), (4, .int y)]) dX12_odds_97 rfl (Nat.le_of_ble_eq_true rfl) rfl rfl rfl ?_
      refine aj.goto (tgt := 72) dX12_odds_100 rfl ?_
      refine aj.pick [0, 1, 2, 3, 4, 5, 6] rfl ?_
      exact ih (i + 1) _ M (by omega) (by rw [hacc, lN_add]; rfl) ⟨_, _, _, _, hA⟩
theorem odds_end {G : zG} {l : Launch} {b : Nat} {M0 : zM} {I : Nat → Int32} {A : Nat → Nat → Int32} {L : Nat → Nat → Int64} (t : Nat) {x_t : Int32} (e_t : x_t = nI t) (aim : Nat) {x_aim : Int32} (e_aim : x_aim = nI aim) (s : Nat) {x_s : Int32} (e_s : x_s = nI s) (m : Nat) {sl ol : Option (List Nat)} {T : Nat} (hB : mOK (A 1) sl ol T) (ht : t < 4) (haim : aim ≤ 20) (hs : s < mN (A 1 6)) (hm : A 33 t = nI m) (hok : seenOK L t m) (y : Int32) (M : zM) (hM : mV b M0 M I A L) : aj G l kX12_odds 83 103 [(6, .long (lN (nsum (fun j => mWays (A 1) sl L t j aim m) (mN (A 1 6))))), (0, .ref b), (1, .int x_t), (2, .int x_aim), (3, .int x_s), (4, .int y)] [] M 0 0 (zr (.long (if nsum (fun j => mWays (A 1) sl L t j aim m) (mN (A 1 6)) = 0 then (-5 : Int64) else mPart (lN (mWays (A 1) sl L t s aim m)) (lN (nsum (fun j => mWays (A 1) sl L t j aim m) (mN (A 1 6)))) y)) (fun M' => mV b M0 M' I A L)) := by
  obtain ⟨g, u, v, w, hA⟩ := hM
  have hm8 := hok.1
  have hT := hB.2.2.2.2.2.2.2.2.1
  have hN6 := hB.2.2.1.2
  have hN25 := hB.2.2.2.2.2.1.2
  have hN26 := hB.2.2.2.2.2.2.1.2
  have hN27 := hB.2.2.2.2.2.2.2.1.2
  have hN1 := hB.1.1.2
  have hN2 := hB.1.2.1.2
  have hw8 : 10 ^ m ≤ 10 ^ 8 := Nat.pow_le_pow_right (by decide) hm8
  have hwl : ∀ j, mWays (A 1) sl L t j aim m ≤ 10 ^ 8 := fun j => Nat.le_trans (nprod_le (fun k => zcnt_le _ 10) m) hw8
  have hsl := nsum_le (f := (fun j => mWays (A 1) sl L t j aim m)) hwl (mN (A 1 6))
  have hsl2 : nsum (fun j => mWays (A 1) sl L t j aim m) (mN (A 1 6)) ≤ 4 * 10 ^ 8 := Nat.le_trans hsl (by omega)
  have hwls := hwl s
  refine aj.lload dX12_odds_103 rfl ?_
  refine aj.lconst (v := 0) dX12_odds_105 rfl ?_
  refine aj.lif_ne (tgt := 116) dX12_odds_106 dX12_odds_107 rfl (fun c106 => ?_) (fun c106 => ?_)
  · have hz0 : ¬ nsum (fun j => mWays (A 1) sl L t j aim m) (mN (A 1 6)) = 0 := fun z => c106 (by rw [z]; rfl)
    refine aj.aload_n dX12_odds_116 rfl ?_
    refine aj.iload_n dX12_odds_117 rfl ?_
    refine aj.iload_n dX12_odds_118 rfl ?_
    refine aj.iload_n dX12_odds_119 rfl ?_
    refine aj.callV1 (d' := 5) (As := [.int x_t, .int x_aim, .int x_s]) (rest := []) dX12_odds_120 v_X12_379 li_X12_lotsOf hA.1 rfl rfl rfl (Nat.le_of_ble_eq_true rfl) (Nat.le_of_ble_eq_true rfl) (c_lotsOf t e_t aim e_aim s e_s (m) ⟨_, _, _, _, hA⟩ hB ht haim (by omega) hm hok) (fun M hM => ?_)
    obtain ⟨g, u, v, w, hA⟩ := hM
    refine aj.lload dX12_odds_123 rfl ?_
    refine aj.iload dX12_odds_125 rfl ?_
    refine aj.callS1 (d' := 82) (As := [.long (lN (mWays (A 1) sl L t s aim m)), .long (lN (nsum (fun j => mWays (A 1) sl L t j aim m) (mN (A 1 6)))), .int y]) (rest := []) dX12_odds_127 v_X12_352 w1727 rfl rfl (Nat.le_of_ble_eq_true rfl) (Nat.le_of_ble_eq_true rfl) (c_part _ (lN (mWays (A 1) sl L t s aim m)) (lN (nsum (fun j => mWays (A 1) sl L t j aim m) (mN (A 1 6)))) y (by rw [pk_lT (by omega)]; omega) (by rw [pk_lT (by omega)]; omega) (by rw [pk_lT (by omega)]; omega)) (fun M hM => ?_)
    subst hM
    exact aj.lret rfl dX12_odds_130 ⟨by rw [if_neg hz0], _, _, _, _, hA⟩
  · have hz0 : nsum (fun j => mWays (A 1) sl L t j aim m) (mN (A 1 6)) = 0 := (pk_lEQ (by omega) (by decide)).mp c106
    refine aj.ldc2 dX12_odds_110 w1776 ?_
    refine aj.goto (tgt := 130) dX12_odds_113 rfl ?_
    exact aj.lret rfl dX12_odds_130 ⟨by rw [if_pos hz0], _, _, _, _, hA⟩
theorem q_odds {G : zG} {l : Launch} {b : Nat} {M0 M : zM} {I : Nat → Int32} {A : Nat → Nat → Int32} {L : Nat → Nat → Int64} (t : Int32) (aim : Int32) (s : Int32) (q : Int32) (hM : mW b M0 M I A L) (hTr : ∀ j, j < 4 → bd (A 33 j) 40) {sl ol : Option (List Nat)} {T : Nat} (hB : mOK (A 1) sl ol T) : am G l kX12_odds 83 [.ref b, .int t, .int aim, .int s, .int q] M 0 0 (zr (.long (if inR t 0 3 ∧ inR aim 0 20 ∧ inR s 0 ((mN (A 1 6) : Int) - 1) ∧ inR q 0 1 then (if mSeenC A L t aim = 0 then (if nsum (fun j => mWays (A 1) sl L (mN t) j (mN aim) (mN (A 33 (mN t)))) (mN (A 1 6)) = 0 then (-5 : Int64) else mPart (lN (mWays (A 1) sl L (mN t) (mN s) (mN aim) (mN (A 33 (mN t))))) (lN (nsum (fun j => mWays (A 1) sl L (mN t) j (mN aim) (mN (A 33 (mN t)))) (mN (A 1 6)))) q) else (mSeenC A L t aim).toInt64) else -2)) (fun M' => mV b M0 M' I A L)) := by
  obtain ⟨u, v, w, hA⟩ := hM
  have hT := hB.2.2.2.2.2.2.2.2.1
  have hN6 := hB.2.2.1.2
  have hN25 := hB.2.2.2.2.2.1.2
  have hN26 := hB.2.2.2.2.2.2.1.2
  have hN27 := hB.2.2.2.2.2.2.2.1.2
  have hN1 := hB.1.1.2
  have hN2 := hB.1.2.1.2
  refine am.of (by decide) (Nat.le_of_ble_eq_true rfl) ?_
  refine aj.aload_n dX12_odds_0 rfl ?_
  refine aj.iconst (v := 0) dX12_odds_1 rfl ?_
  refine pM0 rfl dX12_odds_2 hA (fun M hA => ?_)
  refine aj.iload_n dX12_odds_5 rfl ?_
  refine aj.i2l dX12_odds_6 ?_
  refine aj.lconst (v := 0) dX12_odds_7 rfl ?_
  refine aj.ldc2 dX12_odds_8 w1608 ?_
  refine aj.callS1 (d' := 0) (As := [.long (Int32.toInt64 t), .long 0, .long 3]) (rest := []) dX12_odds_11 v_X12_142 w1380 rfl rfl (Nat.le_of_ble_eq_true rfl) (Nat.le_of_ble_eq_true rfl) (c_withinI (a := 0) (c := 3) _ t 0 3 rfl rfl) (fun M hM => ?_)
  subst hM
  refine aj.if_eqB (tgt := 45) dX12_odds_14 rfl (fun c14 => ?_) (fun c14 => ?_)
  · refine aj.ldc2 dX12_odds_45 w1717 ?_
    exact aj.lret rfl dX12_odds_48 ⟨by rw [if_neg (fun z => c14 z.1)], mV.of ⟨_, _, _, hA⟩⟩
  · have h_t := inR_bd (n := 3) c14 (by decide)
    have h2_t := h_t.2
    refine aj.iload_n dX12_odds_17 rfl ?_
    refine aj.i2l dX12_odds_18 ?_
    refine aj.callS1 (d' := 1) (As := [.long (Int32.toInt64 aim)]) (rest := []) dX12_odds_19 v_X12_241 w1506 rfl rfl (Nat.le_of_ble_eq_true rfl) (Nat.le_of_ble_eq_true rfl) (c_isPlaceI _ aim) (fun M hM => ?_)
    subst hM
    refine aj.if_eqB (tgt := 45) dX12_odds_22 rfl (fun c22 => ?_) (fun c22 => ?_)
    · refine aj.ldc2 dX12_odds_45 w1717 ?_
      exact aj.lret rfl dX12_odds_48 ⟨by rw [if_neg (fun z => c22 z.2.1)], mV.of ⟨_, _, _, hA⟩⟩
    · have h_aim := inR_bd (n := 20) c22 (by decide)
      have h2_aim := h_aim.2
      refine aj.aload_n dX12_odds_25 rfl ?_
      refine aj.iload_n dX12_odds_26 rfl ?_
      refine aj.i2l dX12_odds_27 ?_
      refine aj.callV1 (d' := 1) (As := [.long (Int32.toInt64 s)]) (rest := []) dX12_odds_28 v_X12_236 li_X12_isShooter hA.1 rfl rfl rfl (Nat.le_of_ble_eq_true rfl) (Nat.le_of_ble_eq_true rfl) (c_isShooter s ⟨_, _, _, hA⟩ hB) (fun M hM => ?_)
      obtain ⟨u, v, w, hA⟩ := hM
      refine aj.if_eqB (tgt := 45) dX12_odds_31 rfl (fun c31 => ?_) (fun c31 => ?_)
      · refine aj.ldc2 dX12_odds_45 w1717 ?_
        exact aj.lret rfl dX12_odds_48 ⟨by rw [if_neg (fun z => c31 z.2.2.1)], mV.of ⟨_, _, _, hA⟩⟩
      · have h_s := inR_bdS c31 (by omega)
        have h2_s := h_s.2
        refine aj.iload dX12_odds_34 rfl ?_
        refine aj.i2l dX12_odds_36 ?_
        refine aj.lconst (v := 0) dX12_odds_37 rfl ?_
        refine aj.lconst (v := 1) dX12_odds_38 rfl ?_
        refine aj.callS1 (d' := 0) (As := [.long (Int32.toInt64 q), .long 0, .long 1]) (rest := []) dX12_odds_39 v_X12_142 w1380 rfl rfl (Nat.le_of_ble_eq_true rfl) (Nat.le_of_ble_eq_true rfl) (c_withinI (a := 0) (c := 1) _ q 0 1 rfl rfl) (fun M hM => ?_)
        subst hM
        refine aj.if_neB (tgt := 49) dX12_odds_42 rfl (fun c42 => ?_) (fun c42 => ?_)
        · have h_q := inR_bd (n := 1) c42 (by decide)
          have h2_q := h_q.2
          refine aj.aload_n dX12_odds_49 rfl ?_
          refine aj.iload_n dX12_odds_50 rfl ?_
          refine aj.iload_n dX12_odds_51 rfl ?_
          refine aj.callV1 (d' := 2) (As := [.int t, .int aim]) (rest := []) dX12_odds_52 v_X12_383 li_X12_noSeen hA.1 rfl rfl rfl (Nat.le_of_ble_eq_true rfl) (Nat.le_of_ble_eq_true rfl) (q_noSeen t aim ⟨_, _, _, hA⟩ hTr hB) (fun M hM => ?_)
          obtain ⟨u, v, w, hA⟩ := hM
          refine aj.istore (lv' := [(5, .int (mSeenC A L t aim)), (0, .ref b), (1, .int t), (2, .int aim), (3, .int s), (4, .int q)]) dX12_odds_55 (Nat.le_of_ble_eq_true rfl) rfl ?_
          refine aj.iload dX12_odds_57 rfl ?_
          refine aj.if_eq (tgt := 66) dX12_odds_59 rfl (fun c59 => ?_) (fun c59 => ?_)
          · obtain ⟨k1, k2, k3, k4, k5⟩ := mSeenC_0 c59
            have hok := seenOK_of (inR_bd1 (n := 8) k4 (by decide)).2.1 k5
            refine aj.lconst (v := 0) dX12_odds_66 rfl ?_
            refine aj.lstore (lv' := [(6, .long 0), (5, .int (mSeenC A L t aim)), (0, .ref b), (1, .int t), (2, .int aim), (3, .int s), (4, .int q)]) dX12_odds_67 (Nat.le_of_ble_eq_true rfl) rfl ?_
            refine aj.iconst (v := 0) dX12_odds_69 rfl ?_
            refine aj.istore (lv' := [(8, .int 0), (6, .long 0), (5, .int (mSeenC A L t aim)), (0, .ref b), (1, .int t), (2, .int aim), (3, .int s), (4, .int q)]) dX12_odds_70 (Nat.le_of_ble_eq_true rfl) rfl ?_
            refine aj.pick [0, 1, 3, 4, 5, 6, 7] rfl ?_
            rw [if_pos (⟨c14, c22, c31, c42⟩ : _ ∧ _ ∧ _ ∧ _), if_pos c59]
            exact odds_loop (mN t) h_t.1 (mN aim) h_aim.1 (mN (A 33 (mN t))) hB (by omega) h2_aim (hTr (mN t) (by omega)).1 hok s q (fun M hM => odds_end (mN t) h_t.1 (mN aim) h_aim.1 (mN s) h_s.1 (mN (A 33 (mN t))) hB (by omega) h2_aim h2_s (hTr (mN t) (by omega)).1 hok q M hM) (mN (A 1 6)) 0 0 M (by omega) rfl (mV.of ⟨_, _, _, hA⟩)
          · refine aj.iload dX12_odds_62 rfl ?_
            refine aj.i2l dX12_odds_64 ?_
            exact aj.lret rfl dX12_odds_65 ⟨by rw [if_pos (⟨c14, c22, c31, c42⟩ : _ ∧ _ ∧ _ ∧ _), if_neg c59], mV.of ⟨_, _, _, hA⟩⟩
        · refine aj.ldc2 dX12_odds_45 w1717 ?_
          exact aj.lret rfl dX12_odds_48 ⟨by rw [if_neg (fun z => c42 z.2.2.2)], mV.of ⟨_, _, _, hA⟩⟩
