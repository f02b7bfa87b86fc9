theorem beats_loop {G : zG} {l : Launch} {b : Nat} {M0 : zM} {I : Nat → Int32} {A : Nat → Nat → Int32} {L : Nat → Nat → Int64} (n : Nat) {x_n : Int32} (e_n : x_n = nI n) (q : Int32) (W1 W2 : Nat → Nat) (h1 : ∀ k, k < 601 → L 22 k = lN (W1 k)) (h2 : ∀ k, k < 601 → L 23 k = lN (W2 k)) (hn : n ≤ 3) (hb : nsum (fun k => W1 k * nsum W2 k) 601 < 2 ^ 40) : ∀ (m k : Nat) (ls ab : Int64) (M : zM), k + m = 601 → ls = lN (nsum W2 k) → ab = lN (nsum (fun k => W1 k * nsum W2 k) k) → mW b M0 M I A L → aj G l kX12_beats 83 88 [(9, .int (nI k)), (7, .long ls), (5, .long ab), (0, .ref b), (3, .int x_n), (4, .int q)] [] M 0 0 (zr (.long (mPart (lN (nsum (fun k => W1 k * nsum W2 k) 601)) (lN (10 ^ (2 * n))) q)) (fun M' => mW b M0 M' I A L)) := by
  have h106 : 10 ^ (2 * n) ≤ 10 ^ 6 := Nat.pow_le_pow_right (by decide) (by omega)
  have h1060 : 0 < 10 ^ (2 * n) := Nat.pow_pos (by decide)
  intro m
  induction m with
  | zero =>
    intro k ls ab M hin hls hab hM
    obtain ⟨u, v, w, hA⟩ := hM
    rw [show k = 601 by omega] at hab
    subst hab
    refine aj.iload dX12_beats_88 rfl ?_
    refine aj.sipush (v := 601) dX12_beats_90 rfl ?_
    refine aj.icmp_geN (a := k) (b := 601) (tgt := 129) dX12_beats_93 rfl rfl (by omega) (by omega) rfl (fun c93 => ?_) (fun c93 => ?_)
    · refine aj.lload dX12_beats_129 rfl ?_
      refine aj.iconst (v := 2) dX12_beats_131 rfl ?_
      refine aj.iload_n dX12_beats_132 rfl ?_
      refine aj.imulN (a := 2) (b := n) dX12_beats_133 rfl e_n ?_
      refine aj.callS1 (d' := 0) (As := [.int (nI (2 * n))]) (rest := [.long (lN (nsum (fun k => W1 k * nsum W2 k) 601))]) dX12_beats_134 v_X12_348 w1724 rfl rfl (Nat.le_of_ble_eq_true rfl) (Nat.le_of_ble_eq_true rfl) (c_wholeOf _ (2 * n) rfl (by omega)) (fun M hM => ?_)
      subst hM
      refine aj.iload dX12_beats_137 rfl ?_
      refine aj.callS1 (d' := 82) (As := [.long (lN (nsum (fun k => W1 k * nsum W2 k) 601)), .long (lN (10 ^ (2 * n))), .int q]) (rest := []) dX12_beats_139 v_X12_352 w1727 rfl rfl (Nat.le_of_ble_eq_true rfl) (Nat.le_of_ble_eq_true rfl) (c_part _ (lN (nsum (fun k => W1 k * nsum W2 k) 601)) (lN (10 ^ (2 * n))) q (by rw [pk_lT (by omega)]; omega) (by rw [pk_lT (by omega)]; omega) (by rw [pk_lT (by omega)]; omega)) (fun M hM => ?_)
      subst hM
      exact aj.lret rfl dX12_beats_142 ⟨rfl, _, _, _, hA⟩
    · exact absurd c93 (by omega)
  | succ m ih =>
    intro k ls ab M hin hls hab hM
    obtain ⟨u, v, w, hA⟩ := hM
    refine aj.iload dX12_beats_88 rfl ?_
    refine aj.sipush (v := 601) dX12_beats_90 rfl ?_
    refine aj.icmp_geN (a := k) (b := 601) (tgt := 129) dX12_beats_93 rfl rfl (by omega) (by omega) rfl (fun c93 => ?_) (fun c93 => ?_)
    · exact absurd c93 (by omega)
    · refine aj.lload dX12_beats_96 rfl ?_
      refine aj.aload_n dX12_beats_98 rfl ?_
      refine gM22 rfl dX12_beats_99 hA ?_
      refine aj.iload dX12_beats_102 rfl ?_
      refine aM22N (i := k) dX12_beats_104 hA rfl (by omega) ?_
      refine aj.lload dX12_beats_105 rfl ?_
      refine aj.lmul dX12_beats_107 ?_
      refine aj.ladd dX12_beats_108 ?_
      refine aj.lstore (lv' := [(5, .long (ab + ((L 22 k) * ls))), (9, .int (nI k)), (7, .long ls), (0, .ref b), (3, .int x_n), (4, .int q)]) dX12_beats_109 (Nat.le_of_ble_eq_true rfl) rfl ?_
      refine aj.lload dX12_beats_111 rfl ?_
      refine aj.aload_n dX12_beats_113 rfl ?_
      refine gM23 rfl dX12_beats_114 hA ?_
      refine aj.iload dX12_beats_117 rfl ?_
      refine aM23N (i := k) dX12_beats_119 hA rfl (by omega) ?_
      refine aj.ladd dX12_beats_120 ?_
      refine aj.lstore (lv' := [(7, .long (ls + (L 23 k))), (5, .long (ab + ((L 22 k) * ls))), (9, .int (nI k)), (0, .ref b), (3, .int x_n), (4, .int q)]) dX12_beats_121 (Nat.le_of_ble_eq_true rfl) rfl ?_
      refine aj.iincN (a := k) (c := 1) (lv' := [(9, .int (nI (k + 1))), (7, .long (ls + (L 23 k))), (5, .long (ab + ((L 22 k) * ls))), (0, .ref b), (3, .int x_n), (4, .int q)]) dX12_beats_123 rfl (Nat.le_of_ble_eq_true rfl) rfl rfl rfl ?_
      refine aj.goto (tgt := 88) dX12_beats_126 rfl ?_
      refine aj.pick [0, 1, 2, 3, 4, 5] rfl ?_
      exact ih (k + 1) _ _ M (by omega) (by rw [hls, h2 k (by omega), lN_add]; rfl) (by rw [hab, hls, h1 k (by omega), lN_mul, lN_add]; rfl) ⟨_, _, _, hA⟩
theorem q_beats {G : zG} {l : Launch} {b : Nat} {M0 M : zM} {I : Nat → Int32} {A : Nat → Nat → Int32} {L : Nat → Nat → Int64} (s : Int32) (p : Int32) (n : Int32) (q : Int32) (hM : mW b M0 M I A L) {sl ol : Option (List Nat)} {T : Nat} (hB : mOK (A 1) sl ol T) : am G l kX12_beats 83 [.ref b, .int s, .int p, .int n, .int q] M 0 0 (zr (.long (if (inR s 0 ((mN (A 1 6) : Int) - 1) ∧ inR p 0 ((mN (A 1 6) : Int) - 1) ∧ ¬ s = p ∧ inR q 0 1) then (if inR n 1 3 then mPart (lN (mBeat (mSc (A 1) sl (mN s) (mBest (A 1) sl (mN s) (mN (A 1 (21 + mN s))) (mOpen ol (mN (A 1 26)) (mN (A 1 27)) (mN (A 1 25)) = true) 20) (mOpen ol (mN (A 1 26)) (mN (A 1 27)) (mN (A 1 25)) = true)) (mSc (A 1) sl (mN p) (mBest (A 1) sl (mN p) (mN (A 1 (21 + mN p))) (mOpen ol (mN (A 1 26)) (mN (A 1 27)) (mN (A 1 25)) = true) 20) (mOpen ol (mN (A 1 26)) (mN (A 1 27)) (mN (A 1 25)) = true)) (mN n))) (lN (10 ^ (2 * mN n))) q else -3) else -2)) (fun M' => mH b M0 M' I A L)) := by
  obtain ⟨u, v, w, hA⟩ := hM
  have hT := hB.2.2.2.2.2.2.2.2.1
  have hN6 := hB.2.2.1.2
  have hN25 := hB.2.2.2.2.2.1.2
  have hN26 := hB.2.2.2.2.2.2.1.2
  have hN27 := hB.2.2.2.2.2.2.2.1.2
  have hN1 := hB.1.1.2
  have hN2 := hB.1.2.1.2
  refine am.of (by decide) (Nat.le_of_ble_eq_true rfl) ?_
  refine aj.aload_n dX12_beats_0 rfl ?_
  refine aj.iconst (v := 0) dX12_beats_1 rfl ?_
  refine pM0 rfl dX12_beats_2 hA (fun M hA => ?_)
  refine aj.aload_n dX12_beats_5 rfl ?_
  refine aj.iload_n dX12_beats_6 rfl ?_
  refine aj.i2l dX12_beats_7 ?_
  refine aj.callV1 (d' := 1) (As := [.long (Int32.toInt64 s)]) (rest := []) dX12_beats_8 v_X12_236 li_X12_isShooter hA.1 rfl rfl rfl (Nat.le_of_ble_eq_true rfl) (Nat.le_of_ble_eq_true rfl) (c_isShooter s ⟨_, _, _, hA⟩ hB) (fun M hM => ?_)
  obtain ⟨u, v, w, hA⟩ := hM
  refine aj.if_eqB (tgt := 39) dX12_beats_11 rfl (fun c11 => ?_) (fun c11 => ?_)
  · refine aj.ldc2 dX12_beats_39 w1717 ?_
    exact aj.lret rfl dX12_beats_42 ⟨by rw [if_neg (fun z => c11 z.1)], mH.of ⟨_, _, _, hA⟩⟩
  · have h_s := inR_bdS c11 (by omega)
    have h2_s := h_s.2
    refine aj.aload_n dX12_beats_14 rfl ?_
    refine aj.iload_n dX12_beats_15 rfl ?_
    refine aj.i2l dX12_beats_16 ?_
    refine aj.callV1 (d' := 1) (As := [.long (Int32.toInt64 p)]) (rest := []) dX12_beats_17 v_X12_236 li_X12_isShooter hA.1 rfl rfl rfl (Nat.le_of_ble_eq_true rfl) (Nat.le_of_ble_eq_true rfl) (c_isShooter p ⟨_, _, _, hA⟩ hB) (fun M hM => ?_)
    obtain ⟨u, v, w, hA⟩ := hM
    refine aj.if_eqB (tgt := 39) dX12_beats_20 rfl (fun c20 => ?_) (fun c20 => ?_)
    · refine aj.ldc2 dX12_beats_39 w1717 ?_
      exact aj.lret rfl dX12_beats_42 ⟨by rw [if_neg (fun z => c20 z.2.1)], mH.of ⟨_, _, _, hA⟩⟩
    · have h_p := inR_bdS c20 (by omega)
      have h2_p := h_p.2
      refine aj.iload_n dX12_beats_23 rfl ?_
      refine aj.iload_n dX12_beats_24 rfl ?_
      refine aj.icmp_eq (tgt := 39) dX12_beats_25 rfl (fun c25 => ?_) (fun c25 => ?_)
      · refine aj.ldc2 dX12_beats_39 w1717 ?_
        exact aj.lret rfl dX12_beats_42 ⟨by rw [if_neg (fun z => z.2.2.1 c25)], mH.of ⟨_, _, _, hA⟩⟩
      · refine aj.iload dX12_beats_28 rfl ?_
        refine aj.i2l dX12_beats_30 ?_
        refine aj.lconst (v := 0) dX12_beats_31 rfl ?_
        refine aj.lconst (v := 1) dX12_beats_32 rfl ?_
        refine aj.callS1 (d' := 0) (As := [.long (Int32.toInt64 q), .long 0, .long 1]) (rest := []) dX12_beats_33 v_X12_142 w1380 rfl rfl (Nat.le_of_ble_eq_true rfl) (Nat.le_of_ble_eq_true rfl) (c_withinI (a := 0) (c := 1) _ q 0 1 rfl rfl) (fun M hM => ?_)
        subst hM
        refine aj.if_neB (tgt := 43) dX12_beats_36 rfl (fun c36 => ?_) (fun c36 => ?_)
        · have h_q := inR_bd (n := 1) c36 (by decide)
          have h2_q := h_q.2
          refine aj.iload_n dX12_beats_43 rfl ?_
          refine aj.i2l dX12_beats_44 ?_
          refine aj.lconst (v := 1) dX12_beats_45 rfl ?_
          refine aj.ldc2 dX12_beats_46 w1608 ?_
          refine aj.callS1 (d' := 0) (As := [.long (Int32.toInt64 n), .long 1, .long 3]) (rest := []) dX12_beats_49 v_X12_142 w1380 rfl rfl (Nat.le_of_ble_eq_true rfl) (Nat.le_of_ble_eq_true rfl) (c_withinI (a := 1) (c := 3) _ n 1 3 rfl rfl) (fun M hM => ?_)
          subst hM
          refine aj.if_neB (tgt := 59) dX12_beats_52 rfl (fun c52 => ?_) (fun c52 => ?_)
          · have h_n := inR_bd1 (n := 3) c52 (by decide)
            have h3_n := h_n.2.2
            have h2_n := h_n.2.1
            refine aj.aload_n dX12_beats_59 rfl ?_
            refine aj.iload_n dX12_beats_60 rfl ?_
            refine aj.iload_n dX12_beats_61 rfl ?_
            refine aj.aload_n dX12_beats_62 rfl ?_
            refine gM22 rfl dX12_beats_63 hA ?_
            refine aj.callV0 (d' := 6) (As := [.int s, .int n, .ref (b + 9)]) (rest := []) dX12_beats_66 v_X12_344 li_X12_laysWays hA.1 rfl rfl rfl (Nat.le_of_ble_eq_true rfl) (Nat.le_of_ble_eq_true rfl) (c_laysWays22 (mN s) h_s.1 (mN n) h_n.1 ⟨_, _, _, hA⟩ hB (by omega) (by omega)) (fun M hM => ?_)
            obtain ⟨g, gt, hg, u, v, w, hA⟩ := hM
            refine aj.aload_n dX12_beats_69 rfl ?_
            refine aj.iload_n dX12_beats_70 rfl ?_
            refine aj.iload_n dX12_beats_71 rfl ?_
            refine aj.aload_n dX12_beats_72 rfl ?_
            refine gM23 rfl dX12_beats_73 hA ?_
            refine aj.callV0 (d' := 6) (As := [.int p, .int n, .ref (b + 10)]) (rest := []) dX12_beats_76 v_X12_344 li_X12_laysWays hA.1 rfl rfl rfl (Nat.le_of_ble_eq_true rfl) (Nat.le_of_ble_eq_true rfl) (c_laysWays23 (mN p) h_p.1 (mN n) h_n.1 ⟨_, _, _, hA⟩ hB (by omega) (by omega)) (fun M hM => ?_)
            obtain ⟨g2, gt2, hg2, u, v, w, hA⟩ := hM
            refine aj.lconst (v := 0) dX12_beats_79 rfl ?_
            refine aj.lstore (lv' := [(5, .long 0), (0, .ref b), (1, .int s), (2, .int p), (3, .int n), (4, .int q)]) dX12_beats_80 (Nat.le_of_ble_eq_true rfl) rfl ?_
            refine aj.lconst (v := 0) dX12_beats_82 rfl ?_
            refine aj.lstore (lv' := [(7, .long 0), (5, .long 0), (0, .ref b), (1, .int s), (2, .int p), (3, .int n), (4, .int q)]) dX12_beats_83 (Nat.le_of_ble_eq_true rfl) rfl ?_
            refine aj.iconst (v := 0) dX12_beats_85 rfl ?_
            refine aj.istore (lv' := [(9, .int 0), (7, .long 0), (5, .long 0), (0, .ref b), (1, .int s), (2, .int p), (3, .int n), (4, .int q)]) dX12_beats_86 (Nat.le_of_ble_eq_true rfl) rfl ?_
            refine aj.pick [0, 1, 2, 3, 6, 7] rfl ?_
            rw [if_pos (⟨c11, c20, c25, c36⟩ : _ ∧ _ ∧ _ ∧ _), if_pos c52]
            have hbe := mBeat_is (s1 := (mSc (A 1) sl (mN s) (mBest (A 1) sl (mN s) (mN (A 1 (21 + mN s))) (mOpen ol (mN (A 1 26)) (mN (A 1 27)) (mN (A 1 25)) = true) 20) (mOpen ol (mN (A 1 26)) (mN (A 1 27)) (mN (A 1 25)) = true))) (s2 := (mSc (A 1) sl (mN p) (mBest (A 1) sl (mN p) (mN (A 1 (21 + mN p))) (mOpen ol (mN (A 1 26)) (mN (A 1 27)) (mN (A 1 25)) = true) 20) (mOpen ol (mN (A 1 26)) (mN (A 1 27)) (mN (A 1 25)) = true))) (fun k _ => mSc_bd hB _ k) (fun k _ => mSc_bd hB _ k) (n := mN n) (by omega)
            have hbl := mBeat_le (mSc (A 1) sl (mN s) (mBest (A 1) sl (mN s) (mN (A 1 (21 + mN s))) (mOpen ol (mN (A 1 26)) (mN (A 1 27)) (mN (A 1 25)) = true) 20) (mOpen ol (mN (A 1 26)) (mN (A 1 27)) (mN (A 1 25)) = true)) (mSc (A 1) sl (mN p) (mBest (A 1) sl (mN p) (mN (A 1 (21 + mN p))) (mOpen ol (mN (A 1 26)) (mN (A 1 27)) (mN (A 1 25)) = true) 20) (mOpen ol (mN (A 1 26)) (mN (A 1 27)) (mN (A 1 25)) = true)) (mN n)
            have h103 : 10 ^ mN n ≤ 10 ^ 3 := Nat.pow_le_pow_right (by decide) (by omega)
            have hb2 : 10 ^ mN n * 10 ^ mN n ≤ 10 ^ 3 * 10 ^ 3 := Nat.mul_le_mul h103 h103
            have hl := beats_loop (G := G) (l := l) (mN n) h_n.1 q _ _ hg hg2 (by omega) (by rw [hbe]; omega) 601 0 0 0 M (by omega) rfl rfl ⟨_, _, _, hA⟩
            rw [hbe] at hl
            exact hl.mono (fun r M h => ⟨h.1, _, _, _, h.2, ⟨rfl, rfl, rfl⟩, ⟨rfl, rfl, rfl, rfl, rfl⟩, rfl⟩)
          · refine aj.ldc2 dX12_beats_55 w1718 ?_
            exact aj.lret rfl dX12_beats_58 ⟨by rw [if_pos (⟨c11, c20, c25, c36⟩ : _ ∧ _ ∧ _ ∧ _), if_neg c52], mH.of ⟨_, _, _, hA⟩⟩
        · refine aj.ldc2 dX12_beats_39 w1717 ?_
          exact aj.lret rfl dX12_beats_42 ⟨by rw [if_neg (fun z => c36 z.2.2.2)], mH.of ⟨_, _, _, hA⟩⟩
