theorem q_round {G : zG} {l : Launch} {b : Nat} {M0 M : zM} {I : Nat → Int32} {A : Nat → Nat → Int32} {L : Nat → Nat → Int64} (s : Int32) (n : Int32) (q : Int32) (hM : mW b M0 M I A L) {sl ol : Option (List Nat)} {T : Nat} (hB : mOK (A 1) sl ol T) : am G l kX12_round 83 [.ref b, .int s, .int n, .int q] M 0 0 (zr (.long (if inR s 0 ((mN (A 1 6) : Int) - 1) ∧ inR q 0 1 then (if inR n 0 4 then mPart (lI (mR (A 1) sl ol (mN s) (mN n) (mN (A 1 (21 + mN s))) (mN (A 1 27)) (mN (A 1 25)))) (lN (10 ^ mN n)) q else -99000003) else -99000002)) (fun M' => mH b M0 M' I A L)) := by
  obtain ⟨u, v, w, hA⟩ := hM
  have hT := hB.2.2.2.2.2.2.2.2.1
  have hN6 := hB.2.2.1.2
  have hN25 := hB.2.2.2.2.2.1.2
  have hN26 := hB.2.2.2.2.2.2.1.2
  have hN27 := hB.2.2.2.2.2.2.2.1.2
  have hN1 := hB.1.1.2
  have hN2 := hB.1.2.1.2
  refine am.of (by decide) (Nat.le_of_ble_eq_true rfl) ?_
  refine aj.aload_n dX12_round_0 rfl ?_
  refine aj.iconst (v := 0) dX12_round_1 rfl ?_
  refine pM0 rfl dX12_round_2 hA (fun M hA => ?_)
  refine aj.aload_n dX12_round_5 rfl ?_
  refine aj.iload_n dX12_round_6 rfl ?_
  refine aj.i2l dX12_round_7 ?_
  refine aj.callV1 (d' := 1) (As := [.long (Int32.toInt64 s)]) (rest := []) dX12_round_8 v_X12_236 li_X12_isShooter hA.1 rfl rfl rfl (Nat.le_of_ble_eq_true rfl) (Nat.le_of_ble_eq_true rfl) (c_isShooter s ⟨_, _, _, hA⟩ hB) (fun M hM => ?_)
  obtain ⟨u, v, w, hA⟩ := hM
  refine aj.if_eqB (tgt := 24) dX12_round_11 rfl (fun c11 => ?_) (fun c11 => ?_)
  · refine aj.ldc2 dX12_round_24 w1736 ?_
    exact aj.lret rfl dX12_round_27 ⟨by rw [if_neg (fun z => c11 z.1)], mH.of ⟨_, _, _, hA⟩⟩
  · have h_s := inR_bdS c11 (by omega)
    have h2_s := h_s.2
    refine aj.iload_n dX12_round_14 rfl ?_
    refine aj.i2l dX12_round_15 ?_
    refine aj.lconst (v := 0) dX12_round_16 rfl ?_
    refine aj.lconst (v := 1) dX12_round_17 rfl ?_
    refine aj.callS1 (d' := 0) (As := [.long (Int32.toInt64 q), .long 0, .long 1]) (rest := []) dX12_round_18 v_X12_142 w1380 rfl rfl (Nat.le_of_ble_eq_true rfl) (Nat.le_of_ble_eq_true rfl) (c_withinI (a := 0) (c := 1) _ q 0 1 rfl rfl) (fun M hM => ?_)
    subst hM
    refine aj.if_neB (tgt := 28) dX12_round_21 rfl (fun c21 => ?_) (fun c21 => ?_)
    · have h_q := inR_bd (n := 1) c21 (by decide)
      have h2_q := h_q.2
      refine aj.iload_n dX12_round_28 rfl ?_
      refine aj.i2l dX12_round_29 ?_
      refine aj.lconst (v := 0) dX12_round_30 rfl ?_
      refine aj.ldc2 dX12_round_31 w1737 ?_
      refine aj.callS1 (d' := 0) (As := [.long (Int32.toInt64 n), .long 0, .long 4]) (rest := []) dX12_round_34 v_X12_142 w1380 rfl rfl (Nat.le_of_ble_eq_true rfl) (Nat.le_of_ble_eq_true rfl) (c_withinI (a := 0) (c := 4) _ n 0 4 rfl rfl) (fun M hM => ?_)
      subst hM
      refine aj.if_neB (tgt := 44) dX12_round_37 rfl (fun c37 => ?_) (fun c37 => ?_)
      · have h_n := inR_bd (n := 4) c37 (by decide)
        have h2_n := h_n.2
        have hrb := mR_bd hB (ol := ol) (mN s) (mN n) h2_n (mN (A 1 (21 + mN s))) (mN (A 1 27)) (mN (A 1 25))
        have hpb := pw_bd (mN n) h2_n
        have h104 : 10 ^ mN n ≤ 10 ^ 4 := Nat.pow_le_pow_right (by decide) h2_n
        have h100 : 0 < 10 ^ mN n := Nat.pow_pos (by decide)
        refine aj.aload_n dX12_round_44 rfl ?_
        refine aj.iload_n dX12_round_45 rfl ?_
        refine aj.iload_n dX12_round_46 rfl ?_
        refine aj.callV1 (d' := 12) (As := [.int s, .int n]) (rest := []) dX12_round_47 v_X12_373 li_X12_laysRound hA.1 rfl rfl rfl (Nat.le_of_ble_eq_true rfl) (Nat.le_of_ble_eq_true rfl) (c_laysRound (mN s) h_s.1 (mN n) h_n.1 ⟨_, _, _, hA⟩ hB (by omega) (by omega)) (fun M hM => ?_)
        obtain ⟨kn, wo, hK, u, v, w, hA⟩ := hM
        refine aj.iload_n dX12_round_50 rfl ?_
        refine aj.callS1 (d' := 0) (As := [.int n]) (rest := [.long (lI (mR (A 1) sl ol (mN s) (mN n) (mN (A 1 (21 + mN s))) (mN (A 1 27)) (mN (A 1 25))))]) dX12_round_51 v_X12_348 w1724 rfl rfl (Nat.le_of_ble_eq_true rfl) (Nat.le_of_ble_eq_true rfl) (c_wholeOf _ (mN n) h_n.1 (by omega)) (fun M hM => ?_)
        subst hM
        refine aj.iload_n dX12_round_54 rfl ?_
        refine aj.callS1 (d' := 82) (As := [.long (lI (mR (A 1) sl ol (mN s) (mN n) (mN (A 1 (21 + mN s))) (mN (A 1 27)) (mN (A 1 25)))), .long (lN (10 ^ (mN n))), .int q]) (rest := []) dX12_round_55 v_X12_352 w1727 rfl rfl (Nat.le_of_ble_eq_true rfl) (Nat.le_of_ble_eq_true rfl) (c_part _ (lI (mR (A 1) sl ol (mN s) (mN n) (mN (A 1 (21 + mN s))) (mN (A 1 27)) (mN (A 1 25)))) (lN (10 ^ (mN n))) q (by rw [pk_lT (by omega)]; omega) (by rw [pk_lT (by omega)]; omega) (by rw [lI_T (by omega) (by omega)]; omega)) (fun M hM => ?_)
        subst hM
        exact aj.lret rfl dX12_round_58 ⟨by rw [if_pos (⟨c11, c21⟩ : _ ∧ _), if_pos c37], ⟨_, _, _, ⟨_, _, _, hA⟩, ⟨rfl, rfl, rfl⟩, ⟨rfl, rfl, rfl, rfl, rfl⟩, rfl⟩⟩
      · refine aj.ldc2 dX12_round_40 w1738 ?_
        exact aj.lret rfl dX12_round_43 ⟨by rw [if_pos (⟨c11, c21⟩ : _ ∧ _), if_neg c37], mH.of ⟨_, _, _, hA⟩⟩
    · refine aj.ldc2 dX12_round_24 w1736 ?_
      exact aj.lret rfl dX12_round_27 ⟨by rw [if_neg (fun z => c21 z.2)], mH.of ⟨_, _, _, hA⟩⟩
/-- how a round had best begin -/
def mBeg (f : Nat → Int) (x : Int) : Nat := (zfirst (fun a => f a = x) 22 0).getD 0
theorem mBeg_is {f : Nat → Int} {x : Int} (h : x = imx f (f 21) 21) : zfirst (fun a => f a = x) 22 0 = some (mBeg f x) := by
  obtain ⟨r, hr⟩ : ∃ r, zfirst (fun a => f a = x) 22 0 = some r := by
    rcases imx_att f (f 21) 21 with q | ⟨k, hk, q⟩
    · exact zfirst_ex (k := 21) (by omega) (by omega) (by show f 21 = x; rw [h, q])
    · exact zfirst_ex (k := k) (by omega) (by omega) (by show f k = x; rw [h, q])
  unfold mBeg
  rw [hr]
  rfl
theorem begins_loop {G : zG} {l : Launch} {b : Nat} {M0 : zM} {I : Nat → Int32} {A : Nat → Nat → Int32} {L : Nat → Nat → Int64} (s : Nat) {x_s : Int32} (e_s : x_s = nI s) (n : Nat) {x_n : Int32} (e_n : x_n = nI n) (k : Nat) {sl ol : Option (List Nat)} {T : Nat} (hB : mOK (A 1) sl ol T) (hs : s < 4) (hnk : n = k + 1) (hk3 : k ≤ 3) (h27 : I 27 = nI (k + 1)) (r : Nat) : ∀ (m i : Nat) (kn : Nat → Int32) (wo : Nat → Int64) (M : zM), i + m = 22 → zfirst (fun a => rF (A 1) sl ol s k (mN (A 1 (21 + s))) (mN (A 1 27)) (mN (A 1 25)) a = mR (A 1) sl ol s (k + 1) (mN (A 1 (21 + s))) (mN (A 1 27)) (mN (A 1 25))) m i = some r → rK (A 1) sl ol s (k + 1) kn wo → mW b M0 M I (va_up A 26 kn) (va_up L 25 wo) → aj G l kX12_begins 13 48 [(5, .int (nI i)), (3, .long (lI (mR (A 1) sl ol s (k + 1) (mN (A 1 (21 + s))) (mN (A 1 27)) (mN (A 1 25))))), (0, .ref b), (1, .int x_s), (2, .int x_n)] [] M 0 0 (zr (.int (nI r)) (fun M' => ∃ (kn : Nat → Int32) (wo : Nat → Int64), mW b M0 M' I (va_up A 26 kn) (va_up L 25 wo))) := by
  subst hnk
  subst e_n
  have hT := hB.2.2.2.2.2.2.2.2.1
  have hN6 := hB.2.2.1.2
  have hN25 := hB.2.2.2.2.2.1.2
  have hN26 := hB.2.2.2.2.2.2.1.2
  have hN27 := hB.2.2.2.2.2.2.2.1.2
  have hN1 := hB.1.1.2
  have hN2 := hB.1.2.1.2
  have hag := hB.2.2.2.2.1 s hs
  have hag2 := hag.2
  intro m
  induction m with
  | zero =>
    intro i kn wo M hin hz hK hM
    cases hz
  | succ m ih =>
    intro i kn wo M hin hz hK hM
    obtain ⟨u, v, w, hA⟩ := hM
    have hfb := rF_bd (s := s) (k := k) (age := (mN (A 1 (21 + s)))) (mi := (mN (A 1 27))) (hu := (mN (A 1 25))) hB (by omega) i
    have hrb := mR_bd hB (ol := ol) s (k + 1) (by omega) (mN (A 1 (21 + s))) (mN (A 1 27)) (mN (A 1 25))
    have hpb := pw_bd (k + 1) (by omega)
    rw [zfirst_s] at hz
    have hcall := c_roundBy (G := G) (l := l) (d := 2 * k + 3) (by omega) s e_s k i rfl (mN (A 1 (21 + s))) (mN (A 1 27)) (mN (A 1 25)) (rV (A 1) s (k + 1) k) (mR (A 1) sl ol s k) (rK (A 1) sl ol s (k + 1)) hB hs (by omega) (by omega) (by omega) (by omega) (by omega) (⟨by omega, 0, 0, by omega, by omega, rfl, by omega, rfl⟩ : rV (A 1) s (k + 1) k (mN (A 1 (21 + s))) ((mN (A 1 27)) + 1) (mN (A 1 25))) (⟨by omega, 1, 0, by omega, by omega, rfl, by omega, rfl⟩ : rV (A 1) s (k + 1) k ((mN (A 1 (21 + s))) + 1) ((mN (A 1 27)) + 1) (mN (A 1 25))) (⟨by omega, 1, 1, by omega, by omega, rfl, by omega, rfl⟩ : rV (A 1) s (k + 1) k ((mN (A 1 (21 + s))) + 1) ((mN (A 1 27)) + 1) ((mN (A 1 25)) + 1)) (c_roundOf s e_s (k + 1) hB hs (by omega) h27 k) kn wo hK M ⟨_, _, _, hA⟩
    rw [← hag.1, ← hB.2.2.2.2.2.2.2.1.1, ← hB.2.2.2.2.2.1.1] at hcall
    refine aj.aload_n dX12_begins_48 rfl ?_
    refine aj.iload_n dX12_begins_49 rfl ?_
    refine aj.iload_n dX12_begins_50 rfl ?_
    refine aj.aload_n dX12_begins_51 rfl ?_
    refine gM1 rfl dX12_begins_52 hA ?_
    refine aj.bipush (v := 21) dX12_begins_55 rfl ?_
    refine aj.iload_n dX12_begins_57 rfl ?_
    refine aj.iaddN (a := 21) (b := s) dX12_begins_58 rfl e_s ?_
    refine aM1N (i := 21 + s) dX12_begins_59 hA rfl (by omega) ?_
    refine aj.aload_n dX12_begins_60 rfl ?_
    refine gM1 rfl dX12_begins_61 hA ?_
    refine aj.bipush (v := 27) dX12_begins_64 rfl ?_
    refine aM1N (i := 27) dX12_begins_66 hA rfl (by omega) ?_
    refine aj.aload_n dX12_begins_67 rfl ?_
    refine gM1 rfl dX12_begins_68 hA ?_
    refine aj.bipush (v := 25) dX12_begins_71 rfl ?_
    refine aM1N (i := 25) dX12_begins_73 hA rfl (by omega) ?_
    refine aj.iload dX12_begins_74 rfl ?_
    refine aj.callV1 (d' := (2 * k + 4)) (As := [.int x_s, .int (nI (k + 1)), .int (A 1 (21 + s)), .int (A 1 27), .int (A 1 25), .int (nI i)]) (rest := []) dX12_begins_76 v_X12_363 li_X12_roundBy hA.1 rfl rfl rfl (Nat.le_of_ble_eq_true rfl) (by omega) (hcall) (fun M hM => ?_)
    obtain ⟨kn, wo, hK, u, v, w, hA⟩ := hM
    refine aj.lload_n dX12_begins_79 rfl ?_
    refine aj.lif_eq (tgt := 90) dX12_begins_80 dX12_begins_81 rfl (fun c80 => ?_) (fun c80 => ?_)
    · have c80 : lI (rF (A 1) sl ol s k (mN (A 1 (21 + s))) (mN (A 1 27)) (mN (A 1 25)) i) = lI (mR (A 1) sl ol s (k + 1) (mN (A 1 (21 + s))) (mN (A 1 27)) (mN (A 1 25))) := c80
      refine aj.iload dX12_begins_90 rfl ?_
      refine aj.iret rfl dX12_begins_92 ⟨?_, _, _, _, _, _, hA⟩
      rw [if_pos (by have q := congrArg Int64.toInt c80; rw [lI_T (by omega) (by omega), lI_T (by omega) (by omega)] at q; exact q)] at hz
      cases hz
      rfl
    · refine aj.iincN (a := i) (c := 1) (lv' := [(5, .int (nI (i + 1))), (3, .long (lI (mR (A 1) sl ol s (k + 1) (mN (A 1 (21 + s))) (mN (A 1 27)) (mN (A 1 25))))), (0, .ref b), (1, .int x_s), (2, .int (nI (k + 1)))]) dX12_begins_84 rfl (Nat.le_of_ble_eq_true rfl) rfl rfl rfl ?_
      refine aj.goto (tgt := 48) dX12_begins_87 rfl ?_
      refine aj.pick [0, 1, 2, 3, 4] rfl ?_
      rw [if_neg (fun q => c80 (congrArg lI q))] at hz
      exact ih (i + 1) kn wo M (by omega) hz hK ⟨_, _, _, hA⟩
theorem q_begins {G : zG} {l : Launch} {b : Nat} {M0 M : zM} {I : Nat → Int32} {A : Nat → Nat → Int32} {L : Nat → Nat → Int64} (s : Int32) (n : Int32) (hM : mW b M0 M I A L) {sl ol : Option (List Nat)} {T : Nat} (hB : mOK (A 1) sl ol T) : am G l kX12_begins 13 [.ref b, .int s, .int n] M 0 0 (zr (.int (if inR s 0 ((mN (A 1 6) : Int) - 1) then (if inR n 0 4 then (if mN n = 0 then (-1 : Int32) else nI (mBeg (rF (A 1) sl ol (mN s) (mN n - 1) (mN (A 1 (21 + mN s))) (mN (A 1 27)) (mN (A 1 25))) (mR (A 1) sl ol (mN s) (mN n) (mN (A 1 (21 + mN s))) (mN (A 1 27)) (mN (A 1 25))))) else -3) else -2)) (fun M' => mH b M0 M' I A L)) := by
  obtain ⟨u, v, w, hA⟩ := hM
  have hT := hB.2.2.2.2.2.2.2.2.1
  have hN6 := hB.2.2.1.2
  have hN25 := hB.2.2.2.2.2.1.2
  have hN26 := hB.2.2.2.2.2.2.1.2
  have hN27 := hB.2.2.2.2.2.2.2.1.2
  have hN1 := hB.1.1.2
  have hN2 := hB.1.2.1.2
  refine am.of (by decide) (Nat.le_of_ble_eq_true rfl) ?_
  refine aj.aload_n dX12_begins_0 rfl ?_
  refine aj.iconst (v := 0) dX12_begins_1 rfl ?_
  refine pM0 rfl dX12_begins_2 hA (fun M hA => ?_)
  refine aj.aload_n dX12_begins_5 rfl ?_
  refine aj.iload_n dX12_begins_6 rfl ?_
  refine aj.i2l dX12_begins_7 ?_
  refine aj.callV1 (d' := 1) (As := [.long (Int32.toInt64 s)]) (rest := []) dX12_begins_8 v_X12_236 li_X12_isShooter hA.1 rfl rfl rfl (Nat.le_of_ble_eq_true rfl) (Nat.le_of_ble_eq_true rfl) (c_isShooter s ⟨_, _, _, hA⟩ hB) (fun M hM => ?_)
  obtain ⟨u, v, w, hA⟩ := hM
  refine aj.if_neB (tgt := 17) dX12_begins_11 rfl (fun c11 => ?_) (fun c11 => ?_)
  · have h_s := inR_bdS c11 (by omega)
    have h2_s := h_s.2
    refine aj.iload_n dX12_begins_17 rfl ?_
    refine aj.i2l dX12_begins_18 ?_
    refine aj.lconst (v := 0) dX12_begins_19 rfl ?_
    refine aj.ldc2 dX12_begins_20 w1737 ?_
    refine aj.callS1 (d' := 0) (As := [.long (Int32.toInt64 n), .long 0, .long 4]) (rest := []) dX12_begins_23 v_X12_142 w1380 rfl rfl (Nat.le_of_ble_eq_true rfl) (Nat.le_of_ble_eq_true rfl) (c_withinI (a := 0) (c := 4) _ n 0 4 rfl rfl) (fun M hM => ?_)
    subst hM
    refine aj.if_neB (tgt := 32) dX12_begins_26 rfl (fun c26 => ?_) (fun c26 => ?_)
    · have h_n := inR_bd (n := 4) c26 (by decide)
      have h2_n := h_n.2
      refine aj.iload_n dX12_begins_32 rfl ?_
      refine aj.if_neN (a := mN n) (tgt := 38) dX12_begins_33 h_n.1 (by omega) rfl (fun c33 => ?_) (fun c33 => ?_)
      · refine aj.aload_n dX12_begins_38 rfl ?_
        refine aj.iload_n dX12_begins_39 rfl ?_
        refine aj.iload_n dX12_begins_40 rfl ?_
        refine aj.callV1 (d' := 12) (As := [.int s, .int n]) (rest := []) dX12_begins_41 v_X12_373 li_X12_laysRound hA.1 rfl rfl rfl (Nat.le_of_ble_eq_true rfl) (Nat.le_of_ble_eq_true rfl) (c_laysRound (mN s) h_s.1 (mN n) h_n.1 ⟨_, _, _, hA⟩ hB (by omega) (by omega)) (fun M hM => ?_)
        obtain ⟨kn, wo, hK, u, v, w, hA⟩ := hM
        refine aj.lstore_n (lv' := [(3, .long (lI (mR (A 1) sl ol (mN s) (mN n) (mN (A 1 (21 + mN s))) (mN (A 1 27)) (mN (A 1 25))))), (0, .ref b), (1, .int s), (2, .int n)]) dX12_begins_44 (Nat.le_of_ble_eq_true rfl) rfl ?_
        refine aj.iconst (v := 0) dX12_begins_45 rfl ?_
        refine aj.istore (lv' := [(5, .int 0), (3, .long (lI (mR (A 1) sl ol (mN s) (mN n) (mN (A 1 (21 + mN s))) (mN (A 1 27)) (mN (A 1 25))))), (0, .ref b), (1, .int s), (2, .int n)]) dX12_begins_46 (Nat.le_of_ble_eq_true rfl) rfl ?_
        refine aj.pick [0, 1, 2, 3, 4] rfl ?_
        rw [if_pos c11, if_pos c26, if_neg c33]
        obtain ⟨k, hk⟩ : ∃ k, mN n = k + 1 := ⟨mN n - 1, by omega⟩
        rw [hk] at hK ⊢
        rw [Nat.add_sub_cancel]
        refine (begins_loop (I := va_up I 27 (nI (mN n))) (mN s) h_s.1 (mN n) h_n.1 k hB (by omega) hk (by omega) (show nI (mN n) = nI (k + 1) by rw [hk]) _ 22 0 kn wo M (by omega) (mBeg_is rfl) hK ⟨_, _, _, hA⟩).mono (fun r M h => ?_)
        obtain ⟨h1, kn, wo, h2⟩ := h
        exact ⟨h1, _, _, _, h2, ⟨rfl, rfl, rfl⟩, ⟨rfl, rfl, rfl, rfl, rfl⟩, rfl⟩
      · refine aj.iconst (v := (-1)) dX12_begins_36 rfl ?_
        exact aj.iret rfl dX12_begins_37 ⟨by rw [if_pos c11, if_pos c26, if_pos c33], mH.of ⟨_, _, _, hA⟩⟩
    · refine aj.bipush (v := (-3)) dX12_begins_29 rfl ?_
      exact aj.iret rfl dX12_begins_31 ⟨by rw [if_pos c11, if_neg c26], mH.of ⟨_, _, _, hA⟩⟩
  · refine aj.bipush (v := (-2)) dX12_begins_14 rfl ?_
    exact aj.iret rfl dX12_begins_16 ⟨by rw [if_neg c11], mH.of ⟨_, _, _, hA⟩⟩
