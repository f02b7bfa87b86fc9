/-- two shooters of a set that can land in one place -/
abbrev mMeet (B : Nat → Int32) (sl : Option (List Nat)) (f : Nat → Prop) (nS aim s o : Nat) : Prop := (s < nS ∧ f s) ∧ (o < nS ∧ f o) ∧ ¬ mPls B sl s aim 10 &&& mPls B sl o aim 10 = 0
abbrev mAlike (B : Nat → Int32) (sl : Option (List Nat)) (f : Nat → Prop) [DecidablePred f] (nS aim n : Nat) : Nat := nsum (fun s => zcnt (fun o => mMeet B sl f nS aim s o) s) n
theorem zcnt_le' (f : Nat → Prop) [DecidablePred f] {n c : Nat} (h : n ≤ c) : zcnt f n ≤ c := Nat.le_trans (zcnt_le f n) h
theorem alike_in {G : zG} {l : Launch} {b : Nat} {M0 : zM} {I : Nat → Int32} {A : Nat → Nat → Int32} {L : Nat → Nat → Int64} {Q : Option Value → zM → Prop} (aim : Nat) {x_aim : Int32} (e_aim : x_aim = nI aim) (s acc0 : Nat) (f : Nat → Prop) [DecidablePred f] {sl ol : Option (List Nat)} {T : Nat} (hB : mOK (A 1) sl ol T) (hs : s < mN (A 1 6)) (haim : aim ≤ 20) (ha0 : acc0 ≤ 100) (hk : ∀ M, mW b M0 M I A L → aj G l kX12_alikeAt 5 79 [(4, .int (nI s)), (3, .int (nI (acc0 + zcnt (fun o => mMeet (A 1) sl f (mN (A 1 6)) aim s o) s))), (0, .ref b), (1, .int (zbits f (mN (A 1 6)))), (2, .int x_aim)] [] M 0 0 Q) : ∀ (n i acc : Nat) (M : zM), i + n = s → acc = acc0 + zcnt (fun o => mMeet (A 1) sl f (mN (A 1 6)) aim s o) i → mW b M0 M I A L → aj G l kX12_alikeAt 5 20 [(5, .int (nI i)), (4, .int (nI s)), (3, .int (nI acc)), (0, .ref b), (1, .int (zbits f (mN (A 1 6)))), (2, .int x_aim)] [] M 0 0 Q := by
  have hT := hB.2.2.2.2.2.2.2.2.1
  have hN6 := hB.2.2.1.2
  have hN25 := hB.2.2.2.2.2.1.2
  have hN26 := hB.2.2.2.2.2.2.1.2
  have hN27 := hB.2.2.2.2.2.2.2.1.2
  have hN1 := hB.1.1.2
  have hN2 := hB.1.2.1.2
  intro n
  induction n with
  | zero =>
    intro i acc M hin hacc hM
    obtain ⟨u, v, w, hA⟩ := hM
    have hzl := zcnt_le (fun o => mMeet (A 1) sl f (mN (A 1 6)) aim s o) i
    rw [show i = s by omega] at hacc
    subst hacc
    refine aj.iload dX12_alikeAt_20 rfl ?_
    refine aj.iload dX12_alikeAt_22 rfl ?_
    refine aj.icmp_geN (a := i) (b := s) (tgt := 79) dX12_alikeAt_24 rfl rfl (by omega) (by omega) rfl (fun c24 => ?_) (fun c24 => ?_)
    · refine aj.pick [1, 2, 3, 4, 5] rfl ?_
      exact hk M ⟨_, _, _, hA⟩
    · exact absurd c24 (by omega)
  | succ n ih =>
    intro i acc M hin hacc hM
    obtain ⟨u, v, w, hA⟩ := hM
    have hzl := zcnt_le (fun o => mMeet (A 1) sl f (mN (A 1 6)) aim s o) i
    refine aj.iload dX12_alikeAt_20 rfl ?_
    refine aj.iload dX12_alikeAt_22 rfl ?_
    refine aj.icmp_geN (a := i) (b := s) (tgt := 79) dX12_alikeAt_24 rfl rfl (by omega) (by omega) rfl (fun c24 => ?_) (fun c24 => ?_)
    · exact absurd c24 (by omega)
    · refine aj.iload_n dX12_alikeAt_27 rfl ?_
      refine aj.iload_n dX12_alikeAt_28 rfl ?_
      refine aj.i2l dX12_alikeAt_29 ?_
      refine aj.iload dX12_alikeAt_30 rfl ?_
      refine aj.callS1 (d' := 0) (As := [.long (Int32.toInt64 (zbits f (mN (A 1 6)))), .int (nI s)]) (rest := [.int (nI acc)]) dX12_alikeAt_32 v_X12_391 w1787 rfl rfl (Nat.le_of_ble_eq_true rfl) (Nat.le_of_ble_eq_true rfl) (c_isIn _ f (mN (A 1 6)) s rfl (by omega) (by omega)) (fun M hM => ?_)
      subst hM
      refine aj.if_eqB (tgt := 70) dX12_alikeAt_35 rfl (fun c35 => ?_) (fun c35 => ?_)
      · refine aj.iconst (v := 0) dX12_alikeAt_70 rfl ?_
        refine aj.iaddN (a := acc) (b := 0) dX12_alikeAt_71 rfl rfl ?_
        refine aj.istore_n (lv' := [(3, .int (nI (acc + 0))), (5, .int (nI i)), (4, .int (nI s)), (0, .ref b), (1, .int (zbits f (mN (A 1 6)))), (2, .int x_aim)]) dX12_alikeAt_72 (Nat.le_of_ble_eq_true rfl) rfl ?_
        refine aj.iincN (a := i) (c := 1) (lv' := [(5, .int (nI (i + 1))), (3, .int (nI (acc + 0))), (4, .int (nI s)), (0, .ref b), (1, .int (zbits f (mN (A 1 6)))), (2, .int x_aim)]) dX12_alikeAt_73 rfl (Nat.le_of_ble_eq_true rfl) rfl rfl rfl ?_
        refine aj.goto (tgt := 20) dX12_alikeAt_76 rfl ?_
        refine aj.pick [0, 2, 1, 3, 4, 5] rfl ?_
        exact ih (i + 1) _ M (by omega) (by rw [hacc, zcnt_s, if_neg (fun z => c35 z.1)]; omega) ⟨_, _, _, hA⟩
      · refine aj.iload_n dX12_alikeAt_38 rfl ?_
        refine aj.i2l dX12_alikeAt_39 ?_
        refine aj.iload dX12_alikeAt_40 rfl ?_
        refine aj.callS1 (d' := 0) (As := [.long (Int32.toInt64 (zbits f (mN (A 1 6)))), .int (nI i)]) (rest := [.int (nI acc)]) dX12_alikeAt_42 v_X12_391 w1787 rfl rfl (Nat.le_of_ble_eq_true rfl) (Nat.le_of_ble_eq_true rfl) (c_isIn _ f (mN (A 1 6)) i rfl (by omega) (by omega)) (fun M hM => ?_)
        subst hM
        refine aj.if_eqB (tgt := 70) dX12_alikeAt_45 rfl (fun c45 => ?_) (fun c45 => ?_)
        · refine aj.iconst (v := 0) dX12_alikeAt_70 rfl ?_
          refine aj.iaddN (a := acc) (b := 0) dX12_alikeAt_71 rfl rfl ?_
          refine aj.istore_n (lv' := [(3, .int (nI (acc + 0))), (5, .int (nI i)), (4, .int (nI s)), (0, .ref b), (1, .int (zbits f (mN (A 1 6)))), (2, .int x_aim)]) dX12_alikeAt_72 (Nat.le_of_ble_eq_true rfl) rfl ?_
          refine aj.iincN (a := i) (c := 1) (lv' := [(5, .int (nI (i + 1))), (3, .int (nI (acc + 0))), (4, .int (nI s)), (0, .ref b), (1, .int (zbits f (mN (A 1 6)))), (2, .int x_aim)]) dX12_alikeAt_73 rfl (Nat.le_of_ble_eq_true rfl) rfl rfl rfl ?_
          refine aj.goto (tgt := 20) dX12_alikeAt_76 rfl ?_
          refine aj.pick [0, 2, 1, 3, 4, 5] rfl ?_
          exact ih (i + 1) _ M (by omega) (by rw [hacc, zcnt_s, if_neg (fun z => c45 z.2.1)]; omega) ⟨_, _, _, hA⟩
        · refine aj.aload_n dX12_alikeAt_48 rfl ?_
          refine aj.iload dX12_alikeAt_49 rfl ?_
          refine aj.iload_n dX12_alikeAt_51 rfl ?_
          refine aj.callV1 (d' := 4) (As := [.int (nI s), .int x_aim]) (rest := [.int (nI acc)]) dX12_alikeAt_52 v_X12_395 li_X12_placesOf hA.1 rfl rfl rfl (Nat.le_of_ble_eq_true rfl) (Nat.le_of_ble_eq_true rfl) (c_placesOf s rfl aim e_aim ⟨_, _, _, hA⟩ hB (by omega) (by omega)) (fun M hM => ?_)
          obtain ⟨u, v, w, hA⟩ := hM
          refine aj.aload_n dX12_alikeAt_55 rfl ?_
          refine aj.iload dX12_alikeAt_56 rfl ?_
          refine aj.iload_n dX12_alikeAt_58 rfl ?_
          refine aj.callV1 (d' := 4) (As := [.int (nI i), .int x_aim]) (rest := [.int (mPls (A 1) sl s aim 10), .int (nI acc)]) dX12_alikeAt_59 v_X12_395 li_X12_placesOf hA.1 rfl rfl rfl (Nat.le_of_ble_eq_true rfl) (Nat.le_of_ble_eq_true rfl) (c_placesOf i rfl aim e_aim ⟨_, _, _, hA⟩ hB (by omega) (by omega)) (fun M hM => ?_)
          obtain ⟨u, v, w, hA⟩ := hM
          refine aj.iand dX12_alikeAt_62 ?_
          refine aj.if_eq (tgt := 70) dX12_alikeAt_63 rfl (fun c63 => ?_) (fun c63 => ?_)
          · refine aj.iconst (v := 0) dX12_alikeAt_70 rfl ?_
            refine aj.iaddN (a := acc) (b := 0) dX12_alikeAt_71 rfl rfl ?_
            refine aj.istore_n (lv' := [(3, .int (nI (acc + 0))), (5, .int (nI i)), (4, .int (nI s)), (0, .ref b), (1, .int (zbits f (mN (A 1 6)))), (2, .int x_aim)]) dX12_alikeAt_72 (Nat.le_of_ble_eq_true rfl) rfl ?_
            refine aj.iincN (a := i) (c := 1) (lv' := [(5, .int (nI (i + 1))), (3, .int (nI (acc + 0))), (4, .int (nI s)), (0, .ref b), (1, .int (zbits f (mN (A 1 6)))), (2, .int x_aim)]) dX12_alikeAt_73 rfl (Nat.le_of_ble_eq_true rfl) rfl rfl rfl ?_
            refine aj.goto (tgt := 20) dX12_alikeAt_76 rfl ?_
            refine aj.pick [0, 2, 1, 3, 4, 5] rfl ?_
            exact ih (i + 1) _ M (by omega) (by rw [hacc, zcnt_s, if_neg (fun z => z.2.2 c63)]; omega) ⟨_, _, _, hA⟩
          · refine aj.iconst (v := 1) dX12_alikeAt_66 rfl ?_
            refine aj.goto (tgt := 71) dX12_alikeAt_67 rfl ?_
            refine aj.iaddN (a := acc) (b := 1) dX12_alikeAt_71 rfl rfl ?_
            refine aj.istore_n (lv' := [(3, .int (nI (acc + 1))), (5, .int (nI i)), (4, .int (nI s)), (0, .ref b), (1, .int (zbits f (mN (A 1 6)))), (2, .int x_aim)]) dX12_alikeAt_72 (Nat.le_of_ble_eq_true rfl) rfl ?_
            refine aj.iincN (a := i) (c := 1) (lv' := [(5, .int (nI (i + 1))), (3, .int (nI (acc + 1))), (4, .int (nI s)), (0, .ref b), (1, .int (zbits f (mN (A 1 6)))), (2, .int x_aim)]) dX12_alikeAt_73 rfl (Nat.le_of_ble_eq_true rfl) rfl rfl rfl ?_
            refine aj.goto (tgt := 20) dX12_alikeAt_76 rfl ?_
            refine aj.pick [0, 2, 1, 3, 4, 5] rfl ?_
            exact ih (i + 1) _ M (by omega) (by rw [hacc, zcnt_s, if_pos ⟨c35, c45, c63⟩]; omega) ⟨_, _, _, hA⟩
theorem alike_out {G : zG} {l : Launch} {b : Nat} {M0 : zM} {I : Nat → Int32} {A : Nat → Nat → Int32} {L : Nat → Nat → Int64} (aim : Nat) {x_aim : Int32} (e_aim : x_aim = nI aim) (f : Nat → Prop) [DecidablePred f] {sl ol : Option (List Nat)} {T : Nat} (hB : mOK (A 1) sl ol T) (haim : aim ≤ 20) : ∀ (n i : Nat) (acc : Nat) (M : zM), i + n = mN (A 1 6) → acc = mAlike (A 1) sl f (mN (A 1 6)) aim i → acc ≤ 4 * i → mW b M0 M I A L → aj G l kX12_alikeAt 5 5 [(4, .int (nI i)), (3, .int (nI acc)), (0, .ref b), (1, .int (zbits f (mN (A 1 6)))), (2, .int x_aim)] [] M 0 0 (zr (.int (nI (mAlike (A 1) sl f (mN (A 1 6)) aim (mN (A 1 6))))) (fun M' => mW b M0 M' I A L)) := by
  have hT := hB.2.2.2.2.2.2.2.2.1
  have hN6 := hB.2.2.1.2
  have hN25 := hB.2.2.2.2.2.1.2
  have hN26 := hB.2.2.2.2.2.2.1.2
  have hN27 := hB.2.2.2.2.2.2.2.1.2
  have hN1 := hB.1.1.2
  have hN2 := hB.1.2.1.2
  intro n
  induction n with
  | zero =>
    intro i acc M hin hacc hal hM
    obtain ⟨u, v, w, hA⟩ := hM
    refine aj.iload dX12_alikeAt_5 rfl ?_
    refine aj.aload_n dX12_alikeAt_7 rfl ?_
    refine gM1 rfl dX12_alikeAt_8 hA ?_
    refine aj.bipush (v := 6) dX12_alikeAt_11 rfl ?_
    refine aM1N (i := 6) dX12_alikeAt_13 hA rfl (by omega) ?_
    refine aj.icmp_geN (a := i) (b := mN (A 1 6)) (tgt := 85) dX12_alikeAt_14 rfl hB.2.2.1.1 (by omega) (by omega) rfl (fun c14 => ?_) (fun c14 => ?_)
    · refine aj.iload_n dX12_alikeAt_85 rfl ?_
      exact aj.iret rfl dX12_alikeAt_86 ⟨by rw [hacc, show i = mN (A 1 6) by omega], _, _, _, hA⟩
    · exact absurd c14 (by omega)
  | succ n ih =>
    intro i acc M hin hacc hal hM
    obtain ⟨u, v, w, hA⟩ := hM
    refine aj.iload dX12_alikeAt_5 rfl ?_
    refine aj.aload_n dX12_alikeAt_7 rfl ?_
    refine gM1 rfl dX12_alikeAt_8 hA ?_
    refine aj.bipush (v := 6) dX12_alikeAt_11 rfl ?_
    refine aM1N (i := 6) dX12_alikeAt_13 hA rfl (by omega) ?_
    refine aj.icmp_geN (a := i) (b := mN (A 1 6)) (tgt := 85) dX12_alikeAt_14 rfl hB.2.2.1.1 (by omega) (by omega) rfl (fun c14 => ?_) (fun c14 => ?_)
    · exact absurd c14 (by omega)
    · refine aj.iconst (v := 0) dX12_alikeAt_17 rfl ?_
      refine aj.istore (lv' := [(5, .int 0), (4, .int (nI i)), (3, .int (nI acc)), (0, .ref b), (1, .int (zbits f (mN (A 1 6)))), (2, .int x_aim)]) dX12_alikeAt_18 (Nat.le_of_ble_eq_true rfl) rfl ?_
      refine aj.pick [0, 1, 2, 3, 4, 5] rfl ?_
      refine alike_in aim e_aim i acc f hB (by omega) haim (by omega) (fun M hM => ?_) i 0 acc M (by omega) rfl ⟨_, _, _, hA⟩
      obtain ⟨u, v, w, hA⟩ := hM
      refine aj.iincN (a := i) (c := 1) (lv' := [(4, .int (nI (i + 1))), (3, .int (nI (acc + zcnt (fun o => mMeet (A 1) sl f (mN (A 1 6)) aim i o) i))), (0, .ref b), (1, .int (zbits f (mN (A 1 6)))), (2, .int x_aim)]) dX12_alikeAt_79 rfl (Nat.le_of_ble_eq_true rfl) rfl rfl rfl ?_
      refine aj.goto (tgt := 5) dX12_alikeAt_82 rfl ?_
      refine aj.pick [0, 1, 2, 3, 4] rfl ?_
      exact ih (i + 1) _ M (by omega) (by rw [hacc]; rfl) (by have := zcnt_le (fun o => mMeet (A 1) sl f (mN (A 1 6)) aim i o) i; omega) ⟨_, _, _, hA⟩
theorem c_alikeAt {G : zG} {l : Launch} {b : Nat} {M0 M : zM} {I : Nat → Int32} {A : Nat → Nat → Int32} {L : Nat → Nat → Int64} (aim : Nat) {x_aim : Int32} (e_aim : x_aim = nI aim) (f : Nat → Prop) [DecidablePred f] {sl ol : Option (List Nat)} {T : Nat} (hM : mW b M0 M I A L) (hB : mOK (A 1) sl ol T) (haim : aim ≤ 20) : am G l kX12_alikeAt 5 [.ref b, .int (zbits f (mN (A 1 6))), .int x_aim] M 0 0 (zr (.int (nI (mAlike (A 1) sl f (mN (A 1 6)) aim (mN (A 1 6))))) (fun M' => mW b M0 M' I A L)) := by
  obtain ⟨u, v, w, hA⟩ := hM
  refine am.of (by decide) (Nat.le_of_ble_eq_true rfl) ?_
  refine aj.iconst (v := 0) dX12_alikeAt_0 rfl ?_
  refine aj.istore_n (lv' := [(3, .int 0), (0, .ref b), (1, .int (zbits f (mN (A 1 6)))), (2, .int x_aim)]) dX12_alikeAt_1 (Nat.le_of_ble_eq_true rfl) rfl ?_
  refine aj.iconst (v := 0) dX12_alikeAt_2 rfl ?_
  refine aj.istore (lv' := [(4, .int 0), (3, .int 0), (0, .ref b), (1, .int (zbits f (mN (A 1 6)))), (2, .int x_aim)]) dX12_alikeAt_3 (Nat.le_of_ble_eq_true rfl) rfl ?_
  refine aj.pick [0, 1, 2, 3, 4] rfl ?_
  exact alike_out aim e_aim f hB haim (mN (A 1 6)) 0 0 M (by omega) rfl (by omega) ⟨_, _, _, hA⟩
