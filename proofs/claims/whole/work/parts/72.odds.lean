theorem spE.trans {V V1 V2 : Nat → Nat → Int32} (h : spE V V1) (h2 : spE V1 V2) : spE V V2 := fun q q0 q1 q3 => (h2 q q0 q1 q3).trans (h q q0 q1 q3)
theorem spE.rf {V : Nat → Nat → Int32} : spE V V := fun _ _ _ _ => rfl
theorem mWays_le {B : Nat → Int32} {sl : Option (List Nat)} {L : Nat → Nat → Int64} {t s aim m : Nat} (hm : m ≤ 8) : mWays B sl L t s aim m ≤ 100000000 := by
  have h1 := nprod_le (f := fun k => mCnt B sl s aim (psF L t k) 10) (fun k => zcnt_le _ 10) m
  have h2 : 10 ^ m ≤ 10 ^ 8 := Nat.pow_le_pow_right (by decide) hm
  have h3 : 10 ^ 8 = 100000000 := by decide
  have h0 : mWays B sl L t s aim m = nprod (fun k => mCnt B sl s aim (psF L t k) 10) m := rfl
  rw [h0]
  omega
theorem ways_lp {G : zG} {l : Launch} {a : Nat} {M0 M : zM} {V : Nat → Nat → Int32} {W : Nat → Nat → Int64} {R : Nat → Nat → Option Nat} {V0 : Nat → Nat → Int32} {B : Nat → Int32} {sl : Option (List Nat)} {s aim : Nat} {xs xa : Int32} {W0 : Nat → Nat → Int64} {A : Nat → Nat → Int32} {L : Nat → Nat → Int64} (t : Nat) {x_t : Int32} (e_t : x_t = nI t) (ht4 : t < 4) (hno : ¬ A 32 t = -1) {m : Nat} (hm : A 33 t = nI m) (hm8 : m ≤ 8) (hok : seenOK L t m) (hTr : trR V0 W0 A L) (hv : ∀ i, ¬ sc i → V i = V0 i) (hw : ∀ i, ¬ sc i → W i = W0 i) (hC : ∀ k, k < 21 → V 53 k = nI (mCnt B sl s aim k 10)) (hA : kA a M0 M V W R) : ∀ (n i : Nat) (z : Int64), i + n = m → z = lN (nprod (fun k => mCnt B sl s aim (psF L t k) 10) i) → aj G l kX11_waysSeen 6 12 [(6, .int (nI i)), (4, .long z), (0, .ref a), (1, .int x_t), (2, .int xs), (3, .int xa)] [] M 0 0 (zr (.long (lN (nprod (fun k => mCnt B sl s aim (psF L t k) 10) m))) (fun M' => M' = M)) := by
  obtain ⟨h33, h0, h1⟩ := hTr t ht4
  have ht := kTr_j t ht4
  have hnt := nsc_t ht4
  have h0' : V (57 + 2 * t) 0 = zb (¬ A 32 t = -1) := (congrFun (hv _ hnt.1) 0).trans h0
  have h1' : ¬ A 32 t = -1 → V (57 + 2 * t) 1 = A 33 t := fun z => (congrFun (hv _ hnt.1) 1).trans (h1 z).1
  have hsz : V (57 + 2 * t) 1 = nI m := (h1' hno).trans hm
  have hmm : mN (A 33 t) = m := by rw [hm]; exact mN_nI (by omega)
  have hval : ∀ j, j < m → W (57 + 2 * t + 1) j = L 34 (40 * t + j) := fun j hj => (congrFun (hw _ hnt.2) j).trans ((h1 hno).2.2 j (by omega))
  intro n
  induction n with
  | zero =>
    intro i z hin hz
    refine aj.iload dX11_waysSeen_12 rfl ?_
    refine aj.aload_n dX11_waysSeen_14 rfl ?_
    refine gX11_trays (i := 0) rfl hA w382 dX11_waysSeen_15 ?_
    refine aj.iload_n dX11_waysSeen_18 rfl ?_
    refine aj.kR50 (j := t) rfl dX11_waysSeen_19 hA e_t (by omega) (by decide) ?_
    refine gX10_size (i := (57 + 2 * t)) ht.1 hA w348 dX11_waysSeen_20 ?_
    refine aj.icmp_geN (a := i) (b := m) (tgt := 71) dX11_waysSeen_23 rfl hsz (by omega) (by omega) rfl (fun c23 => ?_) (fun c23 => ?_)
    · refine aj.lload dX11_waysSeen_71 rfl ?_
      exact aj.lret rfl dX11_waysSeen_73 ⟨by rw [hz, show i = m by omega], rfl⟩
    · exact absurd c23 (by omega)
  | succ n ih =>
    intro i z hin hz
    obtain ⟨hp1, hp2⟩ := hok.2 i (by omega)
    have hvi := (hval i (by omega)).trans hp1
    have hci := hC (psF L t i) (by omega)
    have hcl : mCnt B sl s aim (psF L t i) 10 ≤ 10 := zcnt_le _ 10
    refine aj.iload dX11_waysSeen_12 rfl ?_
    refine aj.aload_n dX11_waysSeen_14 rfl ?_
    refine gX11_trays (i := 0) rfl hA w382 dX11_waysSeen_15 ?_
    refine aj.iload_n dX11_waysSeen_18 rfl ?_
    refine aj.kR50 (j := t) rfl dX11_waysSeen_19 hA e_t (by omega) (by decide) ?_
    refine gX10_size (i := (57 + 2 * t)) ht.1 hA w348 dX11_waysSeen_20 ?_
    refine aj.icmp_geN (a := i) (b := m) (tgt := 71) dX11_waysSeen_23 rfl hsz (by omega) (by omega) rfl (fun c23 => ?_) (fun c23 => ?_)
    · exact absurd c23 (by omega)
    · refine aj.aload_n dX11_waysSeen_26 rfl ?_
      refine gX11_trays (i := 0) rfl hA w382 dX11_waysSeen_27 ?_
      refine aj.iload_n dX11_waysSeen_30 rfl ?_
      refine aj.kR50 (j := t) rfl dX11_waysSeen_31 hA e_t (by omega) (by decide) ?_
      refine aj.iload dX11_waysSeen_32 rfl ?_
      refine aj.callE1 (d' := 0) (As := [.int (nI i)]) (rest := []) dX11_waysSeen_34 v_X11_388 li_X10_at ⟨_, hA.ob (i := (57 + 2 * t)) ht.1 (by decide)⟩ rfl rfl rfl (Nat.le_of_ble_eq_true rfl) (Nat.le_of_ble_eq_true rfl) (k_trAt (o := (57 + 2 * t)) ht i rfl (by omega) hA) (fun M hM => ?_)
      subst hM
      rw [hvi]
      refine aj.lstore (lv' := [(7, .long (lN (psF L t i))), (6, .int (nI i)), (4, .long z), (0, .ref a), (1, .int x_t), (2, .int xs), (3, .int xa)]) dX11_waysSeen_37 (Nat.le_of_ble_eq_true rfl) rfl ?_
      refine aj.lload dX11_waysSeen_39 rfl ?_
      refine aj.lload dX11_waysSeen_41 rfl ?_
      refine aj.callS1 (d' := 0) (As := [.long (lN (psF L t i))]) (rest := [.long z]) dX11_waysSeen_43 v_X11_150 w748 rfl rfl (Nat.le_of_ble_eq_true rfl) (Nat.le_of_ble_eq_true rfl) (k_isPlaceN _ (psF L t i) (by omega)) (fun M hM => ?_)
      subst hM
      refine aj.if_eqN (a := 1) (tgt := 61) dX11_waysSeen_46 rfl (by omega) rfl (fun c46 => ?_) (fun c46 => ?_)
      · exact absurd c46 (by decide)
      · refine aj.aload_n dX11_waysSeen_49 rfl ?_
        refine gX11_spots (i := 0) rfl hA w387 dX11_waysSeen_50 ?_
        refine aj.lload dX11_waysSeen_53 rfl ?_
        refine aj.l2iN (a := psF L t i) dX11_waysSeen_55 rfl ?_
        refine aj.kL (i := 53) (j := psF L t i) rfl dX11_waysSeen_56 hA rfl (by omega) (by decide) ?_
        refine aj.i2lN (a := mCnt B sl s aim (psF L t i) 10) dX11_waysSeen_57 hci (by omega) ?_
        refine aj.goto (tgt := 62) dX11_waysSeen_58 rfl ?_
        refine aj.lmul dX11_waysSeen_62 ?_
        refine aj.lstore (lv' := [(4, .long (z * (lN (mCnt B sl s aim (psF L t i) 10)))), (7, .long (lN (psF L t i))), (6, .int (nI i)), (0, .ref a), (1, .int x_t), (2, .int xs), (3, .int xa)]) dX11_waysSeen_63 (Nat.le_of_ble_eq_true rfl) rfl ?_
        refine aj.iincN (a := i) (c := 1) (lv' := [(6, .int (nI (i + 1))), (4, .long (z * (lN (mCnt B sl s aim (psF L t i) 10)))), (7, .long (lN (psF L t i))), (0, .ref a), (1, .int x_t), (2, .int xs), (3, .int xa)]) dX11_waysSeen_65 rfl (Nat.le_of_ble_eq_true rfl) rfl rfl rfl ?_
        refine aj.goto (tgt := 12) dX11_waysSeen_68 rfl ?_
        refine aj.pick [0, 1, 3, 4, 5, 6] rfl ?_
        exact ih (i + 1) _ (by omega) (by rw [hz, lN_mul]; rfl)
theorem k_waysSeen {G : zG} {l : Launch} {a : Nat} {M0 M : zM} {V : Nat → Nat → Int32} {W : Nat → Nat → Int64} {R : Nat → Nat → Option Nat} {V0 : Nat → Nat → Int32} {T : Nat} {B : Nat → Int32} {sl ol : Option (List Nat)} {Tm : Nat} {W0 : Nat → Nat → Int64} {A : Nat → Nat → Int32} {L : Nat → Nat → Int64} (t : Nat) {x_t : Int32} (e_t : x_t = nI t) (s : Nat) {x_s : Int32} (e_s : x_s = nI s) (aim : Nat) {x_aim : Int32} (e_aim : x_aim = nI aim) (ht4 : t < 4) (hs4 : s < 4) (ha : aim ≤ 20) (hno : ¬ A 32 t = -1) {m : Nat} (hm : A 33 t = nI m) (hm8 : m ≤ 8) (hok : seenOK L t m) (hTr : trR V0 W0 A L) (hw : ∀ i, ¬ sc i → W i = W0 i) (hH : cH a M0 V0 R T B sl ol Tm) (hv : ∀ i, ¬ sc i → V i = V0 i) (hA : kA a M0 M V W R) : am G l kX11_waysSeen 6 [.ref a, .int x_t, .int x_s, .int x_aim] M 0 0 (zr (.long (lN (mWays B sl L t s aim m))) (fun M' => ∃ V1, kA a M0 M' V1 W R ∧ spE V V1)) := by
  refine am.of (by decide) (Nat.le_of_ble_eq_true rfl) ?_
  refine aj.aload_n dX11_waysSeen_0 rfl ?_
  refine aj.iload_n dX11_waysSeen_1 rfl ?_
  refine aj.iload_n dX11_waysSeen_2 rfl ?_
  refine aj.callE0 (d' := 5) (As := [.int x_s, .int x_aim]) (rest := []) dX11_waysSeen_3 v_X11_243 li_X11_countSpots ⟨_, hA.ob (i := 0) rfl (by decide)⟩ rfl rfl rfl (Nat.le_of_ble_eq_true rfl) (Nat.le_of_ble_eq_true rfl) (k_countSpots s e_s aim e_aim (by omega) (by omega) hH hv hA) (fun M hM => ?_)
  obtain ⟨V, hA, hE, hC⟩ := hM
  have hv := sp_v hE hv
  refine aj.lconst (v := 1) dX11_waysSeen_6 rfl ?_
  refine aj.lstore (lv' := [(4, .long 1), (0, .ref a), (1, .int x_t), (2, .int x_s), (3, .int x_aim)]) dX11_waysSeen_7 (Nat.le_of_ble_eq_true rfl) rfl ?_
  refine aj.iconst (v := 0) dX11_waysSeen_9 rfl ?_
  refine aj.istore (lv' := [(6, .int 0), (4, .long 1), (0, .ref a), (1, .int x_t), (2, .int x_s), (3, .int x_aim)]) dX11_waysSeen_10 (Nat.le_of_ble_eq_true rfl) rfl ?_
  refine aj.pick [0, 1, 2, 3, 4, 5] rfl ?_
  refine aj.mono (ways_lp t e_t ht4 hno hm hm8 hok hTr hv hw hC hA m 0 _ (by omega) rfl) (fun r M' hq => ⟨hq.1, ?_⟩)
  rw [hq.2]
  exact ⟨_, hA, hE⟩
theorem seenSh_lp {G : zG} {l : Launch} {a : Nat} {M0 : zM} {V : Nat → Nat → Int32} {W : Nat → Nat → Int64} {R : Nat → Nat → Option Nat} {V0 : Nat → Nat → Int32} {T : Nat} {B : Nat → Int32} {sl ol : Option (List Nat)} {Tm : Nat} {W0 : Nat → Nat → Int64} {A : Nat → Nat → Int32} {L : Nat → Nat → Int64} (t : Nat) {x_t : Int32} (e_t : x_t = nI t) (aim : Nat) {x_aim : Int32} (e_aim : x_aim = nI aim) (ht4 : t < 4) (ha : aim ≤ 20) (hno : ¬ A 32 t = -1) {m : Nat} (hm : A 33 t = nI m) (hm8 : m ≤ 8) (hok : seenOK L t m) (hTr : trR V0 W0 A L) (hw : ∀ i, ¬ sc i → W i = W0 i) (hH : cH a M0 V0 R T B sl ol Tm) (hv : ∀ i, ¬ sc i → V i = V0 i) : ∀ (n i : Nat) (z : Int32) (V1 : Nat → Nat → Int32) (M : zM), i + n = mN (B 6) → z = zbits (fun s => 0 < mWays B sl L t s aim m) i → spE V V1 → kA a M0 M V1 W R → aj G l kX11_seenShooters 7 5 [(4, .int (nI i)), (3, .int z), (0, .ref a), (1, .int x_t), (2, .int x_aim)] [] M 0 0 (zr (.int (zbits (fun s => 0 < mWays B sl L t s aim m) (mN (B 6)))) (fun M' => ∃ V1, kA a M0 M' V1 W R ∧ spE V V1)) := by
  obtain ⟨hT, hb, hS, hB⟩ := id hH
  have hd0 := (dLaw_of hB).1
  have hd1 := (dLaw_of hB).2
  have h25 := hB.2.2.2.2.2.1
  have h26 := hB.2.2.2.2.2.2.1
  have h27 := hB.2.2.2.2.2.2.2.1
  have h6 := hB.2.2.1
  have hag := hB.2.2.2.2.1
  have hTm := hB.2.2.2.2.2.2.2.2.1
  have h25b := h25.2
  have h26b := h26.2
  have h27b := h27.2
  have h6b := h6.2
  intro n
  induction n with
  | zero =>
    intro i z V1 M hin hz hE hA
    refine aj.iload dX11_seenShooters_5 rfl ?_
    refine aj.aload_n dX11_seenShooters_7 rfl ?_
    refine gT hT hA w378 dX11_seenShooters_8 ?_
    refine gB_shooterCount (hA.bw hb) w226 dX11_seenShooters_11 ?_
    refine aj.icmp_geN (a := i) (b := mN (B 6)) (tgt := 43) dX11_seenShooters_14 rfl h6.1 (by omega) (by omega) rfl (fun c14 => ?_) (fun c14 => ?_)
    · refine aj.iload_n dX11_seenShooters_43 rfl ?_
      exact aj.iret rfl dX11_seenShooters_44 ⟨by rw [hz, show i = mN (B 6) by omega], V1, hA, hE⟩
    · exact absurd c14 (by omega)
  | succ n ih =>
    intro i z V1 M hin hz hE hA
    refine aj.iload dX11_seenShooters_5 rfl ?_
    refine aj.aload_n dX11_seenShooters_7 rfl ?_
    refine gT hT hA w378 dX11_seenShooters_8 ?_
    refine gB_shooterCount (hA.bw hb) w226 dX11_seenShooters_11 ?_
    refine aj.icmp_geN (a := i) (b := mN (B 6)) (tgt := 43) dX11_seenShooters_14 rfl h6.1 (by omega) (by omega) rfl (fun c14 => ?_) (fun c14 => ?_)
    · exact absurd c14 (by omega)
    · refine aj.aload_n dX11_seenShooters_17 rfl ?_
      refine aj.iload_n dX11_seenShooters_18 rfl ?_
      refine aj.iload dX11_seenShooters_19 rfl ?_
      refine aj.iload_n dX11_seenShooters_21 rfl ?_
      refine aj.callE1 (d' := 6) (As := [.int x_t, .int (nI i), .int x_aim]) (rest := []) dX11_seenShooters_22 v_X11_294 li_X11_waysSeen ⟨_, hA.ob (i := 0) rfl (by decide)⟩ rfl rfl rfl (Nat.le_of_ble_eq_true rfl) (Nat.le_of_ble_eq_true rfl) (k_waysSeen t e_t i rfl aim e_aim ht4 (by omega) ha hno hm hm8 hok hTr hw hH (sp_v hE hv) hA) (fun M hM => ?_)
      obtain ⟨V2, hA, hE2⟩ := hM
      have hwl := mWays_le (B := B) (sl := sl) (L := L) (t := t) (s := i) (aim := aim) hm8
      refine aj.lconst (v := 0) dX11_seenShooters_25 rfl ?_
      refine aj.lif_le (tgt := 37) dX11_seenShooters_26 dX11_seenShooters_27 rfl (fun c26 => ?_) (fun c26 => ?_)
      · refine aj.iincN (a := i) (c := 1) (lv' := [(4, .int (nI (i + 1))), (3, .int z), (0, .ref a), (1, .int x_t), (2, .int x_aim)]) dX11_seenShooters_37 rfl (Nat.le_of_ble_eq_true rfl) rfl rfl rfl ?_
        refine aj.goto (tgt := 5) dX11_seenShooters_40 rfl ?_
        refine aj.pick [0, 1, 2, 3, 4] rfl ?_
        exact ih (i + 1) _ V2 M (by omega) (by rw [hz, zbits_s, if_neg (fun z => c26 ((lN_lt (by decide) (by omega)).mpr z))]) (hE.trans hE2) hA
      · refine aj.iload_n dX11_seenShooters_30 rfl ?_
        refine aj.iconst (v := 1) dX11_seenShooters_31 rfl ?_
        refine aj.iload dX11_seenShooters_32 rfl ?_
        refine aj.ishl dX11_seenShooters_34 ?_
        refine aj.ior dX11_seenShooters_35 ?_
        refine aj.istore_n (lv' := [(3, .int (z ||| (1 <<< ((nI i) &&& 31)))), (4, .int (nI i)), (0, .ref a), (1, .int x_t), (2, .int x_aim)]) dX11_seenShooters_36 (Nat.le_of_ble_eq_true rfl) rfl ?_
        refine aj.iincN (a := i) (c := 1) (lv' := [(4, .int (nI (i + 1))), (3, .int (z ||| (1 <<< ((nI i) &&& 31)))), (0, .ref a), (1, .int x_t), (2, .int x_aim)]) dX11_seenShooters_37 rfl (Nat.le_of_ble_eq_true rfl) rfl rfl rfl ?_
        refine aj.goto (tgt := 5) dX11_seenShooters_40 rfl ?_
        refine aj.pick [0, 1, 2, 3, 4] rfl ?_
        exact ih (i + 1) _ V2 M (by omega) (by rw [hz, zbits_s, if_pos ((lN_lt (by decide) (by omega)).mp c26)]) (hE.trans hE2) hA
theorem k_seenSh {G : zG} {l : Launch} {a : Nat} {M0 M : zM} {V : Nat → Nat → Int32} {W : Nat → Nat → Int64} {R : Nat → Nat → Option Nat} {V0 : Nat → Nat → Int32} {T : Nat} {B : Nat → Int32} {sl ol : Option (List Nat)} {Tm : Nat} {W0 : Nat → Nat → Int64} {A : Nat → Nat → Int32} {L : Nat → Nat → Int64} (t : Nat) {x_t : Int32} (e_t : x_t = nI t) (aim : Nat) {x_aim : Int32} (e_aim : x_aim = nI aim) (ht4 : t < 4) (ha : aim ≤ 20) (hno : ¬ A 32 t = -1) {m : Nat} (hm : A 33 t = nI m) (hm8 : m ≤ 8) (hok : seenOK L t m) (hTr : trR V0 W0 A L) (hw : ∀ i, ¬ sc i → W i = W0 i) (hH : cH a M0 V0 R T B sl ol Tm) (hv : ∀ i, ¬ sc i → V i = V0 i) (hA : kA a M0 M V W R) : am G l kX11_seenShooters 7 [.ref a, .int x_t, .int x_aim] M 0 0 (zr (.int (zbits (fun s => 0 < mWays B sl L t s aim m) (mN (B 6)))) (fun M' => ∃ V1, kA a M0 M' V1 W R ∧ spE V V1)) := by
  refine am.of (by decide) (Nat.le_of_ble_eq_true rfl) ?_
  refine aj.iconst (v := 0) dX11_seenShooters_0 rfl ?_
  refine aj.istore_n (lv' := [(3, .int 0), (0, .ref a), (1, .int x_t), (2, .int x_aim)]) dX11_seenShooters_1 (Nat.le_of_ble_eq_true rfl) rfl ?_
  refine aj.iconst (v := 0) dX11_seenShooters_2 rfl ?_
  refine aj.istore (lv' := [(4, .int 0), (3, .int 0), (0, .ref a), (1, .int x_t), (2, .int x_aim)]) dX11_seenShooters_3 (Nat.le_of_ble_eq_true rfl) rfl ?_
  refine aj.pick [0, 1, 2, 3, 4] rfl ?_
  exact seenSh_lp t e_t aim e_aim ht4 ha hno hm hm8 hok hTr hw hH hv (mN (B 6)) 0 _ V M (by omega) rfl spE.rf hA
theorem p_shooters {G : zG} {l : Launch} {a : Nat} {M0 M : zM} {V0 : Nat → Nat → Int32} {W0 : Nat → Nat → Int64} {R : Nat → Nat → Option Nat} {T : Nat} {B : Nat → Int32} {sl ol : Option (List Nat)} {Tm : Nat} (t : Int32) (aim : Int32) (hM : kW a M0 M V0 W0 R) (hH : cH a M0 V0 R T B sl ol Tm) {A : Nat → Nat → Int32} {L : Nat → Nat → Int64} (hTr : trR V0 W0 A L) : am G l kX11_shooters 8 [.ref a, .int t, .int aim] M 0 0 (zr (.int (if mSeenC A L t aim = 0 then zbits (fun s => 0 < mWays B sl L (mN t) s (mN aim) (mN (A 33 (mN t)))) (mN (B 6)) else mSeenC A L t aim)) (fun M' => kW a M0 M' V0 W0 R)) := by
  obtain ⟨V, W, hA, hv, hw⟩ := hM
  obtain ⟨hT, hb, hS, hB⟩ := id hH
  have hd0 := (dLaw_of hB).1
  have hd1 := (dLaw_of hB).2
  have h25 := hB.2.2.2.2.2.1
  have h26 := hB.2.2.2.2.2.2.1
  have h27 := hB.2.2.2.2.2.2.2.1
  have h6 := hB.2.2.1
  have hag := hB.2.2.2.2.1
  have hTm := hB.2.2.2.2.2.2.2.2.1
  have h25b := h25.2
  have h26b := h26.2
  have h27b := h27.2
  have h6b := h6.2
  refine am.of (by decide) (Nat.le_of_ble_eq_true rfl) ?_
  refine aj.aload_n dX11_shooters_0 rfl ?_
  refine aj.iload_n dX11_shooters_1 rfl ?_
  refine aj.iload_n dX11_shooters_2 rfl ?_
  refine aj.callE1 (d' := 1) (As := [.int t, .int aim]) (rest := []) dX11_shooters_3 v_X11_288 li_X11_refusedSeen ⟨_, hA.ob (i := 0) rfl (by decide)⟩ rfl rfl rfl (Nat.le_of_ble_eq_true rfl) (Nat.le_of_ble_eq_true rfl) (k_refusedSeen t aim hTr hv hw hA) (fun M hM => ?_)
  subst hM
  refine aj.istore_n (lv' := [(3, .int (mSeenC A L t aim)), (0, .ref a), (1, .int t), (2, .int aim)]) dX11_shooters_6 (Nat.le_of_ble_eq_true rfl) rfl ?_
  refine aj.iload_n dX11_shooters_7 rfl ?_
  refine aj.if_eq (tgt := 15) dX11_shooters_8 rfl (fun c8 => ?_) (fun c8 => ?_)
  · obtain ⟨ct, ca, hno, h18, hz0⟩ := mSeenC_0 c8
    have h_t := inR_bd (n := 3) ct (by decide)
    have h2_t := h_t.2
    have h_aim := inR_bd (n := 20) ca (by decide)
    have h2_aim := h_aim.2
    have hb8 := inR_bd1 (n := 8) h18 (by decide)
    refine aj.aload_n dX11_shooters_15 rfl ?_
    refine aj.iload_n dX11_shooters_16 rfl ?_
    refine aj.iload_n dX11_shooters_17 rfl ?_
    refine aj.callE1 (d' := 7) (As := [.int t, .int aim]) (rest := []) dX11_shooters_18 v_X11_291 li_X11_seenShooters ⟨_, hA.ob (i := 0) rfl (by decide)⟩ rfl rfl rfl (Nat.le_of_ble_eq_true rfl) (Nat.le_of_ble_eq_true rfl) (k_seenSh (mN t) h_t.1 (mN aim) h_aim.1 (by omega) h2_aim hno hb8.1 hb8.2.1 (seenOK_of hb8.2.1 hz0) hTr hw hH hv hA) (fun M hM => ?_)
    obtain ⟨V, hA, hE⟩ := hM
    have hv := sp_v hE hv
    exact aj.iret rfl dX11_shooters_21 ⟨by rw [if_pos c8], ⟨_, _, hA, hv, hw⟩⟩
  · refine aj.iload_n dX11_shooters_11 rfl ?_
    refine aj.goto (tgt := 21) dX11_shooters_12 rfl ?_
    exact aj.iret rfl dX11_shooters_21 ⟨by rw [if_neg c8], ⟨_, _, hA, hv, hw⟩⟩
theorem odds_lp {G : zG} {l : Launch} {a : Nat} {M0 : zM} {V : Nat → Nat → Int32} {W : Nat → Nat → Int64} {R : Nat → Nat → Option Nat} {V0 : Nat → Nat → Int32} {T : Nat} {B : Nat → Int32} {sl ol : Option (List Nat)} {Tm : Nat} {W0 : Nat → Nat → Int64} {A : Nat → Nat → Int32} {L : Nat → Nat → Int64} (t : Nat) {x_t : Int32} (e_t : x_t = nI t) (aim : Nat) {x_aim : Int32} (e_aim : x_aim = nI aim) (s : Nat) {x_s : Int32} (e_s : x_s = nI s) {q : Int32} (hs : s < mN (B 6)) (ht4 : t < 4) (ha : aim ≤ 20) (hno : ¬ A 32 t = -1) {m : Nat} (hm : A 33 t = nI m) (hm8 : m ≤ 8) (hok : seenOK L t m) (hTr : trR V0 W0 A L) (hw : ∀ i, ¬ sc i → W i = W0 i) (hH : cH a M0 V0 R T B sl ol Tm) (hv : ∀ i, ¬ sc i → V i = V0 i) : ∀ (n i : Nat) (z y : Int64) (V1 : Nat → Nat → Int32) (M : zM), i + n = mN (B 6) → z = lN (nsum (fun j => mWays B sl L t j aim m) i) → y = lN (if s < i then mWays B sl L t s aim m else 0) → spE V V1 → kA a M0 M V1 W R → aj G l kX11_odds 7 46 [(10, .int (nI i)), (6, .long z), (8, .long y), (0, .ref a), (1, .int x_t), (2, .int x_aim), (3, .int x_s), (4, .int q)] [] M 0 0 (zr (.long (if nsum (fun j => mWays B sl L t j aim m) (mN (B 6)) = 0 then (-5 : Int64) else mPart (lN (mWays B sl L t s aim m)) (lN (nsum (fun j => mWays B sl L t j aim m) (mN (B 6)))) q)) (fun M' => ∃ V1, kA a M0 M' V1 W R ∧ spE V V1)) := by
  obtain ⟨hT, hb, hS, hB⟩ := id hH
  have hd0 := (dLaw_of hB).1
  have hd1 := (dLaw_of hB).2
  have h25 := hB.2.2.2.2.2.1
  have h26 := hB.2.2.2.2.2.2.1
  have h27 := hB.2.2.2.2.2.2.2.1
  have h6 := hB.2.2.1
  have hag := hB.2.2.2.2.1
  have hTm := hB.2.2.2.2.2.2.2.2.1
  have h25b := h25.2
  have h26b := h26.2
  have h27b := h27.2
  have h6b := h6.2
  intro n
  induction n with
  | zero =>
    intro i z y V1 M hin hz hy hE hA
    have hi : i = mN (B 6) := by omega
    rw [hi] at hz hy
    rw [if_pos hs] at hy
    have hns : nsum (fun j => mWays B sl L t j aim m) (mN (B 6)) ≤ 100000000 * mN (B 6) := nsum_le (fun k => mWays_le hm8) _
    have hwl := mWays_le (B := B) (sl := sl) (L := L) (t := t) (s := s) (aim := aim) hm8
    have e64 : ∀ k : Nat, k < 9223372036854775808 → (lN k).toInt = (k : Int) := fun k hk => pk_lT (by omega)
    have hz0 : z = 0 ↔ nsum (fun j => mWays B sl L t j aim m) (mN (B 6)) = 0 := by
      rw [hz]
      constructor
      · intro q
        have := congrArg Int64.toInt q
        rw [e64 _ (by omega)] at this
        have e0 : (0 : Int64).toInt = 0 := rfl
        omega
      · intro q; rw [q]; rfl
    refine aj.iload dX11_odds_46 rfl ?_
    refine aj.aload_n dX11_odds_48 rfl ?_
    refine gT hT hA w378 dX11_odds_49 ?_
    refine gB_shooterCount (hA.bw hb) w226 dX11_odds_52 ?_
    refine aj.icmp_geN (a := i) (b := mN (B 6)) (tgt := 91) dX11_odds_55 rfl h6.1 (by omega) (by omega) rfl (fun c55 => ?_) (fun c55 => ?_)
    · refine aj.lload dX11_odds_91 rfl ?_
      refine aj.lconst (v := 0) dX11_odds_93 rfl ?_
      refine aj.lif_ne (tgt := 104) dX11_odds_94 dX11_odds_95 rfl (fun c94 => ?_) (fun c94 => ?_)
      · refine aj.lload dX11_odds_104 rfl ?_
        refine aj.lload dX11_odds_106 rfl ?_
        refine aj.iload dX11_odds_108 rfl ?_
        refine aj.callS1 (d' := 1) (As := [.long y, .long z, .int q]) (rest := []) dX11_odds_110 v_X11_236 w953 rfl rfl (Nat.le_of_ble_eq_true rfl) (Nat.le_of_ble_eq_true rfl) (k_lowest _ y z q (by rw [hz, e64 _ (by omega)]; have := mt hz0.mpr c94; omega) (by rw [hy, e64 _ (by omega)]; omega)) (fun M hM => ?_)
        subst hM
        exact aj.lret rfl dX11_odds_113 ⟨by rw [if_neg (fun q => c94 (hz0.mpr q)), hz, hy], V1, hA, hE⟩
      · refine aj.ldc2 dX11_odds_98 w1115 ?_
        refine aj.goto (tgt := 113) dX11_odds_101 rfl ?_
        exact aj.lret rfl dX11_odds_113 ⟨by rw [if_pos (hz0.mp c94)], V1, hA, hE⟩
    · exact absurd c55 (by omega)
  | succ n ih =>
    intro i z y V1 M hin hz hy hE hA
    refine aj.iload dX11_odds_46 rfl ?_
    refine aj.aload_n dX11_odds_48 rfl ?_
    refine gT hT hA w378 dX11_odds_49 ?_
    refine gB_shooterCount (hA.bw hb) w226 dX11_odds_52 ?_
    refine aj.icmp_geN (a := i) (b := mN (B 6)) (tgt := 91) dX11_odds_55 rfl h6.1 (by omega) (by omega) rfl (fun c55 => ?_) (fun c55 => ?_)
    · exact absurd c55 (by omega)
    · refine aj.aload_n dX11_odds_58 rfl ?_
      refine aj.iload_n dX11_odds_59 rfl ?_
      refine aj.iload dX11_odds_60 rfl ?_
      refine aj.iload_n dX11_odds_62 rfl ?_
      refine aj.callE1 (d' := 6) (As := [.int x_t, .int (nI i), .int x_aim]) (rest := []) dX11_odds_63 v_X11_294 li_X11_waysSeen ⟨_, hA.ob (i := 0) rfl (by decide)⟩ rfl rfl rfl (Nat.le_of_ble_eq_true rfl) (Nat.le_of_ble_eq_true rfl) (k_waysSeen t e_t i rfl aim e_aim ht4 (by omega) ha hno hm hm8 hok hTr hw hH (sp_v hE hv) hA) (fun M hM => ?_)
      obtain ⟨V2, hA, hE2⟩ := hM
      have hwl := mWays_le (B := B) (sl := sl) (L := L) (t := t) (s := i) (aim := aim) hm8
      refine aj.lstore (lv' := [(11, .long (lN (mWays B sl L t i aim m))), (10, .int (nI i)), (6, .long z), (8, .long y), (0, .ref a), (1, .int x_t), (2, .int x_aim), (3, .int x_s), (4, .int q)]) dX11_odds_66 (Nat.le_of_ble_eq_true rfl) rfl ?_
      refine aj.lload dX11_odds_68 rfl ?_
      refine aj.lload dX11_odds_70 rfl ?_
      refine aj.ladd dX11_odds_72 ?_
      refine aj.lstore (lv' := [(6, .long (z + (lN (mWays B sl L t i aim m)))), (11, .long (lN (mWays B sl L t i aim m))), (10, .int (nI i)), (8, .long y), (0, .ref a), (1, .int x_t), (2, .int x_aim), (3, .int x_s), (4, .int q)]) dX11_odds_73 (Nat.le_of_ble_eq_true rfl) rfl ?_
      refine aj.iload dX11_odds_75 rfl ?_
      refine aj.iload_n dX11_odds_77 rfl ?_
      refine aj.icmp_neN (a := i) (b := s) (tgt := 85) dX11_odds_78 rfl e_s (by omega) (by omega) rfl (fun c78 => ?_) (fun c78 => ?_)
      · refine aj.iincN (a := i) (c := 1) (lv' := [(10, .int (nI (i + 1))), (6, .long (z + (lN (mWays B sl L t i aim m)))), (11, .long (lN (mWays B sl L t i aim m))), (8, .long y), (0, .ref a), (1, .int x_t), (2, .int x_aim), (3, .int x_s), (4, .int q)]) dX11_odds_85 rfl (Nat.le_of_ble_eq_true rfl) rfl rfl rfl ?_
        refine aj.goto (tgt := 46) dX11_odds_88 rfl ?_
        refine aj.pick [0, 1, 3, 4, 5, 6, 7, 8] rfl ?_
        exact ih (i + 1) _ _ V2 M (by omega) (by rw [hz, lN_add]; rfl) (by rw [hy]; congr 1; by_cases q : s < i; (rw [if_pos q, if_pos (by omega)]); (rw [if_neg q, if_neg (by omega)])) (hE.trans hE2) hA
      · refine aj.lload dX11_odds_81 rfl ?_
        refine aj.lstore (lv' := [(8, .long (lN (mWays B sl L t i aim m))), (6, .long (z + (lN (mWays B sl L t i aim m)))), (11, .long (lN (mWays B sl L t i aim m))), (10, .int (nI i)), (0, .ref a), (1, .int x_t), (2, .int x_aim), (3, .int x_s), (4, .int q)]) dX11_odds_83 (Nat.le_of_ble_eq_true rfl) rfl ?_
        refine aj.iincN (a := i) (c := 1) (lv' := [(10, .int (nI (i + 1))), (8, .long (lN (mWays B sl L t i aim m))), (6, .long (z + (lN (mWays B sl L t i aim m)))), (11, .long (lN (mWays B sl L t i aim m))), (0, .ref a), (1, .int x_t), (2, .int x_aim), (3, .int x_s), (4, .int q)]) dX11_odds_85 rfl (Nat.le_of_ble_eq_true rfl) rfl rfl rfl ?_
        refine aj.goto (tgt := 46) dX11_odds_88 rfl ?_
        refine aj.pick [0, 2, 1, 4, 5, 6, 7, 8] rfl ?_
        exact ih (i + 1) _ _ V2 M (by omega) (by rw [hz, lN_add]; rfl) (by rw [c78, if_pos (by omega)]) (hE.trans hE2) hA
theorem p_odds {G : zG} {l : Launch} {a : Nat} {M0 M : zM} {V0 : Nat → Nat → Int32} {W0 : Nat → Nat → Int64} {R : Nat → Nat → Option Nat} {T : Nat} {B : Nat → Int32} {sl ol : Option (List Nat)} {Tm : Nat} (t : Int32) (aim : Int32) (s : Int32) (q : Int32) (hM : kW a M0 M V0 W0 R) (hH : cH a M0 V0 R T B sl ol Tm) {A : Nat → Nat → Int32} {L : Nat → Nat → Int64} (hTr : trR V0 W0 A L) : am G l kX11_odds 7 [.ref a, .int t, .int aim, .int s, .int q] M 0 0 (zr (.long (if inR t 0 3 ∧ inR aim 0 20 ∧ inR s 0 ((mN (B 6) : Int) - 1) ∧ inR q 0 1 then (if mSeenC A L t aim = 0 then (if nsum (fun j => mWays B sl L (mN t) j (mN aim) (mN (A 33 (mN t)))) (mN (B 6)) = 0 then (-5 : Int64) else mPart (lN (mWays B sl L (mN t) (mN s) (mN aim) (mN (A 33 (mN t))))) (lN (nsum (fun j => mWays B sl L (mN t) j (mN aim) (mN (A 33 (mN t)))) (mN (B 6)))) q) else (mSeenC A L t aim).toInt64) else -2)) (fun M' => kW a M0 M' V0 W0 R)) := by
  obtain ⟨V, W, hA, hv, hw⟩ := hM
  obtain ⟨hT, hb, hS, hB⟩ := id hH
  have hd0 := (dLaw_of hB).1
  have hd1 := (dLaw_of hB).2
  have h25 := hB.2.2.2.2.2.1
  have h26 := hB.2.2.2.2.2.2.1
  have h27 := hB.2.2.2.2.2.2.2.1
  have h6 := hB.2.2.1
  have hag := hB.2.2.2.2.1
  have hTm := hB.2.2.2.2.2.2.2.2.1
  have h25b := h25.2
  have h26b := h26.2
  have h27b := h27.2
  have h6b := h6.2
  refine am.of (by decide) (Nat.le_of_ble_eq_true rfl) ?_
  refine aj.aload_n dX11_odds_0 rfl ?_
  refine aj.iload_n dX11_odds_1 rfl ?_
  refine aj.callE1 (d' := 0) (As := [.int s]) (rest := []) dX11_odds_2 v_X11_124 li_X11_isShooter ⟨_, hA.ob (i := 0) rfl (by decide)⟩ rfl rfl rfl (Nat.le_of_ble_eq_true rfl) (Nat.le_of_ble_eq_true rfl) (k_isShooter s hH hA) (fun M hM => ?_)
  subst hM
  refine aj.if_eqB (tgt := 16) dX11_odds_5 rfl (fun c5 => ?_) (fun c5 => ?_)
  · refine aj.ldc2 dX11_odds_16 w1004 ?_
    exact aj.lret rfl dX11_odds_19 ⟨by rw [if_neg (fun z => c5 z.2.2.1)], ⟨_, _, hA, hv, hw⟩⟩
  · have h_s := inR_bdS c5 (by omega)
    have h2_s := h_s.2
    refine aj.iload dX11_odds_8 rfl ?_
    refine aj.callS1 (d' := 0) (As := [.int q]) (rest := []) dX11_odds_10 v_X11_128 w720 rfl rfl (Nat.le_of_ble_eq_true rfl) (Nat.le_of_ble_eq_true rfl) (k_isHalf _ q) (fun M hM => ?_)
    subst hM
    refine aj.if_neB (tgt := 20) dX11_odds_13 rfl (fun c13 => ?_) (fun c13 => ?_)
    · have h_q := inR_bd (n := 1) c13 (by decide)
      have h2_q := h_q.2
      refine aj.aload_n dX11_odds_20 rfl ?_
      refine aj.iload_n dX11_odds_21 rfl ?_
      refine aj.iload_n dX11_odds_22 rfl ?_
      refine aj.callE1 (d' := 1) (As := [.int t, .int aim]) (rest := []) dX11_odds_23 v_X11_288 li_X11_refusedSeen ⟨_, hA.ob (i := 0) rfl (by decide)⟩ rfl rfl rfl (Nat.le_of_ble_eq_true rfl) (Nat.le_of_ble_eq_true rfl) (k_refusedSeen t aim hTr hv hw hA) (fun M hM => ?_)
      subst hM
      refine aj.istore (lv' := [(5, .int (mSeenC A L t aim)), (0, .ref a), (1, .int t), (2, .int aim), (3, .int s), (4, .int q)]) dX11_odds_26 (Nat.le_of_ble_eq_true rfl) rfl ?_
      refine aj.iload dX11_odds_28 rfl ?_
      refine aj.if_eq (tgt := 37) dX11_odds_30 rfl (fun c30 => ?_) (fun c30 => ?_)
      · obtain ⟨ct, ca, hno, h18, hz0⟩ := mSeenC_0 c30
        have h_t := inR_bd (n := 3) ct (by decide)
        have h2_t := h_t.2
        have h_aim := inR_bd (n := 20) ca (by decide)
        have h2_aim := h_aim.2
        have hb8 := inR_bd1 (n := 8) h18 (by decide)
        refine aj.lconst (v := 0) dX11_odds_37 rfl ?_
        refine aj.lstore (lv' := [(6, .long 0), (5, .int (mSeenC A L t aim)), (0, .ref a), (1, .int t), (2, .int aim), (3, .int s), (4, .int q)]) dX11_odds_38 (Nat.le_of_ble_eq_true rfl) rfl ?_
        refine aj.lconst (v := 0) dX11_odds_40 rfl ?_
        refine aj.lstore (lv' := [(8, .long 0), (6, .long 0), (5, .int (mSeenC A L t aim)), (0, .ref a), (1, .int t), (2, .int aim), (3, .int s), (4, .int q)]) dX11_odds_41 (Nat.le_of_ble_eq_true rfl) rfl ?_
        refine aj.iconst (v := 0) dX11_odds_43 rfl ?_
        refine aj.istore (lv' := [(10, .int 0), (8, .long 0), (6, .long 0), (5, .int (mSeenC A L t aim)), (0, .ref a), (1, .int t), (2, .int aim), (3, .int s), (4, .int q)]) dX11_odds_44 (Nat.le_of_ble_eq_true rfl) rfl ?_
        refine aj.pick [0, 2, 1, 4, 5, 6, 7, 8] rfl ?_
        refine aj.mono (odds_lp (mN t) h_t.1 (mN aim) h_aim.1 (mN s) h_s.1 (by omega) (by omega) h2_aim hno hb8.1 hb8.2.1 (seenOK_of hb8.2.1 hz0) hTr hw hH hv (mN (B 6)) 0 0 0 V M (by omega) rfl (by rw [if_neg (by omega)]; rfl) spE.rf hA) (fun r M' hq => ⟨hq.1.trans (by rw [if_pos (⟨ct, ca, c5, c13⟩ : _ ∧ _ ∧ _ ∧ _), if_pos c30]), ?_⟩)
        obtain ⟨V1, hA, hE⟩ := hq.2
        exact ⟨_, _, hA, sp_v hE hv, hw⟩
      · refine aj.iload dX11_odds_33 rfl ?_
        refine aj.i2l dX11_odds_35 ?_
        exact aj.lret rfl dX11_odds_36 ⟨by
          by_cases g : inR t 0 3 ∧ inR aim 0 20 ∧ inR s 0 ((mN (B 6) : Int) - 1) ∧ inR q 0 1
          · rw [if_pos g, if_neg c30]
          · rw [if_neg g]
            have : mSeenC A L t aim = -2 := by
              unfold mSeenC
              rw [if_neg (fun z => g ⟨z.1, z.2, c5, c13⟩)]
            rw [this]
            rfl, ⟨_, _, hA, hv, hw⟩⟩
    · refine aj.ldc2 dX11_odds_16 w1004 ?_
      exact aj.lret rfl dX11_odds_19 ⟨by rw [if_neg (fun z => c13 z.2.2.2)], ⟨_, _, hA, hv, hw⟩⟩
