theorem l_div (v : Int64) {c : Int64} {n : Nat} (hc : c.toInt = n) (h0 : 0 < n) (hn : n < 9223372036854775808) (h : 0 ≤ v.toInt) : (v / c).toInt = v.toInt / n := by
  have h2 := v.toInt_lt
  have h3 : v.toInt / (n : Int) ≤ v.toInt := Int.ediv_le_self _ h
  have h4 : 0 ≤ v.toInt / (n : Int) := Int.ediv_nonneg h (by omega)
  rw [Int64.toInt_div, hc, Int.tdiv_eq_ediv_of_nonneg h]
  exact Int.bmod_eq_of_le (by omega) (by omega)
theorem v100 (v : Int64) (h : ¬ v < 0) : (0 ≤ v / 100 ∧ v / 100 ≤ 9) ↔ (0 ≤ v ∧ v ≤ 999) := by
  have e0 : (0 : Int64).toInt = 0 := rfl
  have e9 : (9 : Int64).toInt = 9 := rfl
  have e999 : (999 : Int64).toInt = 999 := rfl
  have h0 : 0 ≤ v.toInt := by rw [Int64.lt_iff_toInt_lt, e0] at h; omega
  have e := l_div v (c := 100) (n := 100) rfl (by decide) (by decide) h0
  rw [Int64.le_iff_toInt_le, Int64.le_iff_toInt_le, Int64.le_iff_toInt_le, Int64.le_iff_toInt_le, e, e0, e9, e999]
  constructor
  · intro z; omega
  · intro z; omega
theorem lN_div100 {p : Nat} (hp : p < 2 ^ 31) : lN p / 100 = lN (p / 100) := by
  apply i64_nat
  have e : (lN p).toInt = p := pk_lT (by omega)
  rw [l_div (lN p) (c := 100) (n := 100) rfl (by decide) (by decide) (by omega), e]
  exact (Int.natCast_ediv p 100).symm
theorem lN_rem100 {p : Nat} (hp : p < 2 ^ 31) : lN p - lN p / 100 * 100 = lN (p % 100) := lN_rem (q := 100) (by omega) (by decide) (by decide)
theorem refStr_lp {G : zG} {l : Launch} {a : Nat} {M0 M : zM} {V : Nat → Nat → Int32} {W : Nat → Nat → Int64} {R : Nat → Nat → Option Nat} {V0 : Nat → Nat → Int32} {W0 : Nat → Nat → Int64} {A : Nat → Nat → Int32} {L : Nat → Nat → Int64} (t : Nat) {x_t : Int32} (e_t : x_t = nI t) (ht4 : t < 4) {z xs xa : Int32} (hTr : trR V0 W0 A L) (hv : ∀ i, ¬ sc i → V i = V0 i) (hw : ∀ i, ¬ sc i → W i = W0 i) (hno : ¬ A 32 t = -1) {m : Nat} (hm : A 33 t = nI m) (hm8 : m ≤ 8) (hA : kA a M0 M V W R) (r : Option Nat) : ∀ (n i : Nat), i + n = m → zfirst (strBad L t) n i = r → aj G l kX11_refusedStrayed 1 49 [(5, .int (nI i)), (4, .int z), (0, .ref a), (1, .int x_t), (2, .int xs), (3, .int xa)] [] M 0 0 (zr (.int (if r = none then 0 else -3)) (fun M' => M' = M)) := by
  obtain ⟨h33, h0, h1⟩ := hTr t ht4
  have ht := kTr_j t ht4
  have hnt := nsc_t ht4
  have h0' : V (57 + 2 * t) 0 = zb (¬ A 32 t = -1) := (congrFun (hv _ hnt.1) 0).trans h0
  have h1' : ¬ A 32 t = -1 → V (57 + 2 * t) 1 = A 33 t := fun z => (congrFun (hv _ hnt.1) 1).trans (h1 z).1
  have hsz : V (57 + 2 * t) 1 = nI m := (h1' hno).trans hm
  have hmm : mN (A 33 t) = m := by rw [hm]; exact mN_nI (by omega)
  have hval : ∀ j, j < m → W (57 + 2 * t + 1) j = L 34 (40 * t + j) := fun j hj => (congrFun (hw _ hnt.2) j).trans ((h1 hno).2.2 j (by omega))
  intro n
  induction n with
  | zero =>
    intro i hin hr
    refine aj.iload dX11_refusedStrayed_49 rfl ?_
    refine aj.aload_n dX11_refusedStrayed_51 rfl ?_
    refine gX11_trays (i := 0) rfl hA w382 dX11_refusedStrayed_52 ?_
    refine aj.iload_n dX11_refusedStrayed_55 rfl ?_
    refine aj.kR50 (j := t) rfl dX11_refusedStrayed_56 hA e_t (by omega) (by decide) ?_
    refine gX10_size (i := (57 + 2 * t)) ht.1 hA w348 dX11_refusedStrayed_57 ?_
    refine aj.icmp_geN (a := i) (b := m) (tgt := 116) dX11_refusedStrayed_60 rfl hsz (by omega) (by omega) rfl (fun c60 => ?_) (fun c60 => ?_)
    · refine aj.iconst (v := 0) dX11_refusedStrayed_116 rfl ?_
      exact aj.iret rfl dX11_refusedStrayed_117 ⟨by rw [← hr]; rfl, rfl⟩
    · exact absurd c60 (by omega)
  | succ n ih =>
    intro i hin hr
    have hvi := hval i (by omega)
    refine aj.iload dX11_refusedStrayed_49 rfl ?_
    refine aj.aload_n dX11_refusedStrayed_51 rfl ?_
    refine gX11_trays (i := 0) rfl hA w382 dX11_refusedStrayed_52 ?_
    refine aj.iload_n dX11_refusedStrayed_55 rfl ?_
    refine aj.kR50 (j := t) rfl dX11_refusedStrayed_56 hA e_t (by omega) (by decide) ?_
    refine gX10_size (i := (57 + 2 * t)) ht.1 hA w348 dX11_refusedStrayed_57 ?_
    refine aj.icmp_geN (a := i) (b := m) (tgt := 116) dX11_refusedStrayed_60 rfl hsz (by omega) (by omega) rfl (fun c60 => ?_) (fun c60 => ?_)
    · exact absurd c60 (by omega)
    · refine aj.aload_n dX11_refusedStrayed_63 rfl ?_
      refine gX11_trays (i := 0) rfl hA w382 dX11_refusedStrayed_64 ?_
      refine aj.iload_n dX11_refusedStrayed_67 rfl ?_
      refine aj.kR50 (j := t) rfl dX11_refusedStrayed_68 hA e_t (by omega) (by decide) ?_
      refine aj.iload dX11_refusedStrayed_69 rfl ?_
      refine aj.callE1 (d' := 0) (As := [.int (nI i)]) (rest := []) dX11_refusedStrayed_71 v_X11_388 li_X10_at ⟨_, hA.ob (i := (57 + 2 * t)) ht.1 (by decide)⟩ rfl rfl rfl (Nat.le_of_ble_eq_true rfl) (Nat.le_of_ble_eq_true rfl) (k_trAt (o := (57 + 2 * t)) ht i rfl (by omega) hA) (fun M hM => ?_)
      subst hM
      rw [hvi]
      refine aj.lstore (lv' := [(6, .long (L 34 (40 * t + i))), (5, .int (nI i)), (4, .int z), (0, .ref a), (1, .int x_t), (2, .int xs), (3, .int xa)]) dX11_refusedStrayed_74 (Nat.le_of_ble_eq_true rfl) rfl ?_
      refine aj.lload dX11_refusedStrayed_76 rfl ?_
      refine aj.lconst (v := 0) dX11_refusedStrayed_78 rfl ?_
      refine aj.lif_lt (tgt := 107) dX11_refusedStrayed_79 dX11_refusedStrayed_80 rfl (fun c79 => ?_) (fun c79 => ?_)
      · refine aj.bipush (v := (-3)) dX11_refusedStrayed_107 rfl ?_
        exact aj.iret rfl dX11_refusedStrayed_109 ⟨by rw [← hr, zfirst_s, if_pos (show strBad L t i from fun q => by have := Int64.le_iff_toInt_le.mp q.1.1; have c9 := Int64.lt_iff_toInt_lt.mp c79; omega)]; rfl, rfl⟩
      · refine aj.lload dX11_refusedStrayed_83 rfl ?_
        refine aj.ldc2 dX11_refusedStrayed_85 w1141 ?_
        refine aj.ldiv dX11_refusedStrayed_88 (by decide) ?_
        refine aj.callS1 (d' := 0) (As := [.long ((L 34 (40 * t + i)) / 100)]) (rest := []) dX11_refusedStrayed_89 v_X11_374 w752 rfl rfl (Nat.le_of_ble_eq_true rfl) (Nat.le_of_ble_eq_true rfl) (k_isLot _ ((L 34 (40 * t + i)) / 100)) (fun M hM => ?_)
        subst hM
        refine aj.if_eqB (tgt := 107) dX11_refusedStrayed_92 rfl (fun c92 => ?_) (fun c92 => ?_)
        · refine aj.bipush (v := (-3)) dX11_refusedStrayed_107 rfl ?_
          exact aj.iret rfl dX11_refusedStrayed_109 ⟨by rw [← hr, zfirst_s, if_pos (show strBad L t i from fun q => c92 ((v100 _ c79).mpr q.1))]; rfl, rfl⟩
        · refine aj.lload dX11_refusedStrayed_95 rfl ?_
          refine aj.ldc2 dX11_refusedStrayed_97 w1141 ?_
          refine aj.lrem dX11_refusedStrayed_100 (by decide) ?_
          refine aj.callS1 (d' := 0) (As := [.long ((L 34 (40 * t + i)) - (L 34 (40 * t + i)) / 100 * 100)]) (rest := []) dX11_refusedStrayed_101 v_X11_150 w748 rfl rfl (Nat.le_of_ble_eq_true rfl) (Nat.le_of_ble_eq_true rfl) (k_isPlace _ ((L 34 (40 * t + i)) - (L 34 (40 * t + i)) / 100 * 100)) (fun M hM => ?_)
          subst hM
          refine aj.if_neB (tgt := 110) dX11_refusedStrayed_104 rfl (fun c104 => ?_) (fun c104 => ?_)
          · refine aj.iincN (a := i) (c := 1) (lv' := [(5, .int (nI (i + 1))), (6, .long (L 34 (40 * t + i))), (4, .int z), (0, .ref a), (1, .int x_t), (2, .int xs), (3, .int xa)]) dX11_refusedStrayed_110 rfl (Nat.le_of_ble_eq_true rfl) rfl rfl rfl ?_
            refine aj.goto (tgt := 49) dX11_refusedStrayed_113 rfl ?_
            refine aj.pick [0, 2, 3, 4, 5, 6] rfl ?_
            exact ih (i + 1) (by omega) (by rw [← hr, zfirst_s, if_neg (show ¬ strBad L t i from fun q => q ⟨(v100 _ c79).mp c92, c104⟩)])
          · refine aj.bipush (v := (-3)) dX11_refusedStrayed_107 rfl ?_
            exact aj.iret rfl dX11_refusedStrayed_109 ⟨by rw [← hr, zfirst_s, if_pos (show strBad L t i from fun q => c104 q.2)]; rfl, rfl⟩
theorem k_refusedStrayed {G : zG} {l : Launch} {a : Nat} {M0 M : zM} {V : Nat → Nat → Int32} {W : Nat → Nat → Int64} {R : Nat → Nat → Option Nat} {V0 : Nat → Nat → Int32} {T : Nat} {B : Nat → Int32} {sl ol : Option (List Nat)} {Tm : Nat} {W0 : Nat → Nat → Int64} {A : Nat → Nat → Int32} {L : Nat → Nat → Int64} (t s aim : Int32) (hTr : trR V0 W0 A L) (hw : ∀ i, ¬ sc i → W i = W0 i) (hA1 : A 1 = B) (hH : cH a M0 V0 R T B sl ol Tm) (hv : ∀ i, ¬ sc i → V i = V0 i) (hA : kA a M0 M V W R) : am G l kX11_refusedStrayed 1 [.ref a, .int t, .int s, .int aim] M 0 0 (zr (.int (mStrC A L t s aim)) (fun M' => M' = M)) := by
  obtain ⟨hT, hb, hS, hB⟩ := id hH
  have hd0 := (dLaw_of hB).1
  have hd1 := (dLaw_of hB).2
  have h25 := hB.2.2.2.2.2.1
  have h26 := hB.2.2.2.2.2.2.1
  have h27 := hB.2.2.2.2.2.2.2.1
  have h6 := hB.2.2.1
  have hag := hB.2.2.2.2.1
  have hTm := hB.2.2.2.2.2.2.2.2.1
  have h25b := h25.2
  have h26b := h26.2
  have h27b := h27.2
  have h6b := h6.2
  refine am.of (by decide) (Nat.le_of_ble_eq_true rfl) ?_
  refine aj.aload_n dX11_refusedStrayed_0 rfl ?_
  refine aj.iload_n dX11_refusedStrayed_1 rfl ?_
  refine aj.callE1 (d' := 0) (As := [.int t]) (rest := []) dX11_refusedStrayed_2 v_X11_194 li_X11_isTray ⟨_, hA.ob (i := 0) rfl (by decide)⟩ rfl rfl rfl (Nat.le_of_ble_eq_true rfl) (Nat.le_of_ble_eq_true rfl) (k_isTray t hA) (fun M hM => ?_)
  subst hM
  refine aj.if_eqB (tgt := 24) dX11_refusedStrayed_5 rfl (fun c5 => ?_) (fun c5 => ?_)
  · refine aj.bipush (v := (-2)) dX11_refusedStrayed_24 rfl ?_
    exact aj.iret rfl dX11_refusedStrayed_26 ⟨by unfold mStrC; rw [if_neg (fun z => c5 z.1)], rfl⟩
  · have h_t := inR_bd (n := 3) c5 (by decide)
    have h2_t := h_t.2
    have ht := kTr_j (mN t) (by omega)
    refine aj.aload_n dX11_refusedStrayed_8 rfl ?_
    refine aj.iload_n dX11_refusedStrayed_9 rfl ?_
    refine aj.callE1 (d' := 0) (As := [.int s]) (rest := []) dX11_refusedStrayed_10 v_X11_124 li_X11_isShooter ⟨_, hA.ob (i := 0) rfl (by decide)⟩ rfl rfl rfl (Nat.le_of_ble_eq_true rfl) (Nat.le_of_ble_eq_true rfl) (k_isShooter s hH hA) (fun M hM => ?_)
    subst hM
    refine aj.if_eqB (tgt := 24) dX11_refusedStrayed_13 rfl (fun c13 => ?_) (fun c13 => ?_)
    · refine aj.bipush (v := (-2)) dX11_refusedStrayed_24 rfl ?_
      exact aj.iret rfl dX11_refusedStrayed_26 ⟨by unfold mStrC; rw [hA1, if_neg (fun z => c13 z.2.1)], rfl⟩
    · have h_s := inR_bdS c13 (by omega)
      have h2_s := h_s.2
      refine aj.iload_n dX11_refusedStrayed_16 rfl ?_
      refine aj.i2l dX11_refusedStrayed_17 ?_
      refine aj.callS1 (d' := 0) (As := [.long (Int32.toInt64 aim)]) (rest := []) dX11_refusedStrayed_18 v_X11_150 w748 rfl rfl (Nat.le_of_ble_eq_true rfl) (Nat.le_of_ble_eq_true rfl) (k_isPlaceI _ aim) (fun M hM => ?_)
      subst hM
      refine aj.if_neB (tgt := 27) dX11_refusedStrayed_21 rfl (fun c21 => ?_) (fun c21 => ?_)
      · have h_aim := inR_bd (n := 20) c21 (by decide)
        have h2_aim := h_aim.2
        refine aj.aload_n dX11_refusedStrayed_27 rfl ?_
        refine gX11_trays (i := 0) rfl hA w382 dX11_refusedStrayed_28 ?_
        refine aj.iload_n dX11_refusedStrayed_31 rfl ?_
        refine aj.kR50 (j := mN t) rfl dX11_refusedStrayed_32 hA h_t.1 (by omega) (by decide) ?_
        refine aj.callS1 (d' := 0) (As := [.ref (a + (57 + 2 * (mN t)))]) (rest := []) dX11_refusedStrayed_33 v_X11_419 w1101 rfl rfl (Nat.le_of_ble_eq_true rfl) (Nat.le_of_ble_eq_true rfl) (k_refusedSize (mN t) (by omega) hTr hv hw hA) (fun M hM => ?_)
        subst hM
        refine aj.istore (lv' := [(4, .int (if A 32 (mN t) = -1 then -6 else if inR (A 33 (mN t)) 1 8 then 0 else -4)), (0, .ref a), (1, .int t), (2, .int s), (3, .int aim)]) dX11_refusedStrayed_36 (Nat.le_of_ble_eq_true rfl) rfl ?_
        refine aj.iload dX11_refusedStrayed_38 rfl ?_
        refine aj.if_eq (tgt := 46) dX11_refusedStrayed_40 rfl (fun c40 => ?_) (fun c40 => ?_)
        · refine aj.iconst (v := 0) dX11_refusedStrayed_46 rfl ?_
          refine aj.istore (lv' := [(5, .int 0), (4, .int (if A 32 (mN t) = -1 then -6 else if inR (A 33 (mN t)) 1 8 then 0 else -4)), (0, .ref a), (1, .int t), (2, .int s), (3, .int aim)]) dX11_refusedStrayed_47 (Nat.le_of_ble_eq_true rfl) rfl ?_
          obtain ⟨hno, h18⟩ := refS_0 c40
          have hb8 := inR_bd1 (n := 8) h18 (by decide)
          refine aj.pick [0, 1, 2, 3, 4, 5] rfl ?_
          refine aj.mono (refStr_lp (mN t) h_t.1 (by omega) hTr hv hw hno hb8.1 hb8.2.1 hA _ (mN (A 33 (mN t))) 0 (by omega) rfl) (fun r M' hq => ⟨hq.1.trans (by unfold mStrC; rw [hA1, if_pos (⟨c5, c13, c21⟩ : _ ∧ _ ∧ _), if_neg hno, if_pos h18]), hq.2⟩)
        · refine aj.iload dX11_refusedStrayed_43 rfl ?_
          exact aj.iret rfl dX11_refusedStrayed_45 ⟨by unfold mStrC; rw [hA1, if_pos (⟨c5, c13, c21⟩ : _ ∧ _ ∧ _)]; exact refS_ne c40, rfl⟩
      · refine aj.bipush (v := (-2)) dX11_refusedStrayed_24 rfl ?_
        exact aj.iret rfl dX11_refusedStrayed_26 ⟨by unfold mStrC; rw [if_neg (fun z => c21 z.2.2)], rfl⟩
theorem k_byWind {G : zG} {l : Launch} {a : Nat} {M0 M : zM} {V : Nat → Nat → Int32} {W : Nat → Nat → Int64} {R : Nat → Nat → Option Nat} {V0 : Nat → Nat → Int32} {T : Nat} {B : Nat → Int32} {sl ol : Option (List Nat)} {Tm : Nat} (s : Nat) {x_s : Int32} (e_s : x_s = nI s) (aim : Nat) {x_aim : Int32} (e_aim : x_aim = nI aim) (lot : Nat) {x_lot : Int32} (e_lot : x_lot = nI lot) (wd : Nat) {x_wd : Int32} (e_wd : x_wd = nI wd) (hs4 : s < 4) (hH : cH a M0 V0 R T B sl ol Tm) (hv : ∀ i, ¬ sc i → V i = V0 i) (hA : kA a M0 M V W R) : am G l kX11_landingByWind 5 [.ref a, .int x_s, .int x_aim, .int x_lot, .int x_wd] M 0 0 (zr (.int (nI (mLand sl (B (13 + s)) (mN (B (21 + s))) wd aim lot))) (fun M' => ∃ v v', kA a M0 M' (va_up (va_up V 50 v) 51 v') W R)) := by
  obtain ⟨hT, hb, hS, hB⟩ := id hH
  have hd0 := (dLaw_of hB).1
  have hd1 := (dLaw_of hB).2
  have h25 := hB.2.2.2.2.2.1
  have h26 := hB.2.2.2.2.2.2.1
  have h27 := hB.2.2.2.2.2.2.2.1
  have h6 := hB.2.2.1
  have hag := hB.2.2.2.2.1
  have hTm := hB.2.2.2.2.2.2.2.2.1
  have h25b := h25.2
  have h26b := h26.2
  have h27b := h27.2
  have h6b := h6.2
  have hag1 := (hag s hs4).2
  refine am.of (by decide) (Nat.le_of_ble_eq_true rfl) ?_
  refine aj.aload_n dX11_landingByWind_0 rfl ?_
  refine gX11_range (i := 0) rfl hA w385 dX11_landingByWind_1 ?_
  refine aj.aload_n dX11_landingByWind_4 rfl ?_
  refine gT hT hA w378 dX11_landingByWind_5 ?_
  refine aj.aload_n dX11_landingByWind_8 rfl ?_
  refine gT hT hA w378 dX11_landingByWind_9 ?_
  refine aj.iload_n dX11_landingByWind_12 rfl ?_
  refine aj.callE1 (d' := 0) (As := [.int x_s]) (rest := [.ref T, .ref (a + 49)]) dX11_landingByWind_13 v_X11_131 li_X0_shakeOf (hA.bw hb).ob rfl rfl rfl (Nat.le_of_ble_eq_true rfl) (Nat.le_of_ble_eq_true rfl) (k_shakeOf s e_s (by omega) (hA.bw hb)) (fun M hM => ?_)
  subst hM
  refine aj.aload_n dX11_landingByWind_16 rfl ?_
  refine gX11_now (i := 0) rfl hA w379 dX11_landingByWind_17 ?_
  refine aj.iload_n dX11_landingByWind_20 rfl ?_
  refine aj.callE1 (d' := 0) (As := [.int x_s]) (rest := [.int (B (13 + s)), .ref T, .ref (a + 49)]) dX11_landingByWind_21 v_X11_135 li_X7_ageOf ⟨_, hA.ob (i := 8) rfl (by decide)⟩ rfl rfl rfl (Nat.le_of_ble_eq_true rfl) (Nat.le_of_ble_eq_true rfl) (k_ageOf (o := 8) ⟨rfl, rfl, rfl⟩ s e_s (by omega) hA) (fun M hM => ?_)
  subst hM
  refine aj.iload dX11_landingByWind_24 rfl ?_
  refine aj.iload_n dX11_landingByWind_26 rfl ?_
  refine aj.iload_n dX11_landingByWind_27 rfl ?_
  refine aj.callE1 (d' := 4) (As := [.ref T, .int (B (13 + s)), .int (V 10 s), .int x_wd, .int x_aim, .int x_lot]) (rest := []) dX11_landingByWind_28 v_X11_381 li_X4_landing ⟨_, hA.ob (i := 49) rfl (by decide)⟩ rfl rfl rfl (Nat.le_of_ble_eq_true rfl) (Nat.le_of_ble_eq_true rfl) (k_landing (B (13 + s)) (mN (B (21 + s))) (((congrFun (hv 10 (by decide)) _).trans ((hS.2.1 _ (by omega)).trans (hag _ (by omega)).1))) wd e_wd aim e_aim lot e_lot (by omega) hb hd0 hA) (fun M hM => ?_)
  obtain ⟨v1, v2, hA⟩ := hM
  exact aj.iret rfl dX11_landingByWind_31 ⟨rfl, ⟨_, _, hA⟩⟩
def e5 (V V1 : Nat → Nat → Int32) : Prop := ∀ q, q ≠ 50 → q ≠ 51 → V1 q = V q
theorem e5.up {V V1 : Nat → Nat → Int32} {v v' : Nat → Int32} (h : e5 V V1) : e5 V (va_up (va_up V1 50 v) 51 v') := fun q q0 q1 => by rw [va_up_ne _ _ q1, va_up_ne _ _ q0]; exact h q q0 q1
theorem e5_v {V V1 V0 : Nat → Nat → Int32} (hE : e5 V V1) (hv : ∀ i, ¬ sc i → V i = V0 i) : ∀ i, ¬ sc i → V1 i = V0 i := fun i hi => by
  rw [hE i (fun e => hi (by subst e; decide)) (fun e => hi (by subst e; decide))]
  exact hv i hi
theorem strBy_lp {G : zG} {l : Launch} {a : Nat} {M0 : zM} {V : Nat → Nat → Int32} {W : Nat → Nat → Int64} {R : Nat → Nat → Option Nat} {V0 : Nat → Nat → Int32} {T : Nat} {B : Nat → Int32} {sl ol : Option (List Nat)} {Tm : Nat} {W0 : Nat → Nat → Int64} {A : Nat → Nat → Int32} {L : Nat → Nat → Int64} (t : Nat) (s : Nat) {x_s : Int32} (e_s : x_s = nI s) (aim : Nat) {x_aim : Int32} (e_aim : x_aim = nI aim) (wd : Nat) {x_wd : Int32} (e_wd : x_wd = nI wd) (ht4 : t < 4) (hs4 : s < 4) (hno : ¬ A 32 t = -1) {m : Nat} (hm : A 33 t = nI m) (hm8 : m ≤ 8) (hok : strOK L t m) (hTr : trR V0 W0 A L) (hw : ∀ i, ¬ sc i → W i = W0 i) (hH : cH a M0 V0 R T B sl ol Tm) (hv : ∀ i, ¬ sc i → V i = V0 i) : ∀ (n i : Nat) (V1 : Nat → Nat → Int32) (M : zM), i + n = m → mBy B sl L t s aim wd i → e5 V V1 → kA a M0 M V1 W R → aj G l kX11_strayedBy 6 3 [(5, .int (nI i)), (0, .ref a), (1, .ref (a + (57 + 2 * t))), (2, .int x_s), (3, .int x_aim), (4, .int x_wd)] [] M 0 0 (zr (.int (zb (mBy B sl L t s aim wd m))) (fun M' => ∃ V1, kA a M0 M' V1 W R ∧ e5 V V1)) := by
  obtain ⟨hT, hb, hS, hB⟩ := id hH
  have hd0 := (dLaw_of hB).1
  have hd1 := (dLaw_of hB).2
  have h25 := hB.2.2.2.2.2.1
  have h26 := hB.2.2.2.2.2.2.1
  have h27 := hB.2.2.2.2.2.2.2.1
  have h6 := hB.2.2.1
  have hag := hB.2.2.2.2.1
  have hTm := hB.2.2.2.2.2.2.2.2.1
  have h25b := h25.2
  have h26b := h26.2
  have h27b := h27.2
  have h6b := h6.2
  obtain ⟨h33, h0, h1⟩ := hTr t ht4
  have ht := kTr_j t ht4
  have hnt := nsc_t ht4
  have h0' : V (57 + 2 * t) 0 = zb (¬ A 32 t = -1) := (congrFun (hv _ hnt.1) 0).trans h0
  have h1' : ¬ A 32 t = -1 → V (57 + 2 * t) 1 = A 33 t := fun z => (congrFun (hv _ hnt.1) 1).trans (h1 z).1
  have hsz : V (57 + 2 * t) 1 = nI m := (h1' hno).trans hm
  have hmm : mN (A 33 t) = m := by rw [hm]; exact mN_nI (by omega)
  have hval : ∀ j, j < m → W (57 + 2 * t + 1) j = L 34 (40 * t + j) := fun j hj => (congrFun (hw _ hnt.2) j).trans ((h1 hno).2.2 j (by omega))
  intro n
  induction n with
  | zero =>
    intro i V1 M hin hI hE hA
    have hv1 := e5_v hE hv
    have hsz1 : V1 (57 + 2 * t) 1 = nI m := by rw [hE _ (by omega) (by omega)]; exact hsz
    refine aj.iload dX11_strayedBy_3 rfl ?_
    refine aj.aload_n dX11_strayedBy_5 rfl ?_
    refine gX10_size (i := (57 + 2 * t)) ht.1 hA w348 dX11_strayedBy_6 ?_
    refine aj.icmp_geN (a := i) (b := m) (tgt := 54) dX11_strayedBy_9 rfl hsz1 (by omega) (by omega) rfl (fun c9 => ?_) (fun c9 => ?_)
    · refine aj.iconst (v := 1) dX11_strayedBy_54 rfl ?_
      exact aj.zret (ty := .boolean) rfl rfl dX11_strayedBy_55 ⟨by rw [zb_t (show mBy B sl L t s aim wd m by rw [show m = i by omega]; exact hI)], V1, hA, hE⟩
    · exact absurd c9 (by omega)
  | succ n ih =>
    intro i V1 M hin hI hE hA
    have hv1 := e5_v hE hv
    have hsz1 : V1 (57 + 2 * t) 1 = nI m := by rw [hE _ (by omega) (by omega)]; exact hsz
    obtain ⟨hp1, hp2, hp3⟩ := hok.2 i (by omega)
    have hvi := (hval i (by omega)).trans hp1
    have hml := mLand_le sl (B (13 + s)) (mN (B (21 + s))) wd aim (psF L t i / 100)
    refine aj.iload dX11_strayedBy_3 rfl ?_
    refine aj.aload_n dX11_strayedBy_5 rfl ?_
    refine gX10_size (i := (57 + 2 * t)) ht.1 hA w348 dX11_strayedBy_6 ?_
    refine aj.icmp_geN (a := i) (b := m) (tgt := 54) dX11_strayedBy_9 rfl hsz1 (by omega) (by omega) rfl (fun c9 => ?_) (fun c9 => ?_)
    · exact absurd c9 (by omega)
    · refine aj.aload_n dX11_strayedBy_12 rfl ?_
      refine aj.iload dX11_strayedBy_13 rfl ?_
      refine aj.callE1 (d' := 0) (As := [.int (nI i)]) (rest := []) dX11_strayedBy_15 v_X11_388 li_X10_at ⟨_, hA.ob (i := (57 + 2 * t)) ht.1 (by decide)⟩ rfl rfl rfl (Nat.le_of_ble_eq_true rfl) (Nat.le_of_ble_eq_true rfl) (k_trAt (o := (57 + 2 * t)) ht i rfl (by omega) hA) (fun M hM => ?_)
      subst hM
      rw [hvi]
      refine aj.lstore (lv' := [(6, .long (lN (psF L t i))), (5, .int (nI i)), (0, .ref a), (1, .ref (a + (57 + 2 * t))), (2, .int x_s), (3, .int x_aim), (4, .int x_wd)]) dX11_strayedBy_18 (Nat.le_of_ble_eq_true rfl) rfl ?_
      refine aj.aload_n dX11_strayedBy_20 rfl ?_
      refine aj.iload_n dX11_strayedBy_21 rfl ?_
      refine aj.iload_n dX11_strayedBy_22 rfl ?_
      refine aj.lload dX11_strayedBy_23 rfl ?_
      refine aj.ldc2 dX11_strayedBy_25 w1141 ?_
      refine aj.ldiv dX11_strayedBy_28 (by decide) ?_
      rw [lN_div100 (by omega)]
      refine aj.l2iN (a := psF L t i / 100) dX11_strayedBy_29 rfl ?_
      refine aj.iload dX11_strayedBy_30 rfl ?_
      refine aj.callE1 (d' := 5) (As := [.int x_s, .int x_aim, .int (nI (psF L t i / 100)), .int x_wd]) (rest := []) dX11_strayedBy_32 v_X11_440 li_X11_landingByWind ⟨_, hA.ob (i := 0) rfl (by decide)⟩ rfl rfl rfl (Nat.le_of_ble_eq_true rfl) (Nat.le_of_ble_eq_true rfl) (k_byWind s e_s aim e_aim (psF L t i / 100) rfl wd e_wd hs4 hH hv1 hA) (fun M hM => ?_)
      obtain ⟨v1, v2, hA⟩ := hM
      refine aj.i2lN (a := mLand sl (B (13 + s)) (mN (B (21 + s))) wd aim (psF L t i / 100)) dX11_strayedBy_35 rfl (by omega) ?_
      refine aj.lload dX11_strayedBy_36 rfl ?_
      refine aj.ldc2 dX11_strayedBy_38 w1141 ?_
      refine aj.lrem dX11_strayedBy_41 (by decide) ?_
      rw [lN_rem100 (by omega)]
      refine aj.lif_eq (tgt := 48) dX11_strayedBy_42 dX11_strayedBy_43 rfl (fun c42 => ?_) (fun c42 => ?_)
      · refine aj.iincN (a := i) (c := 1) (lv' := [(5, .int (nI (i + 1))), (6, .long (lN (psF L t i))), (0, .ref a), (1, .ref (a + (57 + 2 * t))), (2, .int x_s), (3, .int x_aim), (4, .int x_wd)]) dX11_strayedBy_48 rfl (Nat.le_of_ble_eq_true rfl) rfl rfl rfl ?_
        refine aj.goto (tgt := 3) dX11_strayedBy_51 rfl ?_
        have hmm : mLand sl (B (13 + s)) (mN (B (21 + s))) wd aim (psF L t i / 100) = psF L t i % 100 := by
          have := congrArg Int64.toInt c42
          rw [pk_lT (by omega), pk_lT (by omega)] at this
          omega
        refine aj.pick [0, 2, 3, 4, 5, 6] rfl ?_
        exact ih (i + 1) _ M (by omega) (mBy_s.mpr ⟨hI, hmm⟩) hE.up hA
      · refine aj.iconst (v := 0) dX11_strayedBy_46 rfl ?_
        exact aj.zret (ty := .boolean) rfl rfl dX11_strayedBy_47 ⟨by rw [zb_f (fun z => c42 (by rw [(z i (by omega) : mLand sl (B (13 + s)) (mN (B (21 + s))) wd aim (psF L t i / 100) = psF L t i % 100)]))], _, hA, hE.up⟩
theorem k_strBy {G : zG} {l : Launch} {a : Nat} {M0 M : zM} {V : Nat → Nat → Int32} {W : Nat → Nat → Int64} {R : Nat → Nat → Option Nat} {V0 : Nat → Nat → Int32} {T : Nat} {B : Nat → Int32} {sl ol : Option (List Nat)} {Tm : Nat} {W0 : Nat → Nat → Int64} {A : Nat → Nat → Int32} {L : Nat → Nat → Int64} (t : Nat) (s : Nat) {x_s : Int32} (e_s : x_s = nI s) (aim : Nat) {x_aim : Int32} (e_aim : x_aim = nI aim) (wd : Nat) {x_wd : Int32} (e_wd : x_wd = nI wd) (ht4 : t < 4) (hs4 : s < 4) (hno : ¬ A 32 t = -1) {m : Nat} (hm : A 33 t = nI m) (hm8 : m ≤ 8) (hok : strOK L t m) (hTr : trR V0 W0 A L) (hw : ∀ i, ¬ sc i → W i = W0 i) (hH : cH a M0 V0 R T B sl ol Tm) (hv : ∀ i, ¬ sc i → V i = V0 i) (hA : kA a M0 M V W R) : am G l kX11_strayedBy 6 [.ref a, .ref (a + (57 + 2 * t)), .int x_s, .int x_aim, .int x_wd] M 0 0 (zr (.int (zb (mBy B sl L t s aim wd m))) (fun M' => ∃ V1, kA a M0 M' V1 W R ∧ e5 V V1)) := by
  refine am.of (by decide) (Nat.le_of_ble_eq_true rfl) ?_
  refine aj.iconst (v := 0) dX11_strayedBy_0 rfl ?_
  refine aj.istore (lv' := [(5, .int 0), (0, .ref a), (1, .ref (a + (57 + 2 * t))), (2, .int x_s), (3, .int x_aim), (4, .int x_wd)]) dX11_strayedBy_1 (Nat.le_of_ble_eq_true rfl) rfl ?_
  refine aj.pick [0, 1, 2, 3, 4, 5] rfl ?_
  exact strBy_lp t s e_s aim e_aim wd e_wd ht4 hs4 hno hm hm8 hok hTr hw hH hv m 0 V M (by omega) (fun k hk => absurd hk (Nat.not_lt_zero k)) (fun _ _ _ => rfl) hA
theorem strW_lp {G : zG} {l : Launch} {a : Nat} {M0 : zM} {V : Nat → Nat → Int32} {W : Nat → Nat → Int64} {R : Nat → Nat → Option Nat} {V0 : Nat → Nat → Int32} {T : Nat} {B : Nat → Int32} {sl ol : Option (List Nat)} {Tm : Nat} {W0 : Nat → Nat → Int64} {A : Nat → Nat → Int32} {L : Nat → Nat → Int64} (t : Nat) {x_t : Int32} (e_t : x_t = nI t) (s : Nat) {x_s : Int32} (e_s : x_s = nI s) (aim : Nat) {x_aim : Int32} (e_aim : x_aim = nI aim) (ht4 : t < 4) (hs4 : s < 4) (hno : ¬ A 32 t = -1) {m : Nat} (hm : A 33 t = nI m) (hm8 : m ≤ 8) (hok : strOK L t m) (hTr : trR V0 W0 A L) (hw : ∀ i, ¬ sc i → W i = W0 i) (hH : cH a M0 V0 R T B sl ol Tm) (hv : ∀ i, ¬ sc i → V i = V0 i) : ∀ (n i : Nat) (z : Int32) (V1 : Nat → Nat → Int32) (M : zM), i + n = 10 → z = zbits (fun wd => mBy B sl L t s aim wd m) i → e5 V V1 → kA a M0 M V1 W R → aj G l kX11_strayedWinds 7 6 [(5, .int (nI i)), (4, .int z), (0, .ref a), (1, .int x_t), (2, .int x_s), (3, .int x_aim)] [] M 0 0 (zr (.int (zbits (fun wd => mBy B sl L t s aim wd m) 10)) (fun M' => ∃ V1, kA a M0 M' V1 W R ∧ e5 V V1)) := by
  intro n
  induction n with
  | zero =>
    intro i z V1 M hin hz hE hA
    refine aj.iload dX11_strayedWinds_6 rfl ?_
    refine aj.bipush (v := 10) dX11_strayedWinds_8 rfl ?_
    refine aj.icmp_geN (a := i) (b := 10) (tgt := 45) dX11_strayedWinds_10 rfl rfl (by omega) (by omega) rfl (fun c10 => ?_) (fun c10 => ?_)
    · refine aj.iload dX11_strayedWinds_45 rfl ?_
      exact aj.iret rfl dX11_strayedWinds_47 ⟨by rw [hz, show i = 10 by omega], V1, hA, hE⟩
    · exact absurd c10 (by omega)
  | succ n ih =>
    intro i z V1 M hin hz hE hA
    refine aj.iload dX11_strayedWinds_6 rfl ?_
    refine aj.bipush (v := 10) dX11_strayedWinds_8 rfl ?_
    refine aj.icmp_geN (a := i) (b := 10) (tgt := 45) dX11_strayedWinds_10 rfl rfl (by omega) (by omega) rfl (fun c10 => ?_) (fun c10 => ?_)
    · exact absurd c10 (by omega)
    · refine aj.aload_n dX11_strayedWinds_13 rfl ?_
      refine aj.aload_n dX11_strayedWinds_14 rfl ?_
      refine gX11_trays (i := 0) rfl hA w382 dX11_strayedWinds_15 ?_
      refine aj.iload_n dX11_strayedWinds_18 rfl ?_
      refine aj.kR50 (j := t) rfl dX11_strayedWinds_19 hA e_t (by omega) (by decide) ?_
      refine aj.iload_n dX11_strayedWinds_20 rfl ?_
      refine aj.iload_n dX11_strayedWinds_21 rfl ?_
      refine aj.iload dX11_strayedWinds_22 rfl ?_
      refine aj.callE1 (d' := 6) (As := [.ref (a + (57 + 2 * t)), .int x_s, .int x_aim, .int (nI i)]) (rest := []) dX11_strayedWinds_24 v_X11_436 li_X11_strayedBy ⟨_, hA.ob (i := 0) rfl (by decide)⟩ rfl rfl rfl (Nat.le_of_ble_eq_true rfl) (Nat.le_of_ble_eq_true rfl) (k_strBy t s e_s aim e_aim i rfl ht4 hs4 hno hm hm8 hok hTr hw hH (e5_v hE hv) hA) (fun M hM => ?_)
      obtain ⟨V2, hA, hE2⟩ := hM
      refine aj.if_eqB (tgt := 39) dX11_strayedWinds_27 rfl (fun c27 => ?_) (fun c27 => ?_)
      · refine aj.iincN (a := i) (c := 1) (lv' := [(5, .int (nI (i + 1))), (4, .int z), (0, .ref a), (1, .int x_t), (2, .int x_s), (3, .int x_aim)]) dX11_strayedWinds_39 rfl (Nat.le_of_ble_eq_true rfl) rfl rfl rfl ?_
        refine aj.goto (tgt := 6) dX11_strayedWinds_42 rfl ?_
        refine aj.pick [0, 1, 2, 3, 4, 5] rfl ?_
        exact ih (i + 1) _ V2 M (by omega) (by rw [hz, zbits_s, if_neg c27]) (fun q q0 q1 => (hE2 q q0 q1).trans (hE q q0 q1)) hA
      · refine aj.iload dX11_strayedWinds_30 rfl ?_
        refine aj.iconst (v := 1) dX11_strayedWinds_32 rfl ?_
        refine aj.iload dX11_strayedWinds_33 rfl ?_
        refine aj.ishl dX11_strayedWinds_35 ?_
        refine aj.ior dX11_strayedWinds_36 ?_
        refine aj.istore (lv' := [(4, .int (z ||| (1 <<< ((nI i) &&& 31)))), (5, .int (nI i)), (0, .ref a), (1, .int x_t), (2, .int x_s), (3, .int x_aim)]) dX11_strayedWinds_37 (Nat.le_of_ble_eq_true rfl) rfl ?_
        refine aj.iincN (a := i) (c := 1) (lv' := [(5, .int (nI (i + 1))), (4, .int (z ||| (1 <<< ((nI i) &&& 31)))), (0, .ref a), (1, .int x_t), (2, .int x_s), (3, .int x_aim)]) dX11_strayedWinds_39 rfl (Nat.le_of_ble_eq_true rfl) rfl rfl rfl ?_
        refine aj.goto (tgt := 6) dX11_strayedWinds_42 rfl ?_
        refine aj.pick [0, 1, 2, 3, 4, 5] rfl ?_
        exact ih (i + 1) _ V2 M (by omega) (by rw [hz, zbits_s, if_pos c27]) (fun q q0 q1 => (hE2 q q0 q1).trans (hE q q0 q1)) hA
theorem k_strW {G : zG} {l : Launch} {a : Nat} {M0 M : zM} {V : Nat → Nat → Int32} {W : Nat → Nat → Int64} {R : Nat → Nat → Option Nat} {V0 : Nat → Nat → Int32} {T : Nat} {B : Nat → Int32} {sl ol : Option (List Nat)} {Tm : Nat} {W0 : Nat → Nat → Int64} {A : Nat → Nat → Int32} {L : Nat → Nat → Int64} (t : Nat) {x_t : Int32} (e_t : x_t = nI t) (s : Nat) {x_s : Int32} (e_s : x_s = nI s) (aim : Nat) {x_aim : Int32} (e_aim : x_aim = nI aim) (ht4 : t < 4) (hs4 : s < 4) (hno : ¬ A 32 t = -1) {m : Nat} (hm : A 33 t = nI m) (hm8 : m ≤ 8) (hok : strOK L t m) (hTr : trR V0 W0 A L) (hw : ∀ i, ¬ sc i → W i = W0 i) (hH : cH a M0 V0 R T B sl ol Tm) (hv : ∀ i, ¬ sc i → V i = V0 i) (hA : kA a M0 M V W R) : am G l kX11_strayedWinds 7 [.ref a, .int x_t, .int x_s, .int x_aim] M 0 0 (zr (.int (zbits (fun wd => mBy B sl L t s aim wd m) 10)) (fun M' => ∃ V1, kA a M0 M' V1 W R ∧ e5 V V1)) := by
  refine am.of (by decide) (Nat.le_of_ble_eq_true rfl) ?_
  refine aj.iconst (v := 0) dX11_strayedWinds_0 rfl ?_
  refine aj.istore (lv' := [(4, .int 0), (0, .ref a), (1, .int x_t), (2, .int x_s), (3, .int x_aim)]) dX11_strayedWinds_1 (Nat.le_of_ble_eq_true rfl) rfl ?_
  refine aj.iconst (v := 0) dX11_strayedWinds_3 rfl ?_
  refine aj.istore (lv' := [(5, .int 0), (4, .int 0), (0, .ref a), (1, .int x_t), (2, .int x_s), (3, .int x_aim)]) dX11_strayedWinds_4 (Nat.le_of_ble_eq_true rfl) rfl ?_
  refine aj.pick [0, 1, 2, 3, 4, 5] rfl ?_
  exact strW_lp t e_t s e_s aim e_aim ht4 hs4 hno hm hm8 hok hTr hw hH hv 10 0 _ V M (by omega) rfl (fun _ _ _ => rfl) hA
theorem p_winds {G : zG} {l : Launch} {a : Nat} {M0 M : zM} {V0 : Nat → Nat → Int32} {W0 : Nat → Nat → Int64} {R : Nat → Nat → Option Nat} {T : Nat} {B : Nat → Int32} {sl ol : Option (List Nat)} {Tm : Nat} (t : Int32) (s : Int32) (aim : Int32) (hM : kW a M0 M V0 W0 R) (hH : cH a M0 V0 R T B sl ol Tm) {A : Nat → Nat → Int32} {L : Nat → Nat → Int64} (hTr : trR V0 W0 A L) (hA1 : A 1 = B) : am G l kX11_winds 8 [.ref a, .int t, .int s, .int aim] M 0 0 (zr (.int (if mStrC A L t s aim = 0 then zbits (fun wd => mBy B sl L (mN t) (mN s) (mN aim) wd (mN (A 33 (mN t)))) 10 else mStrC A L t s aim)) (fun M' => kW a M0 M' V0 W0 R)) := by
  obtain ⟨V, W, hA, hv, hw⟩ := hM
  obtain ⟨hT, hb, hS, hB⟩ := id hH
  have hd0 := (dLaw_of hB).1
  have hd1 := (dLaw_of hB).2
  have h25 := hB.2.2.2.2.2.1
  have h26 := hB.2.2.2.2.2.2.1
  have h27 := hB.2.2.2.2.2.2.2.1
  have h6 := hB.2.2.1
  have hag := hB.2.2.2.2.1
  have hTm := hB.2.2.2.2.2.2.2.2.1
  have h25b := h25.2
  have h26b := h26.2
  have h27b := h27.2
  have h6b := h6.2
  refine am.of (by decide) (Nat.le_of_ble_eq_true rfl) ?_
  refine aj.aload_n dX11_winds_0 rfl ?_
  refine aj.iload_n dX11_winds_1 rfl ?_
  refine aj.iload_n dX11_winds_2 rfl ?_
  refine aj.iload_n dX11_winds_3 rfl ?_
  refine aj.callE1 (d' := 1) (As := [.int t, .int s, .int aim]) (rest := []) dX11_winds_4 v_X11_306 li_X11_refusedStrayed ⟨_, hA.ob (i := 0) rfl (by decide)⟩ rfl rfl rfl (Nat.le_of_ble_eq_true rfl) (Nat.le_of_ble_eq_true rfl) (k_refusedStrayed t s aim hTr hw hA1 hH hv hA) (fun M hM => ?_)
  subst hM
  refine aj.istore (lv' := [(4, .int (mStrC A L t s aim)), (0, .ref a), (1, .int t), (2, .int s), (3, .int aim)]) dX11_winds_7 (Nat.le_of_ble_eq_true rfl) rfl ?_
  refine aj.iload dX11_winds_9 rfl ?_
  refine aj.if_eq (tgt := 19) dX11_winds_11 rfl (fun c11 => ?_) (fun c11 => ?_)
  · obtain ⟨ct, cs, ca, hno, h18, hz0⟩ := mStrC_0 c11
    rw [hA1] at cs
    have h_t := inR_bd (n := 3) ct (by decide)
    have h2_t := h_t.2
    have h_s := inR_bdS cs (by omega)
    have h2_s := h_s.2
    have h_aim := inR_bd (n := 20) ca (by decide)
    have h2_aim := h_aim.2
    have hb8 := inR_bd1 (n := 8) h18 (by decide)
    refine aj.aload_n dX11_winds_19 rfl ?_
    refine aj.iload_n dX11_winds_20 rfl ?_
    refine aj.iload_n dX11_winds_21 rfl ?_
    refine aj.iload_n dX11_winds_22 rfl ?_
    refine aj.callE1 (d' := 7) (As := [.int t, .int s, .int aim]) (rest := []) dX11_winds_23 v_X11_309 li_X11_strayedWinds ⟨_, hA.ob (i := 0) rfl (by decide)⟩ rfl rfl rfl (Nat.le_of_ble_eq_true rfl) (Nat.le_of_ble_eq_true rfl) (k_strW (mN t) h_t.1 (mN s) h_s.1 (mN aim) h_aim.1 (by omega) (by omega) hno hb8.1 hb8.2.1 (strOK_of hb8.2.1 hz0) hTr hw hH hv hA) (fun M hM => ?_)
    obtain ⟨V, hA, hE⟩ := hM
    have hv := e5_v hE hv
    exact aj.iret rfl dX11_winds_26 ⟨by rw [if_pos c11], ⟨_, _, hA, hv, hw⟩⟩
  · refine aj.iload dX11_winds_14 rfl ?_
    refine aj.goto (tgt := 26) dX11_winds_16 rfl ?_
    exact aj.iret rfl dX11_winds_26 ⟨by rw [if_neg c11], ⟨_, _, hA, hv, hw⟩⟩
theorem alike_mx {G : zG} {l : Launch} {a : Nat} {M0 M : zM} {V : Nat → Nat → Int32} {W : Nat → Nat → Int64} {R : Nat → Nat → Option Nat} {V0 : Nat → Nat → Int32} {B : Nat → Int32} {sl : Option (List Nat)} {f : Nat → Prop} [DecidablePred f] {s aim lot : Nat} {xz xs xa xl : Int32} (hC : ∀ k, k < 21 → V 53 k = nI (mWc B sl f s aim lot k 10)) (hE : spE V0 V) (hA : kA a M0 M V W R) : ∀ (n i p : Nat), i + n = 21 → p = nmx (fun k => mWc B sl f s aim lot k 10) i → p ≤ 10 → aj G l kX11_mostAlike 6 54 [(6, .int (nI i)), (5, .int (nI p)), (0, .ref a), (1, .int xz), (2, .int xs), (3, .int xa), (4, .int xl)] [] M 0 0 (zr (.int (nI (mOft B sl f s aim lot 10))) (fun M' => ∃ V1, kA a M0 M' V1 W R ∧ spE V0 V1)) := by
  intro n
  induction n with
  | zero =>
    intro i p hin hp hp10
    refine aj.iload dX11_mostAlike_54 rfl ?_
    refine aj.bipush (v := 21) dX11_mostAlike_56 rfl ?_
    refine aj.icmp_geN (a := i) (b := 21) (tgt := 81) dX11_mostAlike_58 rfl rfl (by omega) (by omega) rfl (fun c58 => ?_) (fun c58 => ?_)
    · refine aj.iload dX11_mostAlike_81 rfl ?_
      exact aj.iret rfl dX11_mostAlike_83 ⟨by rw [hp, show i = 21 by omega], V, hA, hE⟩
    · exact absurd c58 (by omega)
  | succ n ih =>
    intro i p hin hp hp10
    have hci := hC i (by omega)
    have hcl : mWc B sl f s aim lot i 10 ≤ 10 := zcnt_le _ 10
    have hmx : iMax (nI p) (V 53 i) = nI (max p (mWc B sl f s aim lot i 10)) := by rw [hci]; exact iMax_N (by omega) (by omega)
    refine aj.iload dX11_mostAlike_54 rfl ?_
    refine aj.bipush (v := 21) dX11_mostAlike_56 rfl ?_
    refine aj.icmp_geN (a := i) (b := 21) (tgt := 81) dX11_mostAlike_58 rfl rfl (by omega) (by omega) rfl (fun c58 => ?_) (fun c58 => ?_)
    · exact absurd c58 (by omega)
    · refine aj.iload dX11_mostAlike_61 rfl ?_
      refine aj.aload_n dX11_mostAlike_63 rfl ?_
      refine gX11_spots (i := 0) rfl hA w387 dX11_mostAlike_64 ?_
      refine aj.iload dX11_mostAlike_67 rfl ?_
      refine aj.kL (i := 53) (j := i) rfl dX11_mostAlike_69 hA rfl (by omega) (by decide) ?_
      refine aj.mmax dX11_mostAlike_70 w1162 (Nat.le_of_ble_eq_true rfl) (Nat.le_of_ble_eq_true rfl) ?_
      refine aj.istore (lv' := [(5, .int (iMax (nI p) (V 53 i))), (6, .int (nI i)), (0, .ref a), (1, .int xz), (2, .int xs), (3, .int xa), (4, .int xl)]) dX11_mostAlike_73 (Nat.le_of_ble_eq_true rfl) rfl ?_
      refine aj.iincN (a := i) (c := 1) (lv' := [(6, .int (nI (i + 1))), (5, .int (iMax (nI p) (V 53 i))), (0, .ref a), (1, .int xz), (2, .int xs), (3, .int xa), (4, .int xl)]) dX11_mostAlike_75 rfl (Nat.le_of_ble_eq_true rfl) rfl rfl rfl ?_
      refine aj.goto (tgt := 54) dX11_mostAlike_78 rfl ?_
      refine aj.pick [0, 1, 2, 3, 4, 5, 6] rfl ?_
      rw [hmx]
      exact ih (i + 1) _ (by omega) (by rw [nmx_s, ← hp]) (by omega)
theorem alike_lp {G : zG} {l : Launch} {a : Nat} {M0 : zM} {V : Nat → Nat → Int32} {W : Nat → Nat → Int64} {R : Nat → Nat → Option Nat} {V0 : Nat → Nat → Int32} {T : Nat} {B : Nat → Int32} {sl ol : Option (List Nat)} {Tm : Nat} {f : Nat → Prop} [DecidablePred f] (s : Nat) {x_s : Int32} (e_s : x_s = nI s) (aim : Nat) {x_aim : Int32} (e_aim : x_aim = nI aim) (lot : Nat) {x_lot : Int32} (e_lot : x_lot = nI lot) (hs4 : s < 4) (hH : cH a M0 V0 R T B sl ol Tm) (hv : ∀ i, ¬ sc i → V i = V0 i) : ∀ (n i : Nat) (V1 : Nat → Nat → Int32) (M : zM), i + n = 10 → spE V V1 → (∀ k, k < 21 → V1 53 k = nI (mWc B sl f s aim lot k i)) → kA a M0 M V1 W R → aj G l kX11_mostAlike 6 11 [(5, .int (nI i)), (0, .ref a), (1, .int (zbits f 10)), (2, .int x_s), (3, .int x_aim), (4, .int x_lot)] [] M 0 0 (zr (.int (nI (mOft B sl f s aim lot 10))) (fun M' => ∃ V1, kA a M0 M' V1 W R ∧ spE V V1)) := by
  intro n
  induction n with
  | zero =>
    intro i V1 M hin hE hC hA
    have hv1 := sp_v hE hv
    refine aj.iload dX11_mostAlike_11 rfl ?_
    refine aj.bipush (v := 10) dX11_mostAlike_13 rfl ?_
    refine aj.icmp_geN (a := i) (b := 10) (tgt := 48) dX11_mostAlike_15 rfl rfl (by (first | omega | (split <;> omega))) (by (first | omega | (split <;> omega))) rfl (fun c15 => ?_) (fun c15 => ?_)
    · refine aj.iconst (v := 0) dX11_mostAlike_48 rfl ?_
      refine aj.istore (lv' := [(5, .int 0), (0, .ref a), (1, .int (zbits f 10)), (2, .int x_s), (3, .int x_aim), (4, .int x_lot)]) dX11_mostAlike_49 (Nat.le_of_ble_eq_true rfl) rfl ?_
      refine aj.iconst (v := 0) dX11_mostAlike_51 rfl ?_
      refine aj.istore (lv' := [(6, .int 0), (5, .int 0), (0, .ref a), (1, .int (zbits f 10)), (2, .int x_s), (3, .int x_aim), (4, .int x_lot)]) dX11_mostAlike_52 (Nat.le_of_ble_eq_true rfl) rfl ?_
      refine aj.pick [0, 1, 2, 3, 4, 5, 6] rfl ?_
      exact alike_mx (V := V1) (V0 := V) (fun k hk => by rw [hC k hk, show i = 10 by omega]) hE hA 21 0 0 (by omega) rfl (by omega)
    · exact absurd c15 (by omega)
  | succ n ih =>
    intro i V1 M hin hE hC hA
    have hv1 := sp_v hE hv
    have hml := mLand_le sl (B (13 + s)) (mN (B (21 + s))) i aim lot
    have ez : ∀ k, mWc B sl f s aim lot k (i + 1) = mWc B sl f s aim lot k i + (if (i < 10 ∧ f i) ∧ mLand sl (B (13 + s)) (mN (B (21 + s))) i aim lot = k then 1 else 0) := fun k => rfl
    refine aj.iload dX11_mostAlike_11 rfl ?_
    refine aj.bipush (v := 10) dX11_mostAlike_13 rfl ?_
    refine aj.icmp_geN (a := i) (b := 10) (tgt := 48) dX11_mostAlike_15 rfl rfl (by (first | omega | (split <;> omega))) (by (first | omega | (split <;> omega))) rfl (fun c15 => ?_) (fun c15 => ?_)
    · exact absurd c15 (by omega)
    · refine aj.iload_n dX11_mostAlike_18 rfl ?_
      refine aj.iload dX11_mostAlike_19 rfl ?_
      refine aj.ishr dX11_mostAlike_21 ?_
      refine aj.iconst (v := 1) dX11_mostAlike_22 rfl ?_
      refine aj.iand dX11_mostAlike_23 ?_
      refine aj.iconst (v := 1) dX11_mostAlike_24 rfl ?_
      refine aj.icmp_neN (a := if i < 10 ∧ f i then 1 else 0) (b := 1) (tgt := 42) dX11_mostAlike_25 (z_bit f (by omega) (by omega)) rfl (by (first | omega | (split <;> omega))) (by (first | omega | (split <;> omega))) rfl (fun c25 => ?_) (fun c25 => ?_)
      · refine aj.iincN (a := i) (c := 1) (lv' := [(5, .int (nI (i + 1))), (0, .ref a), (1, .int (zbits f 10)), (2, .int x_s), (3, .int x_aim), (4, .int x_lot)]) dX11_mostAlike_42 rfl (Nat.le_of_ble_eq_true rfl) rfl rfl rfl ?_
        refine aj.goto (tgt := 11) dX11_mostAlike_45 rfl ?_
        refine aj.pick [0, 1, 2, 3, 4, 5] rfl ?_
        exact ih (i + 1) V1 M (by omega) hE (fun k hk => by rw [ez, if_neg (fun z => c25 (by rw [if_pos z.1])), hC k hk]; rfl) hA
      · have hb1 : i < 10 ∧ f i := Classical.byContradiction fun z => by rw [if_neg z] at c25; exact absurd c25 (by decide)
        refine aj.aload_n dX11_mostAlike_28 rfl ?_
        refine aj.aload_n dX11_mostAlike_29 rfl ?_
        refine aj.iload_n dX11_mostAlike_30 rfl ?_
        refine aj.iload_n dX11_mostAlike_31 rfl ?_
        refine aj.iload dX11_mostAlike_32 rfl ?_
        refine aj.iload dX11_mostAlike_34 rfl ?_
        refine aj.callE1 (d' := 5) (As := [.int x_s, .int x_aim, .int x_lot, .int (nI i)]) (rest := [.ref a]) dX11_mostAlike_36 v_X11_440 li_X11_landingByWind ⟨_, hA.ob (i := 0) rfl (by decide)⟩ rfl rfl rfl (Nat.le_of_ble_eq_true rfl) (Nat.le_of_ble_eq_true rfl) (k_byWind s e_s aim e_aim lot e_lot i rfl hs4 hH hv1 hA) (fun M hM => ?_)
        obtain ⟨v1, v2, hA⟩ := hM
        refine aj.callE0 (d' := 1) (As := [.int (nI (mLand sl (B (13 + s)) (mN (B (21 + s))) i aim lot))]) (rest := []) dX11_mostAlike_39 v_X11_428 li_X11_addSpot ⟨_, hA.ob (i := 0) rfl (by decide)⟩ rfl rfl rfl (Nat.le_of_ble_eq_true rfl) (Nat.le_of_ble_eq_true rfl) (k_addSpot (mLand sl (B (13 + s)) (mN (B (21 + s))) i aim lot) rfl (by omega) hA) (fun M hM => ?_)
        have hA := hM
        refine aj.iincN (a := i) (c := 1) (lv' := [(5, .int (nI (i + 1))), (0, .ref a), (1, .int (zbits f 10)), (2, .int x_s), (3, .int x_aim), (4, .int x_lot)]) dX11_mostAlike_42 rfl (Nat.le_of_ble_eq_true rfl) rfl rfl rfl ?_
        refine aj.goto (tgt := 11) dX11_mostAlike_45 rfl ?_
        refine aj.pick [0, 1, 2, 3, 4, 5] rfl ?_
        refine ih (i + 1) _ M (by omega) (fun q q0 q1 q3 => by rw [va_up_ne _ _ q3, va_up_ne _ _ q1, va_up_ne _ _ q0]; exact hE q q0 q1 q3) (fun k hk => ?_) hA
        rw [va_up_self, ez]
        by_cases e : k = mLand sl (B (13 + s)) (mN (B (21 + s))) i aim lot
        · rw [← e, pk_us, if_pos ⟨hb1, rfl⟩]
          show V1 53 k + 1 = _
          rw [hC k hk]
          exact nI_add _ 1
        · rw [pk_un e, if_neg (fun z => e z.2.symm)]
          exact hC k hk
theorem k_alike {G : zG} {l : Launch} {a : Nat} {M0 M : zM} {V : Nat → Nat → Int32} {W : Nat → Nat → Int64} {R : Nat → Nat → Option Nat} {V0 : Nat → Nat → Int32} {T : Nat} {B : Nat → Int32} {sl ol : Option (List Nat)} {Tm : Nat} {f : Nat → Prop} [DecidablePred f] (s : Nat) {x_s : Int32} (e_s : x_s = nI s) (aim : Nat) {x_aim : Int32} (e_aim : x_aim = nI aim) (lot : Nat) {x_lot : Int32} (e_lot : x_lot = nI lot) (hs4 : s < 4) (hH : cH a M0 V0 R T B sl ol Tm) (hv : ∀ i, ¬ sc i → V i = V0 i) (hA : kA a M0 M V W R) : am G l kX11_mostAlike 6 [.ref a, .int (zbits f 10), .int x_s, .int x_aim, .int x_lot] M 0 0 (zr (.int (nI (mOft B sl f s aim lot 10))) (fun M' => ∃ V1, kA a M0 M' V1 W R ∧ spE V V1)) := by
  refine am.of (by decide) (Nat.le_of_ble_eq_true rfl) ?_
  refine aj.aload_n dX11_mostAlike_0 rfl ?_
  refine gX11_spots (i := 0) rfl hA w387 dX11_mostAlike_1 ?_
  refine aj.iconst (v := 0) dX11_mostAlike_4 rfl ?_
  refine aj.callS0 (d' := 0) (As := [.ref (a + 53), .int 0]) (rest := []) dX11_mostAlike_5 v_X11_423 w701 rfl rfl (Nat.le_of_ble_eq_true rfl) (Nat.le_of_ble_eq_true rfl) (k_fillI 0 rfl (by decide) hA) (fun M hM => ?_)
  have hA := hM
  refine aj.iconst (v := 0) dX11_mostAlike_8 rfl ?_
  refine aj.istore (lv' := [(5, .int 0), (0, .ref a), (1, .int (zbits f 10)), (2, .int x_s), (3, .int x_aim), (4, .int x_lot)]) dX11_mostAlike_9 (Nat.le_of_ble_eq_true rfl) rfl ?_
  refine aj.pick [0, 1, 2, 3, 4, 5] rfl ?_
  exact alike_lp s e_s aim e_aim lot e_lot hs4 hH hv 10 0 _ M (by omega) (fun q q0 q1 q3 => va_up_ne _ _ q3) (fun k hk => by rw [va_up_self]; rfl) hA
theorem mOft_le {B : Nat → Int32} {sl : Option (List Nat)} {f : Nat → Prop} [DecidablePred f] {s aim lot : Nat} : mOft B sl f s aim lot 10 ≤ 10 := nmx_le.mpr (fun k hk => zcnt_le _ 10)
theorem attempt_lp {G : zG} {l : Launch} {a : Nat} {M0 : zM} {V0 : Nat → Nat → Int32} {W0 : Nat → Nat → Int64} {R : Nat → Nat → Option Nat} {T : Nat} {B : Nat → Int32} {sl ol : Option (List Nat)} {Tm : Nat} {f : Nat → Prop} [DecidablePred f] (s : Nat) {x_s : Int32} (e_s : x_s = nI s) (aim : Nat) {x_aim : Int32} (e_aim : x_aim = nI aim) (hs4 : s < 4) (hH : cH a M0 V0 R T B sl ol Tm) : ∀ (n i g y : Nat) (M : zM), i + n = 9 → g = zmin (fun j => mOft B sl f s aim j 10) i → y = mOft B sl f s aim g 10 → kW a M0 M V0 W0 R → aj G l kX11_attempt 8 50 [(8, .int (nI (i + 1))), (6, .int (nI g)), (7, .int (nI y)), (5, .int (zbits f 10)), (0, .ref a), (2, .int x_s), (3, .int x_aim)] [] M 0 0 (zr (.int (nI (zmin (fun j => mOft B sl f s aim j 10) 9))) (fun M' => kW a M0 M' V0 W0 R)) := by
  intro n
  induction n with
  | zero =>
    intro i g y M hin hg hy hM
    obtain ⟨V, W, hA, hv, hw⟩ := hM
    have hgl := zmin_le (fun j => mOft B sl f s aim j 10) i
    have haly := mOft_le (B := B) (sl := sl) (f := f) (s := s) (aim := aim) (lot := g)
    refine aj.iload dX11_attempt_50 rfl ?_
    refine aj.bipush (v := 10) dX11_attempt_52 rfl ?_
    refine aj.icmp_geN (a := i + 1) (b := 10) (tgt := 90) dX11_attempt_54 rfl rfl (by omega) (by omega) rfl (fun c54 => ?_) (fun c54 => ?_)
    · refine aj.iload dX11_attempt_90 rfl ?_
      exact aj.iret rfl dX11_attempt_92 ⟨by rw [hg, show i = 9 by omega], _, _, hA, hv, hw⟩
    · exact absurd c54 (by omega)
  | succ n ih =>
    intro i g y M hin hg hy hM
    obtain ⟨V, W, hA, hv, hw⟩ := hM
    have hgl := zmin_le (fun j => mOft B sl f s aim j 10) i
    have haly := mOft_le (B := B) (sl := sl) (f := f) (s := s) (aim := aim) (lot := g)
    refine aj.iload dX11_attempt_50 rfl ?_
    refine aj.bipush (v := 10) dX11_attempt_52 rfl ?_
    refine aj.icmp_geN (a := i + 1) (b := 10) (tgt := 90) dX11_attempt_54 rfl rfl (by omega) (by omega) rfl (fun c54 => ?_) (fun c54 => ?_)
    · exact absurd c54 (by omega)
    · refine aj.aload_n dX11_attempt_57 rfl ?_
      refine aj.iload dX11_attempt_58 rfl ?_
      refine aj.iload_n dX11_attempt_60 rfl ?_
      refine aj.iload_n dX11_attempt_61 rfl ?_
      refine aj.iload dX11_attempt_62 rfl ?_
      refine aj.callE1 (d' := 6) (As := [.int (zbits f 10), .int x_s, .int x_aim, .int (nI (i + 1))]) (rest := []) dX11_attempt_64 v_X11_312 li_X11_mostAlike ⟨_, hA.ob (i := 0) rfl (by decide)⟩ rfl rfl rfl (Nat.le_of_ble_eq_true rfl) (Nat.le_of_ble_eq_true rfl) (k_alike (f := f) s e_s aim e_aim (i + 1) rfl (by omega) hH hv hA) (fun M hM => ?_)
      obtain ⟨V, hA, hE⟩ := hM
      have hv := sp_v hE hv
      have hof64 := mOft_le (B := B) (sl := sl) (f := f) (s := s) (aim := aim) (lot := i + 1)
      refine aj.istore (lv' := [(9, .int (nI (mOft B sl f s aim (i + 1) 10))), (8, .int (nI (i + 1))), (6, .int (nI g)), (7, .int (nI y)), (5, .int (zbits f 10)), (0, .ref a), (2, .int x_s), (3, .int x_aim)]) dX11_attempt_67 (Nat.le_of_ble_eq_true rfl) rfl ?_
      refine aj.iload dX11_attempt_69 rfl ?_
      refine aj.iload dX11_attempt_71 rfl ?_
      refine aj.icmp_geN (a := mOft B sl f s aim (i + 1) 10) (b := y) (tgt := 84) dX11_attempt_73 rfl rfl (by omega) (by omega) rfl (fun c73 => ?_) (fun c73 => ?_)
      · refine aj.iincN (a := i + 1) (c := 1) (lv' := [(8, .int (nI (i + 1 + 1))), (9, .int (nI (mOft B sl f s aim (i + 1) 10))), (6, .int (nI g)), (7, .int (nI y)), (5, .int (zbits f 10)), (0, .ref a), (2, .int x_s), (3, .int x_aim)]) dX11_attempt_84 rfl (Nat.le_of_ble_eq_true rfl) rfl rfl rfl ?_
        refine aj.goto (tgt := 50) dX11_attempt_87 rfl ?_
        refine aj.pick [0, 2, 3, 4, 5, 6, 7] rfl ?_
        exact ih (i + 1) g y M (by omega) (by rw [zmin_s, ← hg, if_neg (show ¬ mOft B sl f s aim (i + 1) 10 < mOft B sl f s aim g 10 by rw [← hy]; omega)]) hy ⟨_, _, hA, hv, hw⟩
      · refine aj.iload dX11_attempt_76 rfl ?_
        refine aj.istore (lv' := [(6, .int (nI (i + 1))), (9, .int (nI (mOft B sl f s aim (i + 1) 10))), (8, .int (nI (i + 1))), (7, .int (nI y)), (5, .int (zbits f 10)), (0, .ref a), (2, .int x_s), (3, .int x_aim)]) dX11_attempt_78 (Nat.le_of_ble_eq_true rfl) rfl ?_
        refine aj.iload dX11_attempt_80 rfl ?_
        refine aj.istore (lv' := [(7, .int (nI (mOft B sl f s aim (i + 1) 10))), (6, .int (nI (i + 1))), (9, .int (nI (mOft B sl f s aim (i + 1) 10))), (8, .int (nI (i + 1))), (5, .int (zbits f 10)), (0, .ref a), (2, .int x_s), (3, .int x_aim)]) dX11_attempt_82 (Nat.le_of_ble_eq_true rfl) rfl ?_
        refine aj.iincN (a := i + 1) (c := 1) (lv' := [(8, .int (nI (i + 1 + 1))), (7, .int (nI (mOft B sl f s aim (i + 1) 10))), (6, .int (nI (i + 1))), (9, .int (nI (mOft B sl f s aim (i + 1) 10))), (5, .int (zbits f 10)), (0, .ref a), (2, .int x_s), (3, .int x_aim)]) dX11_attempt_84 rfl (Nat.le_of_ble_eq_true rfl) rfl rfl rfl ?_
        refine aj.goto (tgt := 50) dX11_attempt_87 rfl ?_
        refine aj.pick [0, 2, 1, 4, 5, 6, 7] rfl ?_
        exact ih (i + 1) (i + 1) _ M (by omega) (by rw [zmin_s, ← hg, if_pos (show mOft B sl f s aim (i + 1) 10 < mOft B sl f s aim g 10 by rw [← hy]; omega)]) rfl ⟨_, _, hA, hv, hw⟩
theorem p_attempt {G : zG} {l : Launch} {a : Nat} {M0 M : zM} {V0 : Nat → Nat → Int32} {W0 : Nat → Nat → Int64} {R : Nat → Nat → Option Nat} {T : Nat} {B : Nat → Int32} {sl ol : Option (List Nat)} {Tm : Nat} (t : Int32) (s : Int32) (aim : Int32) (hM : kW a M0 M V0 W0 R) (hH : cH a M0 V0 R T B sl ol Tm) {A : Nat → Nat → Int32} {L : Nat → Nat → Int64} (hTr : trR V0 W0 A L) (hA1 : A 1 = B) : am G l kX11_attempt 8 [.ref a, .int t, .int s, .int aim] M 0 0 (zr (.int (if mStrC A L t s aim = 0 then (if zbits (fun wd => mBy B sl L (mN t) (mN s) (mN aim) wd (mN (A 33 (mN t)))) 10 = 0 then -1 else nI (zmin (fun j => mOft B sl (fun wd => mBy B sl L (mN t) (mN s) (mN aim) wd (mN (A 33 (mN t)))) (mN s) (mN aim) j 10) 9)) else mStrC A L t s aim)) (fun M' => kW a M0 M' V0 W0 R)) := by
  obtain ⟨V, W, hA, hv, hw⟩ := hM
  obtain ⟨hT, hb, hS, hB⟩ := id hH
  have hd0 := (dLaw_of hB).1
  have hd1 := (dLaw_of hB).2
  have h25 := hB.2.2.2.2.2.1
  have h26 := hB.2.2.2.2.2.2.1
  have h27 := hB.2.2.2.2.2.2.2.1
  have h6 := hB.2.2.1
  have hag := hB.2.2.2.2.1
  have hTm := hB.2.2.2.2.2.2.2.2.1
  have h25b := h25.2
  have h26b := h26.2
  have h27b := h27.2
  have h6b := h6.2
  refine am.of (by decide) (Nat.le_of_ble_eq_true rfl) ?_
  refine aj.aload_n dX11_attempt_0 rfl ?_
  refine aj.iload_n dX11_attempt_1 rfl ?_
  refine aj.iload_n dX11_attempt_2 rfl ?_
  refine aj.iload_n dX11_attempt_3 rfl ?_
  refine aj.callE1 (d' := 1) (As := [.int t, .int s, .int aim]) (rest := []) dX11_attempt_4 v_X11_306 li_X11_refusedStrayed ⟨_, hA.ob (i := 0) rfl (by decide)⟩ rfl rfl rfl (Nat.le_of_ble_eq_true rfl) (Nat.le_of_ble_eq_true rfl) (k_refusedStrayed t s aim hTr hw hA1 hH hv hA) (fun M hM => ?_)
  subst hM
  refine aj.istore (lv' := [(4, .int (mStrC A L t s aim)), (0, .ref a), (1, .int t), (2, .int s), (3, .int aim)]) dX11_attempt_7 (Nat.le_of_ble_eq_true rfl) rfl ?_
  refine aj.iload dX11_attempt_9 rfl ?_
  refine aj.if_eq (tgt := 17) dX11_attempt_11 rfl (fun c11 => ?_) (fun c11 => ?_)
  · obtain ⟨ct, cs, ca, hno, h18, hz0⟩ := mStrC_0 c11
    rw [hA1] at cs
    have h_t := inR_bd (n := 3) ct (by decide)
    have h2_t := h_t.2
    have h_s := inR_bdS cs (by omega)
    have h2_s := h_s.2
    have h_aim := inR_bd (n := 20) ca (by decide)
    have h2_aim := h_aim.2
    have hb8 := inR_bd1 (n := 8) h18 (by decide)
    refine aj.aload_n dX11_attempt_17 rfl ?_
    refine aj.iload_n dX11_attempt_18 rfl ?_
    refine aj.iload_n dX11_attempt_19 rfl ?_
    refine aj.iload_n dX11_attempt_20 rfl ?_
    refine aj.callE1 (d' := 7) (As := [.int t, .int s, .int aim]) (rest := []) dX11_attempt_21 v_X11_309 li_X11_strayedWinds ⟨_, hA.ob (i := 0) rfl (by decide)⟩ rfl rfl rfl (Nat.le_of_ble_eq_true rfl) (Nat.le_of_ble_eq_true rfl) (k_strW (mN t) h_t.1 (mN s) h_s.1 (mN aim) h_aim.1 (by omega) (by omega) hno hb8.1 hb8.2.1 (strOK_of hb8.2.1 hz0) hTr hw hH hv hA) (fun M hM => ?_)
    obtain ⟨V, hA, hE⟩ := hM
    have hv := e5_v hE hv
    refine aj.istore (lv' := [(5, .int (zbits (fun wd => mBy B sl L (mN t) (mN s) (mN aim) wd (mN (A 33 (mN t)))) 10)), (4, .int (mStrC A L t s aim)), (0, .ref a), (1, .int t), (2, .int s), (3, .int aim)]) dX11_attempt_24 (Nat.le_of_ble_eq_true rfl) rfl ?_
    refine aj.iload dX11_attempt_26 rfl ?_
    refine aj.if_ne (tgt := 33) dX11_attempt_28 rfl (fun c28 => ?_) (fun c28 => ?_)
    · refine aj.iconst (v := 0) dX11_attempt_33 rfl ?_
      refine aj.istore (lv' := [(6, .int 0), (5, .int (zbits (fun wd => mBy B sl L (mN t) (mN s) (mN aim) wd (mN (A 33 (mN t)))) 10)), (4, .int (mStrC A L t s aim)), (0, .ref a), (1, .int t), (2, .int s), (3, .int aim)]) dX11_attempt_34 (Nat.le_of_ble_eq_true rfl) rfl ?_
      refine aj.aload_n dX11_attempt_36 rfl ?_
      refine aj.iload dX11_attempt_37 rfl ?_
      refine aj.iload_n dX11_attempt_39 rfl ?_
      refine aj.iload_n dX11_attempt_40 rfl ?_
      refine aj.iconst (v := 0) dX11_attempt_41 rfl ?_
      refine aj.callE1 (d' := 6) (As := [.int (zbits (fun wd => mBy B sl L (mN t) (mN s) (mN aim) wd (mN (A 33 (mN t)))) 10), .int s, .int aim, .int 0]) (rest := []) dX11_attempt_42 v_X11_312 li_X11_mostAlike ⟨_, hA.ob (i := 0) rfl (by decide)⟩ rfl rfl rfl (Nat.le_of_ble_eq_true rfl) (Nat.le_of_ble_eq_true rfl) (k_alike (f := (fun wd => mBy B sl L (mN t) (mN s) (mN aim) wd (mN (A 33 (mN t))))) (mN s) h_s.1 (mN aim) h_aim.1 0 rfl (by omega) hH hv hA) (fun M hM => ?_)
      obtain ⟨V, hA, hE⟩ := hM
      have hv := sp_v hE hv
      have hof42 := mOft_le (B := B) (sl := sl) (f := (fun wd => mBy B sl L (mN t) (mN s) (mN aim) wd (mN (A 33 (mN t))))) (s := mN s) (aim := mN aim) (lot := 0)
      refine aj.istore (lv' := [(7, .int (nI (mOft B sl (fun wd => mBy B sl L (mN t) (mN s) (mN aim) wd (mN (A 33 (mN t)))) (mN s) (mN aim) 0 10))), (6, .int 0), (5, .int (zbits (fun wd => mBy B sl L (mN t) (mN s) (mN aim) wd (mN (A 33 (mN t)))) 10)), (4, .int (mStrC A L t s aim)), (0, .ref a), (1, .int t), (2, .int s), (3, .int aim)]) dX11_attempt_45 (Nat.le_of_ble_eq_true rfl) rfl ?_
      refine aj.iconst (v := 1) dX11_attempt_47 rfl ?_
      refine aj.istore (lv' := [(8, .int 1), (7, .int (nI (mOft B sl (fun wd => mBy B sl L (mN t) (mN s) (mN aim) wd (mN (A 33 (mN t)))) (mN s) (mN aim) 0 10))), (6, .int 0), (5, .int (zbits (fun wd => mBy B sl L (mN t) (mN s) (mN aim) wd (mN (A 33 (mN t)))) 10)), (4, .int (mStrC A L t s aim)), (0, .ref a), (1, .int t), (2, .int s), (3, .int aim)]) dX11_attempt_48 (Nat.le_of_ble_eq_true rfl) rfl ?_
      rw [if_pos c11, if_neg c28]
      refine aj.pick [0, 2, 1, 3, 5, 7, 8] rfl ?_
      exact attempt_lp (f := (fun wd => mBy B sl L (mN t) (mN s) (mN aim) wd (mN (A 33 (mN t))))) (mN s) h_s.1 (mN aim) h_aim.1 (by omega) hH 9 0 0 _ M (by omega) rfl rfl ⟨_, _, hA, hv, hw⟩
    · refine aj.iconst (v := (-1)) dX11_attempt_31 rfl ?_
      exact aj.iret rfl dX11_attempt_32 ⟨by rw [if_pos c11, if_pos c28], ⟨_, _, hA, hv, hw⟩⟩
  · refine aj.iload dX11_attempt_14 rfl ?_
    exact aj.iret rfl dX11_attempt_16 ⟨by rw [if_neg c11], ⟨_, _, hA, hv, hw⟩⟩
