theorem k_against {G : zG} {l : Launch} {a : Nat} {M0 M : zM} {V : Nat → Nat → Int32} {W : Nat → Nat → Int64} {R : Nat → Nat → Option Nat} {T : Nat} {B : Nat → Int32} {sl ol : Option (List Nat)} (h : Nat) {x_h : Int32} (e_h : x_h = nI h) (hh : h ≤ 20) (hT : R 0 0 = some T) (hb : bW a M0 T B sl ol) (hA : kA a M0 M V W R) : am G l kX11_eyeOpensAgainst 2 [.ref a, .ref (a + 71), .int x_h] M 0 0 (zr (.int (zb (tS V 71 (B 5) h ≤ tS V 71 0 h))) (fun M' => M' = M)) := by
  refine am.of (by decide) (Nat.le_of_ble_eq_true rfl) ?_
  refine aj.aload_n dX11_eyeOpensAgainst_0 rfl ?_
  refine aj.iload_n dX11_eyeOpensAgainst_1 rfl ?_
  refine aj.aload_n dX11_eyeOpensAgainst_2 rfl ?_
  refine gT hT hA w378 dX11_eyeOpensAgainst_3 ?_
  refine gB_cost (hA.bw hb) w217 dX11_eyeOpensAgainst_6 ?_
  refine aj.callE1 (d' := 1) (As := [.int x_h, .int (B 5)]) (rest := []) dX11_eyeOpensAgainst_9 v_X11_230 li_X8_sum ⟨_, hA.ob (i := 71) rfl (by decide)⟩ rfl rfl rfl (Nat.le_of_ble_eq_true rfl) (Nat.le_of_ble_eq_true rfl) (k_sum (o := 71) ⟨rfl, rfl, rfl, rfl⟩ h e_h (B 5) (by omega) hA) (fun M hM => ?_)
  subst hM
  refine aj.aload_n dX11_eyeOpensAgainst_12 rfl ?_
  refine aj.iload_n dX11_eyeOpensAgainst_13 rfl ?_
  refine aj.iconst (v := 0) dX11_eyeOpensAgainst_14 rfl ?_
  refine aj.callE1 (d' := 1) (As := [.int x_h, .int 0]) (rest := [.int (V 74 h - (B 5) * V 73 h)]) dX11_eyeOpensAgainst_15 v_X11_230 li_X8_sum ⟨_, hA.ob (i := 71) rfl (by decide)⟩ rfl rfl rfl (Nat.le_of_ble_eq_true rfl) (Nat.le_of_ble_eq_true rfl) (k_sum (o := 71) ⟨rfl, rfl, rfl, rfl⟩ h e_h 0 (by omega) hA) (fun M hM => ?_)
  subst hM
  refine aj.icmp_gt (tgt := 25) dX11_eyeOpensAgainst_18 rfl (fun c18 => ?_) (fun c18 => ?_)
  · refine aj.iconst (v := 0) dX11_eyeOpensAgainst_25 rfl ?_
    exact aj.zret (ty := .boolean) rfl rfl dX11_eyeOpensAgainst_26 ⟨by rw [zb_f (show ¬ tS V 71 (B 5) h ≤ tS V 71 0 h from Int32.not_le.mpr c18)], rfl⟩
  · refine aj.iconst (v := 1) dX11_eyeOpensAgainst_21 rfl ?_
    refine aj.goto (tgt := 26) dX11_eyeOpensAgainst_22 rfl ?_
    exact aj.zret (ty := .boolean) rfl rfl dX11_eyeOpensAgainst_26 ⟨by rw [zb_t (show tS V 71 (B 5) h ≤ tS V 71 0 h from Int32.not_lt.mp c18)], rfl⟩
/-- the aim that follows, by a table -/
def tH (V : Nat → Nat → Int32) (B : Nat → Int32) (h : Nat) : Nat := if tS V 71 (B 5) h ≤ tS V 71 0 h then zmax (tS V 71 (B 5)) 20 else zmax (tS V 71 0) 20
theorem tH_le {V : Nat → Nat → Int32} {B : Nat → Int32} {h : Nat} : tH V B h ≤ 20 := by
  unfold tH
  split
  · exact zmax_le _ _
  · exact zmax_le _ _
theorem tH_of {V : Nat → Nat → Int32} {B : Nat → Int32} {sl : Option (List Nat)} {s h : Nat} (hF : tbF B sl (B (13 + s)) (mN (B (21 + s))) (mN (B 26)) V 71) (hh : h ≤ 20) : tH V B h = mHand B sl s h := by
  unfold tH mHand
  rw [tb_mSumT hF hh, tb_mSumF hF hh, tb_mBestT hF, tb_mBestF hF]
theorem iter_congr {f g : Nat → Nat} {x : Nat} (h : ∀ a, a ≤ 20 → f a = g a) (hf : ∀ a, f a ≤ 20) (hx : x ≤ 20) : ∀ k, ziter f k x = ziter g k x ∧ ziter f k x ≤ 20
  | 0 => ⟨rfl, hx⟩
  | k + 1 => by
    have ih := iter_congr h hf hx k
    rw [ziter_s, ziter_s, ← ih.1]
    exact ⟨h _ ih.2, hf _⟩
theorem tH_iter {V : Nat → Nat → Int32} {B : Nat → Int32} {sl : Option (List Nat)} {s x : Nat} (hF : tbF B sl (B (13 + s)) (mN (B (21 + s))) (mN (B 26)) V 71) (hx : x ≤ 20) : ∀ k, ziter (tH V B) k x = ziter (fun a => mHand B sl s a) k x ∧ ziter (tH V B) k x ≤ 20 := iter_congr (fun a ha => tH_of hF ha) (fun a => tH_le) hx
theorem k_nextHand {G : zG} {l : Launch} {a : Nat} {M0 M : zM} {V : Nat → Nat → Int32} {W : Nat → Nat → Int64} {R : Nat → Nat → Option Nat} {T : Nat} {B : Nat → Int32} {sl ol : Option (List Nat)} (h : Nat) {x_h : Int32} (e_h : x_h = nI h) (hh : h ≤ 20) (hT : R 0 0 = some T) (hb : bW a M0 T B sl ol) (hA : kA a M0 M V W R) : am G l kX11_nextHand 3 [.ref a, .ref (a + 71), .int x_h] M 0 0 (zr (.int (nI (tH V B h))) (fun M' => M' = M)) := by
  refine am.of (by decide) (Nat.le_of_ble_eq_true rfl) ?_
  refine aj.aload_n dX11_nextHand_0 rfl ?_
  refine aj.aload_n dX11_nextHand_1 rfl ?_
  refine aj.aload_n dX11_nextHand_2 rfl ?_
  refine aj.iload_n dX11_nextHand_3 rfl ?_
  refine aj.callE1 (d' := 2) (As := [.ref (a + 71), .int x_h]) (rest := [.ref (a + 71)]) dX11_nextHand_4 v_X11_332 li_X11_eyeOpensAgainst ⟨_, hA.ob (i := 0) rfl (by decide)⟩ rfl rfl rfl (Nat.le_of_ble_eq_true rfl) (Nat.le_of_ble_eq_true rfl) (k_against h e_h (by omega) hT hb hA) (fun M hM => ?_)
  subst hM
  refine aj.if_eqB (tgt := 20) dX11_nextHand_7 rfl (fun c7 => ?_) (fun c7 => ?_)
  · refine aj.iconst (v := 0) dX11_nextHand_20 rfl ?_
    refine aj.callE1 (d' := 2) (As := [.int 0]) (rest := []) dX11_nextHand_21 v_X11_240 li_X8_best ⟨_, hA.ob (i := 71) rfl (by decide)⟩ rfl rfl rfl (Nat.le_of_ble_eq_true rfl) (Nat.le_of_ble_eq_true rfl) (k_best (o := 71) ⟨rfl, rfl, rfl, rfl⟩ 0 hA) (fun M hM => ?_)
    subst hM
    have hz21 := zmax_le (tS V 71 0) 20
    exact aj.iret rfl dX11_nextHand_24 ⟨by unfold tH; rw [if_neg c7], rfl⟩
  · refine aj.aload_n dX11_nextHand_10 rfl ?_
    refine gT hT hA w378 dX11_nextHand_11 ?_
    refine gB_cost (hA.bw hb) w217 dX11_nextHand_14 ?_
    refine aj.goto (tgt := 21) dX11_nextHand_17 rfl ?_
    refine aj.callE1 (d' := 2) (As := [.int (B 5)]) (rest := []) dX11_nextHand_21 v_X11_240 li_X8_best ⟨_, hA.ob (i := 71) rfl (by decide)⟩ rfl rfl rfl (Nat.le_of_ble_eq_true rfl) (Nat.le_of_ble_eq_true rfl) (k_best (o := 71) ⟨rfl, rfl, rfl, rfl⟩ (B 5) hA) (fun M hM => ?_)
    subst hM
    have hz21 := zmax_le (tS V 71 (B 5)) 20
    exact aj.iret rfl dX11_nextHand_24 ⟨by unfold tH; rw [if_pos c7], rfl⟩
theorem rests_lp {G : zG} {l : Launch} {a : Nat} {M0 M : zM} {V : Nat → Nat → Int32} {W : Nat → Nat → Int64} {R : Nat → Nat → Option Nat} {T : Nat} {B : Nat → Int32} {sl ol : Option (List Nat)} {x0 : Nat} {xs xa : Int32} (hx0 : x0 ≤ 20) (hT : R 0 0 = some T) (hb : bW a M0 T B sl ol) (hA : kA a M0 M V W R) : ∀ (n i h : Nat) (x_h : Int32), x_h = nI h → i + n = 21 → h = ziter (tH V B) i x0 → h ≤ 20 → aj G l kX11_rests 6 31 [(5, .int (nI i)), (4, .int x_h), (3, .ref (a + 71)), (0, .ref a), (1, .int xs), (2, .int xa)] [] M 0 0 (zr (.int (zb (tH V B (ziter (tH V B) 21 x0) = ziter (tH V B) 21 x0))) (fun M' => M' = M)) := by
  intro n
  induction n with
  | zero =>
    intro i h x_h e_h hin hh hl
    rw [show i = 21 by omega] at hh
    refine aj.iload dX11_rests_31 rfl ?_
    refine aj.bipush (v := 21) dX11_rests_33 rfl ?_
    refine aj.icmp_geN (a := i) (b := 21) (tgt := 53) dX11_rests_35 rfl rfl (by omega) (by omega) rfl (fun c35 => ?_) (fun c35 => ?_)
    · refine aj.aload_n dX11_rests_53 rfl ?_
      refine aj.aload_n dX11_rests_54 rfl ?_
      refine aj.iload dX11_rests_55 rfl ?_
      refine aj.callE1 (d' := 3) (As := [.ref (a + 71), .int x_h]) (rest := []) dX11_rests_57 v_X11_328 li_X11_nextHand ⟨_, hA.ob (i := 0) rfl (by decide)⟩ rfl rfl rfl (Nat.le_of_ble_eq_true rfl) (Nat.le_of_ble_eq_true rfl) (k_nextHand h e_h (by omega) hT hb hA) (fun M hM => ?_)
      subst hM
      have hth57 := tH_le (V := V) (B := B) (h := h)
      refine aj.iload dX11_rests_60 rfl ?_
      refine aj.icmp_neN (a := tH V B h) (b := h) (tgt := 69) dX11_rests_62 rfl e_h (by omega) (by omega) rfl (fun c62 => ?_) (fun c62 => ?_)
      · refine aj.iconst (v := 0) dX11_rests_69 rfl ?_
        exact aj.iret rfl dX11_rests_70 ⟨by rw [← hh, zb_f c62], rfl⟩
      · refine aj.iconst (v := 1) dX11_rests_65 rfl ?_
        refine aj.goto (tgt := 70) dX11_rests_66 rfl ?_
        exact aj.iret rfl dX11_rests_70 ⟨by rw [← hh, zb_t c62], rfl⟩
    · exact absurd c35 (by omega)
  | succ n ih =>
    intro i h x_h e_h hin hh hl
    refine aj.iload dX11_rests_31 rfl ?_
    refine aj.bipush (v := 21) dX11_rests_33 rfl ?_
    refine aj.icmp_geN (a := i) (b := 21) (tgt := 53) dX11_rests_35 rfl rfl (by omega) (by omega) rfl (fun c35 => ?_) (fun c35 => ?_)
    · exact absurd c35 (by omega)
    · refine aj.aload_n dX11_rests_38 rfl ?_
      refine aj.aload_n dX11_rests_39 rfl ?_
      refine aj.iload dX11_rests_40 rfl ?_
      refine aj.callE1 (d' := 3) (As := [.ref (a + 71), .int x_h]) (rest := []) dX11_rests_42 v_X11_328 li_X11_nextHand ⟨_, hA.ob (i := 0) rfl (by decide)⟩ rfl rfl rfl (Nat.le_of_ble_eq_true rfl) (Nat.le_of_ble_eq_true rfl) (k_nextHand h e_h (by omega) hT hb hA) (fun M hM => ?_)
      subst hM
      have hth42 := tH_le (V := V) (B := B) (h := h)
      refine aj.istore (lv' := [(4, .int (nI (tH V B h))), (5, .int (nI i)), (3, .ref (a + 71)), (0, .ref a), (1, .int xs), (2, .int xa)]) dX11_rests_45 (Nat.le_of_ble_eq_true rfl) rfl ?_
      refine aj.iincN (a := i) (c := 1) (lv' := [(5, .int (nI (i + 1))), (4, .int (nI (tH V B h))), (3, .ref (a + 71)), (0, .ref a), (1, .int xs), (2, .int xa)]) dX11_rests_47 rfl (Nat.le_of_ble_eq_true rfl) rfl rfl rfl ?_
      refine aj.goto (tgt := 31) dX11_rests_50 rfl ?_
      refine aj.pick [0, 1, 2, 3, 4, 5] rfl ?_
      exact ih (i + 1) _ _ rfl (by omega) (by rw [hh, ziter_s]) (by omega)
theorem p_rests {G : zG} {l : Launch} {a : Nat} {M0 M : zM} {V0 : Nat → Nat → Int32} {W0 : Nat → Nat → Int64} {R : Nat → Nat → Option Nat} {T : Nat} {B : Nat → Int32} {sl ol : Option (List Nat)} {Tm : Nat} (s : Int32) (aim : Int32) (hM : kW a M0 M V0 W0 R) (hH : cH a M0 V0 R T B sl ol Tm)  : am G l kX11_rests 6 [.ref a, .int s, .int aim] M 0 0 (zr (.int (if inR s 0 ((mN (B 6) : Int) - 1) ∧ inR aim 0 20 then zb (mHand B sl (mN s) (ziter (mHand B sl (mN s)) 21 (mN aim)) = ziter (mHand B sl (mN s)) 21 (mN aim)) else -2)) (fun M' => kW a M0 M' V0 W0 R)) := by
  obtain ⟨V, W, hA, hv, hw⟩ := hM
  obtain ⟨hT, hb, hS, hB⟩ := id hH
  have hd0 := (dLaw_of hB).1
  have hd1 := (dLaw_of hB).2
  have h25 := hB.2.2.2.2.2.1
  have h26 := hB.2.2.2.2.2.2.1
  have h27 := hB.2.2.2.2.2.2.2.1
  have h6 := hB.2.2.1
  have hag := hB.2.2.2.2.1
  have hTm := hB.2.2.2.2.2.2.2.2.1
  have h25b := h25.2
  have h26b := h26.2
  have h27b := h27.2
  have h6b := h6.2
  refine am.of (by decide) (Nat.le_of_ble_eq_true rfl) ?_
  refine aj.aload_n dX11_rests_0 rfl ?_
  refine aj.iload_n dX11_rests_1 rfl ?_
  refine aj.callE1 (d' := 0) (As := [.int s]) (rest := []) dX11_rests_2 v_X11_124 li_X11_isShooter ⟨_, hA.ob (i := 0) rfl (by decide)⟩ rfl rfl rfl (Nat.le_of_ble_eq_true rfl) (Nat.le_of_ble_eq_true rfl) (k_isShooter s hH hA) (fun M hM => ?_)
  subst hM
  refine aj.if_eqB (tgt := 16) dX11_rests_5 rfl (fun c5 => ?_) (fun c5 => ?_)
  · refine aj.bipush (v := (-2)) dX11_rests_16 rfl ?_
    exact aj.iret rfl dX11_rests_18 ⟨by rw [if_neg (fun z => c5 z.1)], ⟨_, _, hA, hv, hw⟩⟩
  · have h_s := inR_bdS c5 (by omega)
    have h2_s := h_s.2
    refine aj.iload_n dX11_rests_8 rfl ?_
    refine aj.i2l dX11_rests_9 ?_
    refine aj.callS1 (d' := 0) (As := [.long (Int32.toInt64 aim)]) (rest := []) dX11_rests_10 v_X11_150 w748 rfl rfl (Nat.le_of_ble_eq_true rfl) (Nat.le_of_ble_eq_true rfl) (k_isPlaceI _ aim) (fun M hM => ?_)
    subst hM
    refine aj.if_neB (tgt := 19) dX11_rests_13 rfl (fun c13 => ?_) (fun c13 => ?_)
    · have h_aim := inR_bd (n := 20) c13 (by decide)
      have h2_aim := h_aim.2
      refine aj.aload_n dX11_rests_19 rfl ?_
      refine aj.iload_n dX11_rests_20 rfl ?_
      refine aj.callE1 (d' := 5) (As := [.int s]) (rest := []) dX11_rests_21 v_X11_220 li_X11_tableNow ⟨_, hA.ob (i := 0) rfl (by decide)⟩ rfl rfl rfl (Nat.le_of_ble_eq_true rfl) (Nat.le_of_ble_eq_true rfl) (k_tableNow (mN s) h_s.1 (by omega) hH hv hA) (fun M hM => ?_)
      obtain ⟨V, hA, hE, hF⟩ := hM
      have hv := k_tbv hE (by decide) hv
      refine aj.astore_n (lv' := [(3, .ref (a + 71)), (0, .ref a), (1, .int s), (2, .int aim)]) dX11_rests_24 (Nat.le_of_ble_eq_true rfl) rfl ?_
      refine aj.iload_n dX11_rests_25 rfl ?_
      refine aj.istore (lv' := [(4, .int aim), (3, .ref (a + 71)), (0, .ref a), (1, .int s), (2, .int aim)]) dX11_rests_26 (Nat.le_of_ble_eq_true rfl) rfl ?_
      refine aj.iconst (v := 0) dX11_rests_28 rfl ?_
      refine aj.istore (lv' := [(5, .int 0), (4, .int aim), (3, .ref (a + 71)), (0, .ref a), (1, .int s), (2, .int aim)]) dX11_rests_29 (Nat.le_of_ble_eq_true rfl) rfl ?_
      refine aj.pick [0, 1, 2, 3, 4, 5] rfl ?_
      refine aj.mono (rests_lp (x0 := mN aim) h2_aim hT hb hA 21 0 (mN aim) aim h_aim.1 (by omega) rfl h2_aim) (fun r M' hq => ⟨hq.1.trans (by rw [if_pos (⟨c5, c13⟩ : _ ∧ _)]; have hi := tH_iter (s := mN s) hF h2_aim 21; rw [tH_of (s := mN s) hF hi.2, hi.1]), ?_⟩)
      rw [hq.2]
      exact ⟨_, _, hA, hv, hw⟩
    · refine aj.bipush (v := (-2)) dX11_rests_16 rfl ?_
      exact aj.iret rfl dX11_rests_18 ⟨by rw [if_neg (fun z => c13 z.2)], ⟨_, _, hA, hv, hw⟩⟩
theorem expects_end {G : zG} {l : Launch} {a : Nat} {M0 M : zM} {V : Nat → Nat → Int32} {W : Nat → Nat → Int64} {R : Nat → Nat → Option Nat} {T : Nat} {B : Nat → Int32} {sl ol : Option (List Nat)} {x0 : Nat} {xs xa : Int32} (h : Nat) {x_h : Int32} (e_h : x_h = nI h) (d : Nat) {x_d : Int32} (e_d : x_d = nI d) (hd : d ≤ 999) (hT : R 0 0 = some T) (hb : bW a M0 T B sl ol) (hA : kA a M0 M V W R) (hh : ziter (tH V B) (d / 2) x0 = h) (hl : h ≤ 20) : aj G l kX11_expects 6 94 [(5, .int x_h), (4, .ref (a + 71)), (0, .ref a), (1, .int xs), (2, .int xa), (3, .int x_d)] [] M 0 0 (zr (.int (if d % 2 = 0 then nI (ziter (tH V B) (d / 2) x0) else zb (tS V 71 (B 5) (ziter (tH V B) (d / 2) x0) ≤ tS V 71 0 (ziter (tH V B) (d / 2) x0)))) (fun M' => M' = M)) := by
  refine aj.iload_n dX11_expects_94 rfl ?_
  refine aj.iconst (v := 1) dX11_expects_95 rfl ?_
  refine aj.iand dX11_expects_96 ?_
  refine aj.if_neN (a := d % 2) (tgt := 103) dX11_expects_97 (by rw [e_d]; exact z_and1 (by omega)) (by omega) rfl (fun c97 => ?_) (fun c97 => ?_)
  · have hd2 : ¬ d % 2 = 0 := c97
    refine aj.aload_n dX11_expects_103 rfl ?_
    refine aj.aload dX11_expects_104 rfl ?_
    refine aj.iload dX11_expects_106 rfl ?_
    refine aj.callE1 (d' := 2) (As := [.ref (a + 71), .int x_h]) (rest := []) dX11_expects_108 v_X11_332 li_X11_eyeOpensAgainst ⟨_, hA.ob (i := 0) rfl (by decide)⟩ rfl rfl rfl (Nat.le_of_ble_eq_true rfl) (Nat.le_of_ble_eq_true rfl) (k_against h e_h (by omega) hT hb hA) (fun M hM => ?_)
    subst hM
    refine aj.if_eqB (tgt := 118) dX11_expects_111 rfl (fun c111 => ?_) (fun c111 => ?_)
    · refine aj.iconst (v := 0) dX11_expects_118 rfl ?_
      exact aj.iret rfl dX11_expects_119 ⟨by rw [if_neg hd2, hh, zb_f c111], rfl⟩
    · refine aj.iconst (v := 1) dX11_expects_114 rfl ?_
      refine aj.goto (tgt := 119) dX11_expects_115 rfl ?_
      exact aj.iret rfl dX11_expects_119 ⟨by rw [if_neg hd2, hh, zb_t c111], rfl⟩
  · have hd2 : d % 2 = 0 := c97
    refine aj.iload dX11_expects_100 rfl ?_
    exact aj.iret rfl dX11_expects_102 ⟨by rw [if_pos hd2, hh, e_h], rfl⟩
theorem expects_lp {G : zG} {l : Launch} {a : Nat} {M0 M : zM} {V : Nat → Nat → Int32} {W : Nat → Nat → Int64} {R : Nat → Nat → Option Nat} {T : Nat} {B : Nat → Int32} {sl ol : Option (List Nat)} {x0 : Nat} {xs xa : Int32} (d : Nat) {x_d : Int32} (e_d : x_d = nI d) (hd : d ≤ 999) (hT : R 0 0 = some T) (hb : bW a M0 T B sl ol) (hA : kA a M0 M V W R) : ∀ (n k h : Nat) (x_h : Int32) (rs : Prop) [Decidable rs], x_h = nI h → k + n = d / 2 → h = ziter (tH V B) k x0 → h ≤ 20 → (rs → tH V B h = h) → aj G l kX11_expects 6 49 [(7, .int (nI (2 * k + 2))), (6, .int (zb (rs))), (5, .int x_h), (4, .ref (a + 71)), (0, .ref a), (1, .int xs), (2, .int xa), (3, .int x_d)] [] M 0 0 (zr (.int (if d % 2 = 0 then nI (ziter (tH V B) (d / 2) x0) else zb (tS V 71 (B 5) (ziter (tH V B) (d / 2) x0) ≤ tS V 71 0 (ziter (tH V B) (d / 2) x0)))) (fun M' => M' = M)) := by
  intro n
  induction n with
  | zero =>
    intro k h x_h rs _ e_h hin hh hl hr
    refine aj.iload dX11_expects_49 rfl ?_
    refine aj.iload_n dX11_expects_51 rfl ?_
    refine aj.icmp_gtN (a := 2 * k + 2) (b := d) (tgt := 94) dX11_expects_52 rfl e_d (by omega) (by omega) rfl (fun c52 => ?_) (fun c52 => ?_)
    · refine aj.pick [2, 3, 4, 5, 6, 7] rfl ?_
      exact expects_end h e_h d e_d hd hT hb hA (by rw [hh, show k = d / 2 by omega]) hl
    · exact absurd c52 (by omega)
  | succ n ih =>
    intro k h x_h rs _ e_h hin hh hl hr
    refine aj.iload dX11_expects_49 rfl ?_
    refine aj.iload_n dX11_expects_51 rfl ?_
    refine aj.icmp_gtN (a := 2 * k + 2) (b := d) (tgt := 94) dX11_expects_52 rfl e_d (by omega) (by omega) rfl (fun c52 => ?_) (fun c52 => ?_)
    · exact absurd c52 (by omega)
    · refine aj.iload dX11_expects_55 rfl ?_
      refine aj.if_neB (tgt := 94) dX11_expects_57 rfl (fun c57 => ?_) (fun c57 => ?_)
      · refine aj.pick [2, 3, 4, 5, 6, 7] rfl ?_
        exact expects_end h e_h d e_d hd hT hb hA (by rw [hh, ← hin]; exact z_fix (by rw [← hh]; exact hr c57) (n + 1)) hl
      · refine aj.aload_n dX11_expects_60 rfl ?_
        refine aj.aload dX11_expects_61 rfl ?_
        refine aj.iload dX11_expects_63 rfl ?_
        refine aj.callE1 (d' := 3) (As := [.ref (a + 71), .int x_h]) (rest := []) dX11_expects_65 v_X11_328 li_X11_nextHand ⟨_, hA.ob (i := 0) rfl (by decide)⟩ rfl rfl rfl (Nat.le_of_ble_eq_true rfl) (Nat.le_of_ble_eq_true rfl) (k_nextHand h e_h (by omega) hT hb hA) (fun M hM => ?_)
        subst hM
        have hth65 := tH_le (V := V) (B := B) (h := h)
        refine aj.istore (lv' := [(8, .int (nI (tH V B h))), (7, .int (nI (2 * k + 2))), (6, .int (zb (rs))), (5, .int x_h), (4, .ref (a + 71)), (0, .ref a), (1, .int xs), (2, .int xa), (3, .int x_d)]) dX11_expects_68 (Nat.le_of_ble_eq_true rfl) rfl ?_
        refine aj.iload dX11_expects_70 rfl ?_
        refine aj.iload dX11_expects_72 rfl ?_
        refine aj.icmp_neN (a := tH V B h) (b := h) (tgt := 81) dX11_expects_74 rfl e_h (by omega) (by omega) rfl (fun c74 => ?_) (fun c74 => ?_)
        · refine aj.iconst (v := 0) dX11_expects_81 rfl ?_
          refine aj.istore (lv' := [(6, .int 0), (8, .int (nI (tH V B h))), (7, .int (nI (2 * k + 2))), (5, .int x_h), (4, .ref (a + 71)), (0, .ref a), (1, .int xs), (2, .int xa), (3, .int x_d)]) dX11_expects_82 (Nat.le_of_ble_eq_true rfl) rfl ?_
          refine aj.iload dX11_expects_84 rfl ?_
          refine aj.istore (lv' := [(5, .int (nI (tH V B h))), (6, .int 0), (8, .int (nI (tH V B h))), (7, .int (nI (2 * k + 2))), (4, .ref (a + 71)), (0, .ref a), (1, .int xs), (2, .int xa), (3, .int x_d)]) dX11_expects_86 (Nat.le_of_ble_eq_true rfl) rfl ?_
          refine aj.iincN (a := 2 * k + 2) (c := 2) (lv' := [(7, .int (nI (2 * k + 2 + 2))), (5, .int (nI (tH V B h))), (6, .int 0), (8, .int (nI (tH V B h))), (4, .ref (a + 71)), (0, .ref a), (1, .int xs), (2, .int xa), (3, .int x_d)]) dX11_expects_88 rfl (Nat.le_of_ble_eq_true rfl) rfl rfl rfl ?_
          refine aj.goto (tgt := 49) dX11_expects_91 rfl ?_
          refine aj.pick [0, 2, 1, 4, 5, 6, 7, 8] rfl ?_
          have key := ih (k + 1) (tH V B h) _ (tH V B h = h) rfl (by omega) (by rw [hh, ziter_s]) (by omega) (fun z => by rw [z]; exact z)
          rw [show zb (tH V B h = h) = 0 from zb_f c74] at key
          exact key
        · refine aj.iconst (v := 1) dX11_expects_77 rfl ?_
          refine aj.goto (tgt := 82) dX11_expects_78 rfl ?_
          refine aj.istore (lv' := [(6, .int 1), (8, .int (nI (tH V B h))), (7, .int (nI (2 * k + 2))), (5, .int x_h), (4, .ref (a + 71)), (0, .ref a), (1, .int xs), (2, .int xa), (3, .int x_d)]) dX11_expects_82 (Nat.le_of_ble_eq_true rfl) rfl ?_
          refine aj.iload dX11_expects_84 rfl ?_
          refine aj.istore (lv' := [(5, .int (nI (tH V B h))), (6, .int 1), (8, .int (nI (tH V B h))), (7, .int (nI (2 * k + 2))), (4, .ref (a + 71)), (0, .ref a), (1, .int xs), (2, .int xa), (3, .int x_d)]) dX11_expects_86 (Nat.le_of_ble_eq_true rfl) rfl ?_
          refine aj.iincN (a := 2 * k + 2) (c := 2) (lv' := [(7, .int (nI (2 * k + 2 + 2))), (5, .int (nI (tH V B h))), (6, .int 1), (8, .int (nI (tH V B h))), (4, .ref (a + 71)), (0, .ref a), (1, .int xs), (2, .int xa), (3, .int x_d)]) dX11_expects_88 rfl (Nat.le_of_ble_eq_true rfl) rfl rfl rfl ?_
          refine aj.goto (tgt := 49) dX11_expects_91 rfl ?_
          refine aj.pick [0, 2, 1, 4, 5, 6, 7, 8] rfl ?_
          have key := ih (k + 1) (tH V B h) _ (tH V B h = h) rfl (by omega) (by rw [hh, ziter_s]) (by omega) (fun z => by rw [z]; exact z)
          rw [show zb (tH V B h = h) = 1 from zb_t c74] at key
          exact key
theorem p_expects {G : zG} {l : Launch} {a : Nat} {M0 M : zM} {V0 : Nat → Nat → Int32} {W0 : Nat → Nat → Int64} {R : Nat → Nat → Option Nat} {T : Nat} {B : Nat → Int32} {sl ol : Option (List Nat)} {Tm : Nat} (s : Int32) (aim : Int32) (q : Int32) (hM : kW a M0 M V0 W0 R) (hH : cH a M0 V0 R T B sl ol Tm)  : am G l kX11_expects 6 [.ref a, .int s, .int aim, .int q] M 0 0 (zr (.int (if inR s 0 ((mN (B 6) : Int) - 1) ∧ inR aim 0 20 then (if inR q 0 999 then (if mN q % 2 = 0 then nI (ziter (mHand B sl (mN s)) (mN q / 2) (mN aim)) else zb (mSum B sl (mN s) (mN (B (21 + mN s))) True (ziter (mHand B sl (mN s)) (mN q / 2) (mN aim)) 10 ≤ mSum B sl (mN s) (mN (B (21 + mN s))) False (ziter (mHand B sl (mN s)) (mN q / 2) (mN aim)) 10)) else -3) else -2)) (fun M' => kW a M0 M' V0 W0 R)) := by
  obtain ⟨V, W, hA, hv, hw⟩ := hM
  obtain ⟨hT, hb, hS, hB⟩ := id hH
  have hd0 := (dLaw_of hB).1
  have hd1 := (dLaw_of hB).2
  have h25 := hB.2.2.2.2.2.1
  have h26 := hB.2.2.2.2.2.2.1
  have h27 := hB.2.2.2.2.2.2.2.1
  have h6 := hB.2.2.1
  have hag := hB.2.2.2.2.1
  have hTm := hB.2.2.2.2.2.2.2.2.1
  have h25b := h25.2
  have h26b := h26.2
  have h27b := h27.2
  have h6b := h6.2
  refine am.of (by decide) (Nat.le_of_ble_eq_true rfl) ?_
  refine aj.aload_n dX11_expects_0 rfl ?_
  refine aj.iload_n dX11_expects_1 rfl ?_
  refine aj.callE1 (d' := 0) (As := [.int s]) (rest := []) dX11_expects_2 v_X11_124 li_X11_isShooter ⟨_, hA.ob (i := 0) rfl (by decide)⟩ rfl rfl rfl (Nat.le_of_ble_eq_true rfl) (Nat.le_of_ble_eq_true rfl) (k_isShooter s hH hA) (fun M hM => ?_)
  subst hM
  refine aj.if_eqB (tgt := 16) dX11_expects_5 rfl (fun c5 => ?_) (fun c5 => ?_)
  · refine aj.bipush (v := (-2)) dX11_expects_16 rfl ?_
    exact aj.iret rfl dX11_expects_18 ⟨by rw [if_neg (fun z => c5 z.1)], ⟨_, _, hA, hv, hw⟩⟩
  · have h_s := inR_bdS c5 (by omega)
    have h2_s := h_s.2
    refine aj.iload_n dX11_expects_8 rfl ?_
    refine aj.i2l dX11_expects_9 ?_
    refine aj.callS1 (d' := 0) (As := [.long (Int32.toInt64 aim)]) (rest := []) dX11_expects_10 v_X11_150 w748 rfl rfl (Nat.le_of_ble_eq_true rfl) (Nat.le_of_ble_eq_true rfl) (k_isPlaceI _ aim) (fun M hM => ?_)
    subst hM
    refine aj.if_neB (tgt := 19) dX11_expects_13 rfl (fun c13 => ?_) (fun c13 => ?_)
    · have h_aim := inR_bd (n := 20) c13 (by decide)
      have h2_aim := h_aim.2
      refine aj.iload_n dX11_expects_19 rfl ?_
      refine aj.if_lt (tgt := 30) dX11_expects_20 rfl (fun c20 => ?_) (fun c20 => ?_)
      · refine aj.bipush (v := (-3)) dX11_expects_30 rfl ?_
        exact aj.iret rfl dX11_expects_32 ⟨by rw [if_pos (⟨c5, c13⟩ : _ ∧ _), if_neg (by unfold inR; simp only [Int32.lt_iff_toInt_lt, Int32.le_iff_toInt_le] at *; have e0 : (0 : Int32).toInt = 0 := rfl; have e100 : (100 : Int32).toInt = 100 := rfl; have e999 : (999 : Int32).toInt = 999 := rfl; have e99 : (99 : Int32).toInt = 99 := rfl; omega)], ⟨_, _, hA, hv, hw⟩⟩
      · refine aj.iload_n dX11_expects_23 rfl ?_
        refine aj.sipush (v := 999) dX11_expects_24 rfl ?_
        refine aj.icmp_le (tgt := 33) dX11_expects_27 rfl (fun c27 => ?_) (fun c27 => ?_)
        · have c_q : inR q 0 999 := by unfold inR; simp only [Int32.lt_iff_toInt_lt, Int32.le_iff_toInt_le] at *; have e0 : (0 : Int32).toInt = 0 := rfl; have e100 : (100 : Int32).toInt = 100 := rfl; have e999 : (999 : Int32).toInt = 999 := rfl; have e99 : (99 : Int32).toInt = 99 := rfl; omega
          have h_q := inR_bd (n := 999) c_q (by decide)
          have h2_q := h_q.2
          refine aj.aload_n dX11_expects_33 rfl ?_
          refine aj.iload_n dX11_expects_34 rfl ?_
          refine aj.callE1 (d' := 5) (As := [.int s]) (rest := []) dX11_expects_35 v_X11_220 li_X11_tableNow ⟨_, hA.ob (i := 0) rfl (by decide)⟩ rfl rfl rfl (Nat.le_of_ble_eq_true rfl) (Nat.le_of_ble_eq_true rfl) (k_tableNow (mN s) h_s.1 (by omega) hH hv hA) (fun M hM => ?_)
          obtain ⟨V, hA, hE, hF⟩ := hM
          have hv := k_tbv hE (by decide) hv
          refine aj.astore (lv' := [(4, .ref (a + 71)), (0, .ref a), (1, .int s), (2, .int aim), (3, .int q)]) dX11_expects_38 (Nat.le_of_ble_eq_true rfl) rfl ?_
          refine aj.iload_n dX11_expects_40 rfl ?_
          refine aj.istore (lv' := [(5, .int aim), (4, .ref (a + 71)), (0, .ref a), (1, .int s), (2, .int aim), (3, .int q)]) dX11_expects_41 (Nat.le_of_ble_eq_true rfl) rfl ?_
          refine aj.iconst (v := 0) dX11_expects_43 rfl ?_
          refine aj.istore (lv' := [(6, .int 0), (5, .int aim), (4, .ref (a + 71)), (0, .ref a), (1, .int s), (2, .int aim), (3, .int q)]) dX11_expects_44 (Nat.le_of_ble_eq_true rfl) rfl ?_
          refine aj.iconst (v := 2) dX11_expects_46 rfl ?_
          refine aj.istore (lv' := [(7, .int 2), (6, .int 0), (5, .int aim), (4, .ref (a + 71)), (0, .ref a), (1, .int s), (2, .int aim), (3, .int q)]) dX11_expects_47 (Nat.le_of_ble_eq_true rfl) rfl ?_
          refine aj.pick [0, 1, 2, 3, 4, 5, 6, 7] rfl ?_
          have hi := tH_iter (s := mN s) hF h2_aim (mN q / 2)
          have key := expects_lp (G := G) (l := l) (xs := s) (xa := aim) (x0 := mN aim) (mN q) h_q.1 h2_q hT hb hA (mN q / 2) 0 (mN aim) aim False h_aim.1 (by omega) rfl h2_aim (fun z => z.elim)
          rw [zb_f (fun z => z)] at key
          refine aj.mono key (fun r M' hq => ⟨hq.1.trans (by rw [if_pos (⟨c5, c13⟩ : _ ∧ _), if_pos c_q, ← hi.1, tb_mSumT hF hi.2, tb_mSumF hF hi.2]), ?_⟩)
          rw [hq.2]
          exact ⟨_, _, hA, hv, hw⟩
        · refine aj.bipush (v := (-3)) dX11_expects_30 rfl ?_
          exact aj.iret rfl dX11_expects_32 ⟨by rw [if_pos (⟨c5, c13⟩ : _ ∧ _), if_neg (by unfold inR; simp only [Int32.lt_iff_toInt_lt, Int32.le_iff_toInt_le] at *; have e0 : (0 : Int32).toInt = 0 := rfl; have e100 : (100 : Int32).toInt = 100 := rfl; have e999 : (999 : Int32).toInt = 999 := rfl; have e99 : (99 : Int32).toInt = 99 := rfl; omega)], ⟨_, _, hA, hv, hw⟩⟩
    · refine aj.bipush (v := (-2)) dX11_expects_16 rfl ?_
      exact aj.iret rfl dX11_expects_18 ⟨by rw [if_neg (fun z => c13 z.2)], ⟨_, _, hA, hv, hw⟩⟩
def cCount (V0 : Nat → Nat → Int32) (B : Nat → Int32) (k : Nat) : Int32 := match k with
  | 0 => B 1
  | 1 => B 2
  | 2 => B 6
  | 3 => B 3
  | 4 => B 4
  | 5 => B 5
  | 6 => B 26
  | 7 => B 27
  | 8 => B 25
  | 9 => V0 14 1
  | 10 => V0 0 0
  | _ => B 0
theorem p_count {G : zG} {l : Launch} {a : Nat} {M0 M : zM} {V0 : Nat → Nat → Int32} {W0 : Nat → Nat → Int64} {R : Nat → Nat → Option Nat} {T : Nat} {B : Nat → Int32} {sl ol : Option (List Nat)} {Tm : Nat} (q : Int32) (hM : kW a M0 M V0 W0 R) (hH : cH a M0 V0 R T B sl ol Tm)  : am G l kX11_count 0 [.ref a, .int q] M 0 0 (zr (.int (if inR q 0 11 then cCount V0 B (mN q) else -1)) (fun M' => kW a M0 M' V0 W0 R)) := by
  obtain ⟨V, W, hA, hv, hw⟩ := hM
  obtain ⟨hT, hb, hS, hB⟩ := id hH
  have hd0 := (dLaw_of hB).1
  have hd1 := (dLaw_of hB).2
  have h25 := hB.2.2.2.2.2.1
  have h26 := hB.2.2.2.2.2.2.1
  have h27 := hB.2.2.2.2.2.2.2.1
  have h6 := hB.2.2.1
  have hag := hB.2.2.2.2.1
  have hTm := hB.2.2.2.2.2.2.2.2.1
  have h25b := h25.2
  have h26b := h26.2
  have h27b := h27.2
  have h6b := h6.2
  refine am.of (by decide) (Nat.le_of_ble_eq_true rfl) ?_
  refine aj.iload_n dX11_count_0 rfl ?_
  by_cases cq : inR q 0 11
  · rw [if_pos cq]
    have h_q := inR_bd (n := 11) cq (by decide)
    have h2_q := h_q.2
    obtain ⟨h_q1, -⟩ := h_q
    generalize mN q = m at *
    subst h_q1
    rcases (show m = 0 ∨ m = 1 ∨ m = 2 ∨ m = 3 ∨ m = 4 ∨ m = 5 ∨ m = 6 ∨ m = 7 ∨ m = 8 ∨ m = 9 ∨ m = 10 ∨ m = 11 by omega) with rfl | rfl | rfl | rfl | rfl | rfl | rfl | rfl | rfl | rfl | rfl | rfl
    · refine aj.swIn (tgt := 64) (off := 63) dX11_count_1 (by decide) (by decide) (by decide) rfl ?_
      refine aj.aload_n dX11_count_64 rfl ?_
      refine gT hT hA w378 dX11_count_65 ?_
      refine gB_from (hA.bw hb) w205 dX11_count_68 ?_
      exact aj.iret rfl dX11_count_71 ⟨rfl, ⟨_, _, hA, hv, hw⟩⟩
    · refine aj.swIn (tgt := 72) (off := 71) dX11_count_1 (by decide) (by decide) (by decide) rfl ?_
      refine aj.aload_n dX11_count_72 rfl ?_
      refine gT hT hA w378 dX11_count_73 ?_
      refine gB_to (hA.bw hb) w208 dX11_count_76 ?_
      exact aj.iret rfl dX11_count_79 ⟨rfl, ⟨_, _, hA, hv, hw⟩⟩
    · refine aj.swIn (tgt := 80) (off := 79) dX11_count_1 (by decide) (by decide) (by decide) rfl ?_
      refine aj.aload_n dX11_count_80 rfl ?_
      refine gT hT hA w378 dX11_count_81 ?_
      refine gB_shooterCount (hA.bw hb) w226 dX11_count_84 ?_
      exact aj.iret rfl dX11_count_87 ⟨rfl, ⟨_, _, hA, hv, hw⟩⟩
    · refine aj.swIn (tgt := 88) (off := 87) dX11_count_1 (by decide) (by decide) (by decide) rfl ?_
      refine aj.aload_n dX11_count_88 rfl ?_
      refine gT hT hA w378 dX11_count_89 ?_
      refine gB_top (hA.bw hb) w211 dX11_count_92 ?_
      exact aj.iret rfl dX11_count_95 ⟨rfl, ⟨_, _, hA, hv, hw⟩⟩
    · refine aj.swIn (tgt := 96) (off := 95) dX11_count_1 (by decide) (by decide) (by decide) rfl ?_
      refine aj.aload_n dX11_count_96 rfl ?_
      refine gT hT hA w378 dX11_count_97 ?_
      refine gB_falls (hA.bw hb) w214 dX11_count_100 ?_
      exact aj.iret rfl dX11_count_103 ⟨rfl, ⟨_, _, hA, hv, hw⟩⟩
    · refine aj.swIn (tgt := 104) (off := 103) dX11_count_1 (by decide) (by decide) (by decide) rfl ?_
      refine aj.aload_n dX11_count_104 rfl ?_
      refine gT hT hA w378 dX11_count_105 ?_
      refine gB_cost (hA.bw hb) w217 dX11_count_108 ?_
      exact aj.iret rfl dX11_count_111 ⟨rfl, ⟨_, _, hA, hv, hw⟩⟩
    · refine aj.swIn (tgt := 112) (off := 111) dX11_count_1 (by decide) (by decide) (by decide) rfl ?_
      refine aj.aload_n dX11_count_112 rfl ?_
      refine gX11_now (i := 0) rfl hA w379 dX11_count_113 ?_
      refine gX7_wind (i := 8) rfl hA w269 dX11_count_116 ?_
      exact aj.iret rfl dX11_count_119 ⟨by rw [congrFun (hv 8 (by decide)) 1, hS.2.2.2.1]; rfl, ⟨_, _, hA, hv, hw⟩⟩
    · refine aj.swIn (tgt := 120) (off := 119) dX11_count_1 (by decide) (by decide) (by decide) rfl ?_
      refine aj.aload_n dX11_count_120 rfl ?_
      refine gX11_now (i := 0) rfl hA w379 dX11_count_121 ?_
      refine gX7_minute (i := 8) rfl hA w271 dX11_count_124 ?_
      exact aj.iret rfl dX11_count_127 ⟨by rw [congrFun (hv 8 (by decide)) 2, hS.2.2.2.2]; rfl, ⟨_, _, hA, hv, hw⟩⟩
    · refine aj.swIn (tgt := 128) (off := 127) dX11_count_1 (by decide) (by decide) (by decide) rfl ?_
      refine aj.aload_n dX11_count_128 rfl ?_
      refine gX11_now (i := 0) rfl hA w379 dX11_count_129 ?_
      refine gX7_hurt (i := 8) rfl hA w267 dX11_count_132 ?_
      exact aj.iret rfl dX11_count_135 ⟨by rw [congrFun (hv 8 (by decide)) 0, hS.2.2.1]; rfl, ⟨_, _, hA, hv, hw⟩⟩
    · refine aj.swIn (tgt := 136) (off := 135) dX11_count_1 (by decide) (by decide) (by decide) rfl ?_
      refine aj.aload_n dX11_count_136 rfl ?_
      refine gX11_history (i := 0) rfl hA w381 dX11_count_137 ?_
      refine gX1_size (i := 14) rfl hA w295 dX11_count_140 ?_
      exact aj.iret rfl dX11_count_143 ⟨by rw [congrFun (hv 14 (by decide)) 1]; rfl, ⟨_, _, hA, hv, hw⟩⟩
    · refine aj.swIn (tgt := 144) (off := 143) dX11_count_1 (by decide) (by decide) (by decide) rfl ?_
      refine aj.aload_n dX11_count_144 rfl ?_
      refine gX11_taped (i := 0) rfl hA w376 dX11_count_145 ?_
      exact aj.iret rfl dX11_count_148 ⟨by rw [congrFun (hv 0 (by decide)) 0]; rfl, ⟨_, _, hA, hv, hw⟩⟩
    · refine aj.swIn (tgt := 149) (off := 148) dX11_count_1 (by decide) (by decide) (by decide) rfl ?_
      refine aj.aload_n dX11_count_149 rfl ?_
      refine gT hT hA w378 dX11_count_150 ?_
      refine gB_lines (hA.bw hb) w223 dX11_count_153 ?_
      exact aj.iret rfl dX11_count_156 ⟨rfl, ⟨_, _, hA, hv, hw⟩⟩
  · rw [if_neg cq]
    refine aj.swOut (tgt := 157) dX11_count_1 (by unfold inR at cq; omega) rfl ?_
    refine aj.iconst (v := (-1)) dX11_count_157 rfl ?_
    exact aj.iret rfl dX11_count_158 ⟨rfl, ⟨_, _, hA, hv, hw⟩⟩
