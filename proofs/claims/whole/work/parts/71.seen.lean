/-- the trays as the reference has them -/
def trR (V0 : Nat → Nat → Int32) (W0 : Nat → Nat → Int64) (A : Nat → Nat → Int32) (L : Nat → Nat → Int64) : Prop := ∀ k, k < 4 → bd (A 33 k) 40 ∧ V0 (57 + 2 * k) 0 = zb (¬ A 32 k = -1) ∧ (¬ A 32 k = -1 → V0 (57 + 2 * k) 1 = A 33 k ∧ V0 (57 + 2 * k) 2 = A 32 k ∧ ∀ j, j < mN (A 33 k) → W0 (57 + 2 * k + 1) j = L 34 (40 * k + j))
def spE (V V1 : Nat → Nat → Int32) : Prop := ∀ q, q ≠ 50 → q ≠ 51 → q ≠ 53 → V1 q = V q
theorem sp_v {V V1 V0 : Nat → Nat → Int32} (hE : spE V V1) (hv : ∀ i, ¬ sc i → V i = V0 i) : ∀ i, ¬ sc i → V1 i = V0 i := fun i hi => by
  rw [hE i (fun e => hi (by subst e; decide)) (fun e => hi (by subst e; decide)) (fun e => hi (by subst e; decide))]
  exact hv i hi
theorem nsc_t {k : Nat} (h : k < 4) : ¬ sc (57 + 2 * k) ∧ ¬ sc (57 + 2 * k + 1) := by unfold sc; omega
theorem k_addSpot {G : zG} {l : Launch} {a : Nat} {M0 M : zM} {V : Nat → Nat → Int32} {W : Nat → Nat → Int64} {R : Nat → Nat → Option Nat} (p : Nat) {x_p : Int32} (e_p : x_p = nI p) (hp : p ≤ 20) (hA : kA a M0 M V W R) : am G l kX11_addSpot 1 [.ref a, .int x_p] M 0 0 (zv (fun M' => kA a M0 M' (va_up V 53 (upd (V 53) p (V 53 p + 1))) W R)) := by
  refine am.of (by decide) (Nat.le_of_ble_eq_true rfl) ?_
  refine aj.iload_n dX11_addSpot_0 rfl ?_
  refine aj.i2lN (a := p) dX11_addSpot_1 e_p (by omega) ?_
  refine aj.callS1 (d' := 0) (As := [.long (lN p)]) (rest := []) dX11_addSpot_2 v_X11_150 w748 rfl rfl (Nat.le_of_ble_eq_true rfl) (Nat.le_of_ble_eq_true rfl) (k_isPlaceN _ p (by omega)) (fun M hM => ?_)
  subst hM
  refine aj.if_eqN (a := 1) (tgt := 18) dX11_addSpot_5 rfl (by omega) rfl (fun c5 => ?_) (fun c5 => ?_)
  · exact absurd c5 (by decide)
  · refine aj.aload_n dX11_addSpot_8 rfl ?_
    refine gX11_spots (i := 0) rfl hA w387 dX11_addSpot_9 ?_
    refine aj.iload_n dX11_addSpot_12 rfl ?_
    refine aj.dup2 dX11_addSpot_13 rfl rfl ?_
    refine aj.kL (i := 53) (j := p) rfl dX11_addSpot_14 hA e_p (by omega) (by decide) ?_
    refine aj.iconst (v := 1) dX11_addSpot_15 rfl ?_
    refine aj.iadd dX11_addSpot_16 ?_
    refine aj.kS (i := 53) (j := p) rfl dX11_addSpot_17 hA e_p (by omega) (by decide) (fun M hA => ?_)
    exact aj.vret rfl dX11_addSpot_18 ⟨rfl, hA⟩
theorem spots_lp {G : zG} {l : Launch} {a : Nat} {M0 : zM} {V : Nat → Nat → Int32} {W : Nat → Nat → Int64} {R : Nat → Nat → Option Nat} {V0 : Nat → Nat → Int32} {T : Nat} {B : Nat → Int32} {sl ol : Option (List Nat)} {Tm : Nat} (s : Nat) {x_s : Int32} (e_s : x_s = nI s) (aim : Nat) {x_aim : Int32} (e_aim : x_aim = nI aim) (hs4 : s < 4) (ha : aim ≤ 20) (hH : cH a M0 V0 R T B sl ol Tm) (hv : ∀ i, ¬ sc i → V i = V0 i) : ∀ (n i : Nat) (V1 : Nat → Nat → Int32) (M : zM), i + n = 10 → spE V V1 → (∀ k, k < 21 → V1 53 k = nI (mCnt B sl s aim k i)) → kA a M0 M V1 W R → aj G l kX11_countSpots 5 10 [(3, .int (nI i)), (0, .ref a), (1, .int x_s), (2, .int x_aim)] [] M 0 0 (zv (fun M' => ∃ V1, kA a M0 M' V1 W R ∧ spE V V1 ∧ ∀ k, k < 21 → V1 53 k = nI (mCnt B sl s aim k 10))) := by
  obtain ⟨hT, hb, hS, hB⟩ := id hH
  have hd0 := (dLaw_of hB).1
  have hd1 := (dLaw_of hB).2
  have h25 := hB.2.2.2.2.2.1
  have h26 := hB.2.2.2.2.2.2.1
  have h27 := hB.2.2.2.2.2.2.2.1
  have h6 := hB.2.2.1
  have hag := hB.2.2.2.2.1
  have hTm := hB.2.2.2.2.2.2.2.2.1
  have h25b := h25.2
  have h26b := h26.2
  have h27b := h27.2
  have h6b := h6.2
  have hag1 := (hag s hs4).2
  intro n
  induction n with
  | zero =>
    intro i V1 M hin hE hC hA
    refine aj.iload_n dX11_countSpots_10 rfl ?_
    refine aj.bipush (v := 10) dX11_countSpots_11 rfl ?_
    refine aj.icmp_geN (a := i) (b := 10) (tgt := 62) dX11_countSpots_13 rfl rfl (by omega) (by omega) rfl (fun c13 => ?_) (fun c13 => ?_)
    · exact aj.vret rfl dX11_countSpots_62 ⟨rfl, V1, hA, hE, fun k hk => by rw [hC k hk, show i = 10 by omega]⟩
    · exact absurd c13 (by omega)
  | succ n ih =>
    intro i V1 M hin hE hC hA
    have hv1 := sp_v hE hv
    have hml := mLand_le sl (B (13 + s)) (mN (B (21 + s))) (mN (B 26)) aim i
    refine aj.iload_n dX11_countSpots_10 rfl ?_
    refine aj.bipush (v := 10) dX11_countSpots_11 rfl ?_
    refine aj.icmp_geN (a := i) (b := 10) (tgt := 62) dX11_countSpots_13 rfl rfl (by omega) (by omega) rfl (fun c13 => ?_) (fun c13 => ?_)
    · exact absurd c13 (by omega)
    · refine aj.aload_n dX11_countSpots_16 rfl ?_
      refine aj.aload_n dX11_countSpots_17 rfl ?_
      refine gX11_range (i := 0) rfl hA w385 dX11_countSpots_18 ?_
      refine aj.aload_n dX11_countSpots_21 rfl ?_
      refine gT hT hA w378 dX11_countSpots_22 ?_
      refine aj.aload_n dX11_countSpots_25 rfl ?_
      refine gT hT hA w378 dX11_countSpots_26 ?_
      refine aj.iload_n dX11_countSpots_29 rfl ?_
      refine aj.callE1 (d' := 0) (As := [.int x_s]) (rest := [.ref T, .ref (a + 49), .ref a]) dX11_countSpots_30 v_X11_131 li_X0_shakeOf (hA.bw hb).ob rfl rfl rfl (Nat.le_of_ble_eq_true rfl) (Nat.le_of_ble_eq_true rfl) (k_shakeOf s e_s (by omega) (hA.bw hb)) (fun M hM => ?_)
      subst hM
      refine aj.aload_n dX11_countSpots_33 rfl ?_
      refine gX11_now (i := 0) rfl hA w379 dX11_countSpots_34 ?_
      refine aj.iload_n dX11_countSpots_37 rfl ?_
      refine aj.callE1 (d' := 0) (As := [.int x_s]) (rest := [.int (B (13 + s)), .ref T, .ref (a + 49), .ref a]) dX11_countSpots_38 v_X11_135 li_X7_ageOf ⟨_, hA.ob (i := 8) rfl (by decide)⟩ rfl rfl rfl (Nat.le_of_ble_eq_true rfl) (Nat.le_of_ble_eq_true rfl) (k_ageOf (o := 8) ⟨rfl, rfl, rfl⟩ s e_s (by omega) hA) (fun M hM => ?_)
      subst hM
      refine aj.aload_n dX11_countSpots_41 rfl ?_
      refine gX11_now (i := 0) rfl hA w379 dX11_countSpots_42 ?_
      refine gX7_wind (i := 8) rfl hA w269 dX11_countSpots_45 ?_
      refine aj.iload_n dX11_countSpots_48 rfl ?_
      refine aj.iload_n dX11_countSpots_49 rfl ?_
      refine aj.callE1 (d' := 4) (As := [.ref T, .int (B (13 + s)), .int (V1 10 s), .int (V1 8 1), .int x_aim, .int (nI i)]) (rest := [.ref a]) dX11_countSpots_50 v_X11_381 li_X4_landing ⟨_, hA.ob (i := 49) rfl (by decide)⟩ rfl rfl rfl (Nat.le_of_ble_eq_true rfl) (Nat.le_of_ble_eq_true rfl) (k_landing (B (13 + s)) (mN (B (21 + s))) (((congrFun (hv1 10 (by decide)) s).trans ((hS.2.1 s hs4).trans (hag s hs4).1))) (mN (B 26)) (((congrFun (hv1 8 (by decide)) 1).trans (hS.2.2.2.1.trans h26.1))) aim e_aim i rfl (by omega) hb hd0 hA) (fun M hM => ?_)
      obtain ⟨v1, v2, hA⟩ := hM
      refine aj.callE0 (d' := 1) (As := [.int (nI (mLand sl (B (13 + s)) (mN (B (21 + s))) (mN (B 26)) aim i))]) (rest := []) dX11_countSpots_53 v_X11_428 li_X11_addSpot ⟨_, hA.ob (i := 0) rfl (by decide)⟩ rfl rfl rfl (Nat.le_of_ble_eq_true rfl) (Nat.le_of_ble_eq_true rfl) (k_addSpot (mLand sl (B (13 + s)) (mN (B (21 + s))) (mN (B 26)) aim i) rfl (by omega) hA) (fun M hM => ?_)
      have hA := hM
      refine aj.iincN (a := i) (c := 1) (lv' := [(3, .int (nI (i + 1))), (0, .ref a), (1, .int x_s), (2, .int x_aim)]) dX11_countSpots_56 rfl (Nat.le_of_ble_eq_true rfl) rfl rfl rfl ?_
      refine aj.goto (tgt := 10) dX11_countSpots_59 rfl ?_
      refine aj.pick [0, 1, 2, 3] rfl ?_
      refine ih (i + 1) _ M (by omega) (fun q q0 q1 q3 => by rw [va_up_ne _ _ q3, va_up_ne _ _ q1, va_up_ne _ _ q0]; exact hE q q0 q1 q3) (fun k hk => ?_) hA
      have ez : mCnt B sl s aim k (i + 1) = mCnt B sl s aim k i + (if mLand sl (B (13 + s)) (mN (B (21 + s))) (mN (B 26)) aim i = k then 1 else 0) := rfl
      rw [va_up_self, ez]
      by_cases e : k = mLand sl (B (13 + s)) (mN (B (21 + s))) (mN (B 26)) aim i
      · rw [← e, pk_us, if_pos rfl]
        show V1 53 k + 1 = _
        rw [hC k hk]
        exact nI_add _ 1
      · rw [pk_un e, if_neg (fun z => e z.symm)]
        exact hC k hk
theorem k_countSpots {G : zG} {l : Launch} {a : Nat} {M0 M : zM} {V : Nat → Nat → Int32} {W : Nat → Nat → Int64} {R : Nat → Nat → Option Nat} {V0 : Nat → Nat → Int32} {T : Nat} {B : Nat → Int32} {sl ol : Option (List Nat)} {Tm : Nat} (s : Nat) {x_s : Int32} (e_s : x_s = nI s) (aim : Nat) {x_aim : Int32} (e_aim : x_aim = nI aim) (hs4 : s < 4) (ha : aim ≤ 20) (hH : cH a M0 V0 R T B sl ol Tm) (hv : ∀ i, ¬ sc i → V i = V0 i) (hA : kA a M0 M V W R) : am G l kX11_countSpots 5 [.ref a, .int x_s, .int x_aim] M 0 0 (zv (fun M' => ∃ V1, kA a M0 M' V1 W R ∧ spE V V1 ∧ ∀ k, k < 21 → V1 53 k = nI (mCnt B sl s aim k 10))) := by
  refine am.of (by decide) (Nat.le_of_ble_eq_true rfl) ?_
  refine aj.aload_n dX11_countSpots_0 rfl ?_
  refine gX11_spots (i := 0) rfl hA w387 dX11_countSpots_1 ?_
  refine aj.iconst (v := 0) dX11_countSpots_4 rfl ?_
  refine aj.callS0 (d' := 0) (As := [.ref (a + 53), .int 0]) (rest := []) dX11_countSpots_5 v_X11_423 w701 rfl rfl (Nat.le_of_ble_eq_true rfl) (Nat.le_of_ble_eq_true rfl) (k_fillI 0 rfl (by decide) hA) (fun M hM => ?_)
  have hA := hM
  refine aj.iconst (v := 0) dX11_countSpots_8 rfl ?_
  refine aj.istore_n (lv' := [(3, .int 0), (0, .ref a), (1, .int x_s), (2, .int x_aim)]) dX11_countSpots_9 (Nat.le_of_ble_eq_true rfl) rfl ?_
  refine aj.pick [0, 1, 2, 3] rfl ?_
  exact spots_lp s e_s aim e_aim hs4 ha hH hv 10 0 _ M (by omega) (fun q q0 q1 q3 => va_up_ne _ _ q3) (fun k hk => by rw [va_up_self]; rfl) hA
theorem likely_lp {G : zG} {l : Launch} {a : Nat} {M0 M : zM} {V : Nat → Nat → Int32} {W : Nat → Nat → Int64} {R : Nat → Nat → Option Nat} {B : Nat → Int32} {sl : Option (List Nat)} {s aim : Nat} {xs xa : Int32} (hC : ∀ k, k < 21 → V 53 k = nI (mCnt B sl s aim k 10)) (hA : kA a M0 M V W R) : ∀ (n i f : Nat), i + n = 20 → f = zmax (fun k => nI (mCnt B sl s aim k 10)) i → aj G l kX11_likeliest 6 30 [(4, .int (nI (i + 1))), (3, .int (nI f)), (0, .ref a), (1, .int xs), (2, .int xa)] [] M 0 0 (zr (.int (nI (zmax (fun k => nI (mCnt B sl s aim k 10)) 20))) (fun M' => M' = M)) := by
  intro n
  induction n with
  | zero =>
    intro i f hin hf
    have hfl := zmax_le (fun k => nI (mCnt B sl s aim k 10)) i
    refine aj.iload dX11_likeliest_30 rfl ?_
    refine aj.bipush (v := 21) dX11_likeliest_32 rfl ?_
    refine aj.icmp_geN (a := i + 1) (b := 21) (tgt := 62) dX11_likeliest_34 rfl rfl (by omega) (by omega) rfl (fun c34 => ?_) (fun c34 => ?_)
    · refine aj.iload_n dX11_likeliest_62 rfl ?_
      exact aj.iret rfl dX11_likeliest_63 ⟨by rw [hf, show i = 20 by omega], rfl⟩
    · exact absurd c34 (by omega)
  | succ n ih =>
    intro i f hin hf
    have hfl := zmax_le (fun k => nI (mCnt B sl s aim k 10)) i
    refine aj.iload dX11_likeliest_30 rfl ?_
    refine aj.bipush (v := 21) dX11_likeliest_32 rfl ?_
    refine aj.icmp_geN (a := i + 1) (b := 21) (tgt := 62) dX11_likeliest_34 rfl rfl (by omega) (by omega) rfl (fun c34 => ?_) (fun c34 => ?_)
    · exact absurd c34 (by omega)
    · refine aj.aload_n dX11_likeliest_37 rfl ?_
      refine gX11_spots (i := 0) rfl hA w387 dX11_likeliest_38 ?_
      refine aj.iload dX11_likeliest_41 rfl ?_
      refine aj.kL (i := 53) (j := i + 1) rfl dX11_likeliest_43 hA rfl (by omega) (by decide) ?_
      refine aj.aload_n dX11_likeliest_44 rfl ?_
      refine gX11_spots (i := 0) rfl hA w387 dX11_likeliest_45 ?_
      refine aj.iload_n dX11_likeliest_48 rfl ?_
      refine aj.kL (i := 53) (j := f) rfl dX11_likeliest_49 hA rfl (by omega) (by decide) ?_
      refine aj.icmp_le (tgt := 56) dX11_likeliest_50 rfl (fun c50 => ?_) (fun c50 => ?_)
      · refine aj.iincN (a := i + 1) (c := 1) (lv' := [(4, .int (nI (i + 1 + 1))), (3, .int (nI f)), (0, .ref a), (1, .int xs), (2, .int xa)]) dX11_likeliest_56 rfl (Nat.le_of_ble_eq_true rfl) rfl rfl rfl ?_
        refine aj.goto (tgt := 30) dX11_likeliest_59 rfl ?_
        refine aj.pick [0, 1, 2, 3, 4] rfl ?_
        exact ih (i + 1) f (by omega) (by rw [zmax_s, ← hf, if_pos (by rw [hC (i + 1) (by omega), hC f (by omega)] at c50; exact c50)])
      · refine aj.iload dX11_likeliest_53 rfl ?_
        refine aj.istore_n (lv' := [(3, .int (nI (i + 1))), (4, .int (nI (i + 1))), (0, .ref a), (1, .int xs), (2, .int xa)]) dX11_likeliest_55 (Nat.le_of_ble_eq_true rfl) rfl ?_
        refine aj.iincN (a := i + 1) (c := 1) (lv' := [(4, .int (nI (i + 1 + 1))), (3, .int (nI (i + 1))), (0, .ref a), (1, .int xs), (2, .int xa)]) dX11_likeliest_56 rfl (Nat.le_of_ble_eq_true rfl) rfl rfl rfl ?_
        refine aj.goto (tgt := 30) dX11_likeliest_59 rfl ?_
        refine aj.pick [0, 1, 2, 3, 4] rfl ?_
        exact ih (i + 1) (i + 1) (by omega) (by rw [zmax_s, ← hf, if_neg (by rw [hC (i + 1) (by omega), hC f (by omega)] at c50; exact c50)])
theorem p_likeliest {G : zG} {l : Launch} {a : Nat} {M0 M : zM} {V0 : Nat → Nat → Int32} {W0 : Nat → Nat → Int64} {R : Nat → Nat → Option Nat} {T : Nat} {B : Nat → Int32} {sl ol : Option (List Nat)} {Tm : Nat} (s : Int32) (aim : Int32) (hM : kW a M0 M V0 W0 R) (hH : cH a M0 V0 R T B sl ol Tm)  : am G l kX11_likeliest 6 [.ref a, .int s, .int aim] M 0 0 (zr (.int (if inR s 0 ((mN (B 6) : Int) - 1) ∧ inR aim 0 20 then nI (zmax (fun k => nI (mCnt B sl (mN s) (mN aim) k 10)) 20) else -2)) (fun M' => kW a M0 M' V0 W0 R)) := by
  obtain ⟨V, W, hA, hv, hw⟩ := hM
  obtain ⟨hT, hb, hS, hB⟩ := id hH
  have hd0 := (dLaw_of hB).1
  have hd1 := (dLaw_of hB).2
  have h25 := hB.2.2.2.2.2.1
  have h26 := hB.2.2.2.2.2.2.1
  have h27 := hB.2.2.2.2.2.2.2.1
  have h6 := hB.2.2.1
  have hag := hB.2.2.2.2.1
  have hTm := hB.2.2.2.2.2.2.2.2.1
  have h25b := h25.2
  have h26b := h26.2
  have h27b := h27.2
  have h6b := h6.2
  refine am.of (by decide) (Nat.le_of_ble_eq_true rfl) ?_
  refine aj.aload_n dX11_likeliest_0 rfl ?_
  refine aj.iload_n dX11_likeliest_1 rfl ?_
  refine aj.callE1 (d' := 0) (As := [.int s]) (rest := []) dX11_likeliest_2 v_X11_124 li_X11_isShooter ⟨_, hA.ob (i := 0) rfl (by decide)⟩ rfl rfl rfl (Nat.le_of_ble_eq_true rfl) (Nat.le_of_ble_eq_true rfl) (k_isShooter s hH hA) (fun M hM => ?_)
  subst hM
  refine aj.if_eqB (tgt := 16) dX11_likeliest_5 rfl (fun c5 => ?_) (fun c5 => ?_)
  · refine aj.bipush (v := (-2)) dX11_likeliest_16 rfl ?_
    exact aj.iret rfl dX11_likeliest_18 ⟨by rw [if_neg (fun z => c5 z.1)], ⟨_, _, hA, hv, hw⟩⟩
  · have h_s := inR_bdS c5 (by omega)
    have h2_s := h_s.2
    refine aj.iload_n dX11_likeliest_8 rfl ?_
    refine aj.i2l dX11_likeliest_9 ?_
    refine aj.callS1 (d' := 0) (As := [.long (Int32.toInt64 aim)]) (rest := []) dX11_likeliest_10 v_X11_150 w748 rfl rfl (Nat.le_of_ble_eq_true rfl) (Nat.le_of_ble_eq_true rfl) (k_isPlaceI _ aim) (fun M hM => ?_)
    subst hM
    refine aj.if_neB (tgt := 19) dX11_likeliest_13 rfl (fun c13 => ?_) (fun c13 => ?_)
    · have h_aim := inR_bd (n := 20) c13 (by decide)
      have h2_aim := h_aim.2
      refine aj.aload_n dX11_likeliest_19 rfl ?_
      refine aj.iload_n dX11_likeliest_20 rfl ?_
      refine aj.iload_n dX11_likeliest_21 rfl ?_
      refine aj.callE0 (d' := 5) (As := [.int s, .int aim]) (rest := []) dX11_likeliest_22 v_X11_243 li_X11_countSpots ⟨_, hA.ob (i := 0) rfl (by decide)⟩ rfl rfl rfl (Nat.le_of_ble_eq_true rfl) (Nat.le_of_ble_eq_true rfl) (k_countSpots (mN s) h_s.1 (mN aim) h_aim.1 (by omega) (by omega) hH hv hA) (fun M hM => ?_)
      obtain ⟨V, hA, hE, hC⟩ := hM
      have hv := sp_v hE hv
      refine aj.iconst (v := 0) dX11_likeliest_25 rfl ?_
      refine aj.istore_n (lv' := [(3, .int 0), (0, .ref a), (1, .int s), (2, .int aim)]) dX11_likeliest_26 (Nat.le_of_ble_eq_true rfl) rfl ?_
      refine aj.iconst (v := 1) dX11_likeliest_27 rfl ?_
      refine aj.istore (lv' := [(4, .int 1), (3, .int 0), (0, .ref a), (1, .int s), (2, .int aim)]) dX11_likeliest_28 (Nat.le_of_ble_eq_true rfl) rfl ?_
      refine aj.pick [0, 1, 2, 3, 4] rfl ?_
      refine aj.mono (likely_lp hC hA 20 0 0 (by omega) rfl) (fun r M' hq => ⟨hq.1.trans (by rw [if_pos (⟨c5, c13⟩ : _ ∧ _)]), ?_⟩)
      rw [hq.2]
      exact ⟨_, _, hA, hv, hw⟩
    · refine aj.bipush (v := (-2)) dX11_likeliest_16 rfl ?_
      exact aj.iret rfl dX11_likeliest_18 ⟨by rw [if_neg (fun z => c13 z.2)], ⟨_, _, hA, hv, hw⟩⟩
theorem k_refusedSize {G : zG} {l : Launch} {a : Nat} {M0 M : zM} {V : Nat → Nat → Int32} {W : Nat → Nat → Int64} {R : Nat → Nat → Option Nat} {V0 : Nat → Nat → Int32} {W0 : Nat → Nat → Int64} {A : Nat → Nat → Int32} {L : Nat → Nat → Int64} (t : Nat) (ht4 : t < 4) (hTr : trR V0 W0 A L) (hv : ∀ i, ¬ sc i → V i = V0 i) (hw : ∀ i, ¬ sc i → W i = W0 i) (hA : kA a M0 M V W R) : am G l kX11_refusedSize 0 [.ref (a + (57 + 2 * t))] M 0 0 (zr (.int (if A 32 t = -1 then -6 else if inR (A 33 t) 1 8 then 0 else -4)) (fun M' => M' = M)) := by
  obtain ⟨h33, h0, h1⟩ := hTr t ht4
  have ht := kTr_j t ht4
  have hnt := nsc_t ht4
  have h0' : V (57 + 2 * t) 0 = zb (¬ A 32 t = -1) := (congrFun (hv _ hnt.1) 0).trans h0
  have h1' : ¬ A 32 t = -1 → V (57 + 2 * t) 1 = A 33 t := fun z => (congrFun (hv _ hnt.1) 1).trans (h1 z).1
  refine am.of (by decide) (Nat.le_of_ble_eq_true rfl) ?_
  refine aj.aload_n dX11_refusedSize_0 rfl ?_
  refine gX10_there (i := (57 + 2 * t)) ht.1 hA w346 dX11_refusedSize_1 ?_
  refine aj.if_ne (tgt := 10) dX11_refusedSize_4 rfl (fun c4 => ?_) (fun c4 => ?_)
  · have hA32 : ¬ A 32 t = -1 := fun z => c4 (h0'.trans (zb_f (fun q => q z)))
    refine aj.aload_n dX11_refusedSize_10 rfl ?_
    refine gX10_size (i := (57 + 2 * t)) ht.1 hA w348 dX11_refusedSize_11 ?_
    rw [h1' hA32]
    refine aj.iconst (v := 1) dX11_refusedSize_14 rfl ?_
    refine aj.icmp_lt (tgt := 27) dX11_refusedSize_15 rfl (fun c15 => ?_) (fun c15 => ?_)
    · refine aj.bipush (v := (-4)) dX11_refusedSize_27 rfl ?_
      refine aj.goto (tgt := 33) dX11_refusedSize_29 rfl ?_
      exact aj.iret rfl dX11_refusedSize_33 ⟨by rw [if_neg hA32, if_neg (by unfold inR; simp only [Int32.lt_iff_toInt_lt, Int32.le_iff_toInt_le] at *; have e1 : (1 : Int32).toInt = 1 := rfl; have e8 : (8 : Int32).toInt = 8 := rfl; omega)], rfl⟩
    · refine aj.aload_n dX11_refusedSize_18 rfl ?_
      refine gX10_size (i := (57 + 2 * t)) ht.1 hA w348 dX11_refusedSize_19 ?_
      rw [h1' hA32]
      refine aj.bipush (v := 8) dX11_refusedSize_22 rfl ?_
      refine aj.icmp_le (tgt := 32) dX11_refusedSize_24 rfl (fun c24 => ?_) (fun c24 => ?_)
      · refine aj.iconst (v := 0) dX11_refusedSize_32 rfl ?_
        exact aj.iret rfl dX11_refusedSize_33 ⟨by rw [if_neg hA32, if_pos (by unfold inR; simp only [Int32.lt_iff_toInt_lt, Int32.le_iff_toInt_le] at *; have e1 : (1 : Int32).toInt = 1 := rfl; have e8 : (8 : Int32).toInt = 8 := rfl; omega)], rfl⟩
      · refine aj.bipush (v := (-4)) dX11_refusedSize_27 rfl ?_
        refine aj.goto (tgt := 33) dX11_refusedSize_29 rfl ?_
        exact aj.iret rfl dX11_refusedSize_33 ⟨by rw [if_neg hA32, if_neg (by unfold inR; simp only [Int32.lt_iff_toInt_lt, Int32.le_iff_toInt_le] at *; have e1 : (1 : Int32).toInt = 1 := rfl; have e8 : (8 : Int32).toInt = 8 := rfl; omega)], rfl⟩
  · have hA32 : A 32 t = -1 := Classical.not_not.mp (zb_0.mp (h0'.symm.trans c4))
    refine aj.bipush (v := (-6)) dX11_refusedSize_7 rfl ?_
    exact aj.iret rfl dX11_refusedSize_9 ⟨by rw [if_pos hA32], rfl⟩
theorem refSeen_lp {G : zG} {l : Launch} {a : Nat} {M0 M : zM} {V : Nat → Nat → Int32} {W : Nat → Nat → Int64} {R : Nat → Nat → Option Nat} {V0 : Nat → Nat → Int32} {W0 : Nat → Nat → Int64} {A : Nat → Nat → Int32} {L : Nat → Nat → Int64} (t : Nat) {x_t : Int32} (e_t : x_t = nI t) (ht4 : t < 4) {z xa : Int32} (hTr : trR V0 W0 A L) (hv : ∀ i, ¬ sc i → V i = V0 i) (hw : ∀ i, ¬ sc i → W i = W0 i) (hno : ¬ A 32 t = -1) {m : Nat} (hm : A 33 t = nI m) (hm8 : m ≤ 8) (hA : kA a M0 M V W R) (r : Option Nat) : ∀ (n i : Nat), i + n = m → zfirst (seenBad L t) n i = r → aj G l kX11_refusedSeen 1 38 [(4, .int (nI i)), (3, .int z), (0, .ref a), (1, .int x_t), (2, .int xa)] [] M 0 0 (zr (.int (if r = none then 0 else -3)) (fun M' => M' = M)) := by
  obtain ⟨h33, h0, h1⟩ := hTr t ht4
  have ht := kTr_j t ht4
  have hnt := nsc_t ht4
  have h0' : V (57 + 2 * t) 0 = zb (¬ A 32 t = -1) := (congrFun (hv _ hnt.1) 0).trans h0
  have h1' : ¬ A 32 t = -1 → V (57 + 2 * t) 1 = A 33 t := fun z => (congrFun (hv _ hnt.1) 1).trans (h1 z).1
  have hsz : V (57 + 2 * t) 1 = nI m := (h1' hno).trans hm
  have hmm : mN (A 33 t) = m := by rw [hm]; exact mN_nI (by omega)
  have hval : ∀ j, j < m → W (57 + 2 * t + 1) j = L 34 (40 * t + j) := fun j hj => (congrFun (hw _ hnt.2) j).trans ((h1 hno).2.2 j (by omega))
  intro n
  induction n with
  | zero =>
    intro i hin hr
    refine aj.iload dX11_refusedSeen_38 rfl ?_
    refine aj.aload_n dX11_refusedSeen_40 rfl ?_
    refine gX11_trays (i := 0) rfl hA w382 dX11_refusedSeen_41 ?_
    refine aj.iload_n dX11_refusedSeen_44 rfl ?_
    refine aj.kR50 (j := t) rfl dX11_refusedSeen_45 hA e_t (by omega) (by decide) ?_
    refine gX10_size (i := (57 + 2 * t)) ht.1 hA w348 dX11_refusedSeen_46 ?_
    refine aj.icmp_geN (a := i) (b := m) (tgt := 78) dX11_refusedSeen_49 rfl hsz (by omega) (by omega) rfl (fun c49 => ?_) (fun c49 => ?_)
    · refine aj.iconst (v := 0) dX11_refusedSeen_78 rfl ?_
      exact aj.iret rfl dX11_refusedSeen_79 ⟨by rw [← hr]; rfl, rfl⟩
    · exact absurd c49 (by omega)
  | succ n ih =>
    intro i hin hr
    have hvi := hval i (by omega)
    refine aj.iload dX11_refusedSeen_38 rfl ?_
    refine aj.aload_n dX11_refusedSeen_40 rfl ?_
    refine gX11_trays (i := 0) rfl hA w382 dX11_refusedSeen_41 ?_
    refine aj.iload_n dX11_refusedSeen_44 rfl ?_
    refine aj.kR50 (j := t) rfl dX11_refusedSeen_45 hA e_t (by omega) (by decide) ?_
    refine gX10_size (i := (57 + 2 * t)) ht.1 hA w348 dX11_refusedSeen_46 ?_
    refine aj.icmp_geN (a := i) (b := m) (tgt := 78) dX11_refusedSeen_49 rfl hsz (by omega) (by omega) rfl (fun c49 => ?_) (fun c49 => ?_)
    · exact absurd c49 (by omega)
    · refine aj.aload_n dX11_refusedSeen_52 rfl ?_
      refine gX11_trays (i := 0) rfl hA w382 dX11_refusedSeen_53 ?_
      refine aj.iload_n dX11_refusedSeen_56 rfl ?_
      refine aj.kR50 (j := t) rfl dX11_refusedSeen_57 hA e_t (by omega) (by decide) ?_
      refine aj.iload dX11_refusedSeen_58 rfl ?_
      refine aj.callE1 (d' := 0) (As := [.int (nI i)]) (rest := []) dX11_refusedSeen_60 v_X11_388 li_X10_at ⟨_, hA.ob (i := (57 + 2 * t)) ht.1 (by decide)⟩ rfl rfl rfl (Nat.le_of_ble_eq_true rfl) (Nat.le_of_ble_eq_true rfl) (k_trAt (o := (57 + 2 * t)) ht i rfl (by omega) hA) (fun M hM => ?_)
      subst hM
      refine aj.callS1 (d' := 0) (As := [.long (W ((57 + 2 * t) + 1) i)]) (rest := []) dX11_refusedSeen_63 v_X11_150 w748 rfl rfl (Nat.le_of_ble_eq_true rfl) (Nat.le_of_ble_eq_true rfl) (k_isPlace _ (W ((57 + 2 * t) + 1) i)) (fun M hM => ?_)
      subst hM
      refine aj.if_neB (tgt := 72) dX11_refusedSeen_66 rfl (fun c66 => ?_) (fun c66 => ?_)
      · refine aj.iincN (a := i) (c := 1) (lv' := [(4, .int (nI (i + 1))), (3, .int z), (0, .ref a), (1, .int x_t), (2, .int xa)]) dX11_refusedSeen_72 rfl (Nat.le_of_ble_eq_true rfl) rfl rfl rfl ?_
        refine aj.goto (tgt := 38) dX11_refusedSeen_75 rfl ?_
        refine aj.pick [0, 1, 2, 3, 4] rfl ?_
        exact ih (i + 1) (by omega) (by rw [← hr, zfirst_s, if_neg (show ¬ seenBad L t i by rw [hvi] at c66; exact fun q => q c66)])
      · refine aj.bipush (v := (-3)) dX11_refusedSeen_69 rfl ?_
        exact aj.iret rfl dX11_refusedSeen_71 ⟨by rw [← hr, zfirst_s, if_pos (show seenBad L t i by rw [hvi] at c66; exact c66)]; rfl, rfl⟩
theorem refS_ne {A : Nat → Nat → Int32} {t : Nat} {X : Int32} (h : ¬ (if A 32 t = -1 then (-6 : Int32) else if inR (A 33 t) 1 8 then 0 else -4) = 0) : some (Value.int (if A 32 t = -1 then (-6 : Int32) else if inR (A 33 t) 1 8 then 0 else -4)) = some (Value.int (if A 32 t = -1 then -6 else if inR (A 33 t) 1 8 then X else -4)) := by
  by_cases h1 : A 32 t = -1
  · rw [if_pos h1, if_pos h1]
  · rw [if_neg h1, if_neg h1]
    rw [if_neg h1] at h
    by_cases h2 : inR (A 33 t) 1 8
    · rw [if_pos h2] at h; exact absurd rfl h
    · rw [if_neg h2, if_neg h2]
theorem refS_0 {A : Nat → Nat → Int32} {t : Nat} (h : (if A 32 t = -1 then (-6 : Int32) else if inR (A 33 t) 1 8 then 0 else -4) = 0) : ¬ A 32 t = -1 ∧ inR (A 33 t) 1 8 := by
  by_cases h1 : A 32 t = -1
  · rw [if_pos h1] at h; exact absurd h (by decide)
  · rw [if_neg h1] at h
    by_cases h2 : inR (A 33 t) 1 8
    · exact ⟨h1, h2⟩
    · rw [if_neg h2] at h; exact absurd h (by decide)
theorem k_refusedSeen {G : zG} {l : Launch} {a : Nat} {M0 M : zM} {V : Nat → Nat → Int32} {W : Nat → Nat → Int64} {R : Nat → Nat → Option Nat} {V0 : Nat → Nat → Int32} {W0 : Nat → Nat → Int64} {A : Nat → Nat → Int32} {L : Nat → Nat → Int64} (t aim : Int32) (hTr : trR V0 W0 A L) (hv : ∀ i, ¬ sc i → V i = V0 i) (hw : ∀ i, ¬ sc i → W i = W0 i) (hA : kA a M0 M V W R) : am G l kX11_refusedSeen 1 [.ref a, .int t, .int aim] M 0 0 (zr (.int (mSeenC A L t aim)) (fun M' => M' = M)) := by
  refine am.of (by decide) (Nat.le_of_ble_eq_true rfl) ?_
  refine aj.aload_n dX11_refusedSeen_0 rfl ?_
  refine aj.iload_n dX11_refusedSeen_1 rfl ?_
  refine aj.callE1 (d' := 0) (As := [.int t]) (rest := []) dX11_refusedSeen_2 v_X11_194 li_X11_isTray ⟨_, hA.ob (i := 0) rfl (by decide)⟩ rfl rfl rfl (Nat.le_of_ble_eq_true rfl) (Nat.le_of_ble_eq_true rfl) (k_isTray t hA) (fun M hM => ?_)
  subst hM
  refine aj.if_eqB (tgt := 16) dX11_refusedSeen_5 rfl (fun c5 => ?_) (fun c5 => ?_)
  · refine aj.bipush (v := (-2)) dX11_refusedSeen_16 rfl ?_
    exact aj.iret rfl dX11_refusedSeen_18 ⟨by unfold mSeenC; rw [if_neg (fun z => c5 z.1)], rfl⟩
  · have h_t := inR_bd (n := 3) c5 (by decide)
    have h2_t := h_t.2
    have ht := kTr_j (mN t) (by omega)
    refine aj.iload_n dX11_refusedSeen_8 rfl ?_
    refine aj.i2l dX11_refusedSeen_9 ?_
    refine aj.callS1 (d' := 0) (As := [.long (Int32.toInt64 aim)]) (rest := []) dX11_refusedSeen_10 v_X11_150 w748 rfl rfl (Nat.le_of_ble_eq_true rfl) (Nat.le_of_ble_eq_true rfl) (k_isPlaceI _ aim) (fun M hM => ?_)
    subst hM
    refine aj.if_neB (tgt := 19) dX11_refusedSeen_13 rfl (fun c13 => ?_) (fun c13 => ?_)
    · have h_aim := inR_bd (n := 20) c13 (by decide)
      have h2_aim := h_aim.2
      refine aj.aload_n dX11_refusedSeen_19 rfl ?_
      refine gX11_trays (i := 0) rfl hA w382 dX11_refusedSeen_20 ?_
      refine aj.iload_n dX11_refusedSeen_23 rfl ?_
      refine aj.kR50 (j := mN t) rfl dX11_refusedSeen_24 hA h_t.1 (by omega) (by decide) ?_
      refine aj.callS1 (d' := 0) (As := [.ref (a + (57 + 2 * (mN t)))]) (rest := []) dX11_refusedSeen_25 v_X11_419 w1101 rfl rfl (Nat.le_of_ble_eq_true rfl) (Nat.le_of_ble_eq_true rfl) (k_refusedSize (mN t) (by omega) hTr hv hw hA) (fun M hM => ?_)
      subst hM
      refine aj.istore_n (lv' := [(3, .int (if A 32 (mN t) = -1 then -6 else if inR (A 33 (mN t)) 1 8 then 0 else -4)), (0, .ref a), (1, .int t), (2, .int aim)]) dX11_refusedSeen_28 (Nat.le_of_ble_eq_true rfl) rfl ?_
      refine aj.iload_n dX11_refusedSeen_29 rfl ?_
      refine aj.if_eq (tgt := 35) dX11_refusedSeen_30 rfl (fun c30 => ?_) (fun c30 => ?_)
      · refine aj.iconst (v := 0) dX11_refusedSeen_35 rfl ?_
        refine aj.istore (lv' := [(4, .int 0), (3, .int (if A 32 (mN t) = -1 then -6 else if inR (A 33 (mN t)) 1 8 then 0 else -4)), (0, .ref a), (1, .int t), (2, .int aim)]) dX11_refusedSeen_36 (Nat.le_of_ble_eq_true rfl) rfl ?_
        obtain ⟨hno, h18⟩ := refS_0 c30
        have hb8 := inR_bd1 (n := 8) h18 (by decide)
        refine aj.pick [0, 1, 2, 3, 4] rfl ?_
        refine aj.mono (refSeen_lp (mN t) h_t.1 (by omega) hTr hv hw hno hb8.1 hb8.2.1 hA _ (mN (A 33 (mN t))) 0 (by omega) rfl) (fun r M' hq => ⟨hq.1.trans (by unfold mSeenC; rw [if_pos (⟨c5, c13⟩ : _ ∧ _), if_neg hno, if_pos h18]), hq.2⟩)
      · refine aj.iload_n dX11_refusedSeen_33 rfl ?_
        exact aj.iret rfl dX11_refusedSeen_34 ⟨by unfold mSeenC; rw [if_pos (⟨c5, c13⟩ : _ ∧ _)]; exact refS_ne c30, rfl⟩
    · refine aj.bipush (v := (-2)) dX11_refusedSeen_16 rfl ?_
      exact aj.iret rfl dX11_refusedSeen_18 ⟨by unfold mSeenC; rw [if_neg (fun z => c13 z.2)], rfl⟩
