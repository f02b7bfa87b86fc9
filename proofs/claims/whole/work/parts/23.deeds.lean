theorem inR_bd1 {x : Int32} {n : Nat} (h : inR x 1 n) (hn : n < 2 ^ 31) : x = nI (mN x) ∧ mN x ≤ n ∧ 1 ≤ mN x := by
  have h1 := h.1
  have h2 := h.2
  have h3 := bd_of (n := n) (by omega) h.2 hn
  refine ⟨h3.1, h3.2, ?_⟩
  have : x.toInt = mN x := by rw [h3.1, nI_toInt (by have := h3.2; omega), ← h3.1]
  omega
/-- behind a call that may change the row 'all' -/
def mS1 (b : Nat) (M0 M : zM) (I : Nat → Int32) (A : Nat → Nat → Int32) (L : Nat → Nat → Int64) (E : Nat → Int32) : Prop := ∃ A' : Nat → Nat → Int32, mW b M0 M I A' L ∧ A' 1 = E ∧ ∀ j : Nat, j ≠ 1 → j ≠ 18 → A' j = A j
theorem noteF_o {B W : Nat → Int32} {nd k : Nat} (h : k < 28 ∨ 139 ≤ k) (hn : nd ≤ 10) : noteF B W nd k = B k := by
  unfold noteF
  split
  · rw [pk_un (by omega), pk_cpy_out (by omega), pk_un (by omega), pk_cpy_out (by omega)]
  · rw [pk_un (by omega), pk_cpy_out (by omega)]
/-- the state that undoing brings back -/
def stF (B : Nat → Int32) : Nat → Int32 := fun k => B (17 + k)
theorem cpy_src {f f' g : Nat → Int32} {sp dp n : Nat} (h : ∀ k, sp ≤ k → k < sp + n → f k = f' k) : va_cpy f g sp dp n = va_cpy f' g sp dp n := by
  funext k
  by_cases h2 : dp ≤ k ∧ k < dp + n
  · rw [pk_cpy_in h2.1 h2.2, pk_cpy_in h2.1 h2.2, h _ (by omega) (by omega)]
  · rw [pk_cpy_out (by omega), pk_cpy_out (by omega)]
theorem was_st {B W : Nat → Int32} {k : Nat} (h : k < 11) : wasF B W k = stF B k := by
  unfold wasF stF
  rw [pk_cpy_in (by omega) (by omega)]
  rfl
theorem noteF_was (B B0 W0 : Nat → Int32) (nd : Nat) : noteF B (wasF B0 W0) nd = noteF B (stF B0) nd := by
  unfold noteF
  rw [cpy_src (f := wasF B0 W0) (f' := stF B0) (fun k _ h => was_st (by omega)), cpy_src (f := wasF B0 W0) (f' := stF B0) (dp := 29 + 11 * nd) (fun k _ h => was_st (by omega))]
theorem q_canShoot {G : zG} {l : Launch} {b : Nat} {M0 M : zM} {I : Nat → Int32} {A : Nat → Nat → Int32} {L : Nat → Nat → Int64} (s : Int32) (aim : Int32) (lot : Int32) (hM : mW b M0 M I A L) {sl ol : Option (List Nat)} {T : Nat}  (hB : mOK (A 1) sl ol T) : am G l kX12_canShoot 2 [.ref b, .int s, .int aim, .int lot] M 0 0 (zr (.int (zb (inR s 0 ((mN (A 1 6) : Int) - 1) ∧ inR aim 0 20 ∧ inR lot 0 9))) (fun M' => mW b M0 M' I A L)) := by
  obtain ⟨u, v, w, hA⟩ := hM
  have hT := hB.2.2.2.2.2.2.2.2.1
  have hN6 := hB.2.2.1.2
  have hN25 := hB.2.2.2.2.2.1.2
  have hN26 := hB.2.2.2.2.2.2.1.2
  have hN27 := hB.2.2.2.2.2.2.2.1.2
  have hN1 := hB.1.1.2
  have hN2 := hB.1.2.1.2
  refine am.of (by decide) (Nat.le_of_ble_eq_true rfl) ?_
  refine aj.aload_n dX12_canShoot_0 rfl ?_
  refine aj.iload_n dX12_canShoot_1 rfl ?_
  refine aj.i2l dX12_canShoot_2 ?_
  refine aj.callV1 (d' := 1) (As := [.long (Int32.toInt64 s)]) (rest := []) dX12_canShoot_3 v_X12_236 li_X12_isShooter hA.1 rfl rfl rfl (Nat.le_of_ble_eq_true rfl) (Nat.le_of_ble_eq_true rfl) (c_isShooter s ⟨_, _, _, hA⟩ hB) (fun M hM => ?_)
  obtain ⟨u, v, w, hA⟩ := hM
  refine aj.if_eqB (tgt := 29) dX12_canShoot_6 rfl (fun c6 => ?_) (fun c6 => ?_)
  · refine aj.iconst (v := 0) dX12_canShoot_29 rfl ?_
    exact aj.zret (ty := .boolean) rfl rfl dX12_canShoot_30 ⟨by rw [zb_f (fun z => c6 z.1)], ⟨_, _, _, hA⟩⟩
  · have h_s := inR_bdS c6 (by omega)
    have h2_s := h_s.2
    refine aj.iload_n dX12_canShoot_9 rfl ?_
    refine aj.i2l dX12_canShoot_10 ?_
    refine aj.callS1 (d' := 1) (As := [.long (Int32.toInt64 aim)]) (rest := []) dX12_canShoot_11 v_X12_241 w1506 rfl rfl (Nat.le_of_ble_eq_true rfl) (Nat.le_of_ble_eq_true rfl) (c_isPlaceI _ aim) (fun M hM => ?_)
    subst hM
    refine aj.if_eqB (tgt := 29) dX12_canShoot_14 rfl (fun c14 => ?_) (fun c14 => ?_)
    · refine aj.iconst (v := 0) dX12_canShoot_29 rfl ?_
      exact aj.zret (ty := .boolean) rfl rfl dX12_canShoot_30 ⟨by rw [zb_f (fun z => c14 z.2.1)], ⟨_, _, _, hA⟩⟩
    · have h_aim := inR_bd (n := 20) c14 (by decide)
      have h2_aim := h_aim.2
      refine aj.iload_n dX12_canShoot_17 rfl ?_
      refine aj.i2l dX12_canShoot_18 ?_
      refine aj.callS1 (d' := 1) (As := [.long (Int32.toInt64 lot)]) (rest := []) dX12_canShoot_19 v_X12_244 w1510 rfl rfl (Nat.le_of_ble_eq_true rfl) (Nat.le_of_ble_eq_true rfl) (c_isLotI _ lot) (fun M hM => ?_)
      subst hM
      refine aj.if_eqB (tgt := 29) dX12_canShoot_22 rfl (fun c22 => ?_) (fun c22 => ?_)
      · refine aj.iconst (v := 0) dX12_canShoot_29 rfl ?_
        exact aj.zret (ty := .boolean) rfl rfl dX12_canShoot_30 ⟨by rw [zb_f (fun z => c22 z.2.2)], ⟨_, _, _, hA⟩⟩
      · have h_lot := inR_bd (n := 9) c22 (by decide)
        have h2_lot := h_lot.2
        refine aj.iconst (v := 1) dX12_canShoot_25 rfl ?_
        refine aj.goto (tgt := 30) dX12_canShoot_26 rfl ?_
        exact aj.zret (ty := .boolean) rfl rfl dX12_canShoot_30 ⟨by rw [zb_t ⟨c6, c14, c22⟩], ⟨_, _, _, hA⟩⟩
theorem q_waits {G : zG} {l : Launch} {b : Nat} {M0 M : zM} {I : Nat → Int32} {A : Nat → Nat → Int32} {L : Nat → Nat → Int64} (n : Int32) (hM : mW b M0 M I A L) {sl ol : Option (List Nat)} {T : Nat}  (hH : bd (A 1 28) 10) (hB : mOK (A 1) sl ol T) : am G l kX12_waits 1 [.ref b, .int n] M 0 0 (zr (.int (if inR n 1 99 then nI (mN (A 1 27) + mN n) else -3)) (fun M' => mS1 b M0 M' I A L (if inR n 1 99 then noteF (upd (A 1) 27 (nI (mN (A 1 27) + mN n))) (stF (A 1)) (mN (A 1 28)) else A 1))) := by
  obtain ⟨u, v, w, hA⟩ := hM
  have hT := hB.2.2.2.2.2.2.2.2.1
  have hN6 := hB.2.2.1.2
  have hN25 := hB.2.2.2.2.2.1.2
  have hN26 := hB.2.2.2.2.2.2.1.2
  have hN27 := hB.2.2.2.2.2.2.2.1.2
  have hN1 := hB.1.1.2
  have hN2 := hB.1.2.1.2
  refine am.of (by decide) (Nat.le_of_ble_eq_true rfl) ?_
  refine aj.aload_n dX12_waits_0 rfl ?_
  refine aj.iconst (v := 0) dX12_waits_1 rfl ?_
  refine pM0 rfl dX12_waits_2 hA (fun M hA => ?_)
  refine aj.iload_n dX12_waits_5 rfl ?_
  refine aj.i2l dX12_waits_6 ?_
  refine aj.lconst (v := 1) dX12_waits_7 rfl ?_
  refine aj.ldc2 dX12_waits_8 w1561 ?_
  refine aj.callS1 (d' := 0) (As := [.long (Int32.toInt64 n), .long 1, .long 99]) (rest := []) dX12_waits_11 v_X12_142 w1380 rfl rfl (Nat.le_of_ble_eq_true rfl) (Nat.le_of_ble_eq_true rfl) (c_withinI (a := 1) (c := 99) _ n 1 99 rfl rfl) (fun M hM => ?_)
  subst hM
  refine aj.if_neB (tgt := 20) dX12_waits_14 rfl (fun c14 => ?_) (fun c14 => ?_)
  · have h_n := inR_bd1 (n := 99) c14 (by decide)
    have h3_n := h_n.2.2
    have h2_n := h_n.2.1
    refine aj.aload_n dX12_waits_20 rfl ?_
    refine aj.callV0 (d' := 0) (As := []) (rest := []) dX12_waits_21 v_X12_265 li_X12_stores hA.1 rfl rfl rfl (Nat.le_of_ble_eq_true rfl) (Nat.le_of_ble_eq_true rfl) (c_stores ⟨_, _, _, hA⟩) (fun M hM => ?_)
    obtain ⟨u, v, w, hA⟩ := hM
    refine aj.aload_n dX12_waits_24 rfl ?_
    refine gM1 rfl dX12_waits_25 hA ?_
    refine aj.bipush (v := 27) dX12_waits_28 rfl ?_
    refine aj.dup2 dX12_waits_30 rfl rfl ?_
    refine aM1N (i := 27) dX12_waits_31 hA rfl (by omega) ?_
    refine aj.iload_n dX12_waits_32 rfl ?_
    refine aj.iaddN (a := mN (A 1 27)) (b := mN n) dX12_waits_33 hB.2.2.2.2.2.2.2.1.1 h_n.1 ?_
    refine sM1N (i := 27) dX12_waits_34 hA rfl (by omega) (fun M hA => ?_)
    refine aj.aload_n dX12_waits_35 rfl ?_
    refine aj.callV0 (d' := 0) (As := []) (rest := []) dX12_waits_36 v_X12_271 li_X12_notes hA.1 rfl rfl rfl (Nat.le_of_ble_eq_true rfl) (Nat.le_of_ble_eq_true rfl) (c_notes (mN (A 1 28)) ⟨_, _, _, hA⟩ (show (upd (A 1) 27 (nI ((mN (A 1 27)) + (mN n)))) 28 = nI (mN (A 1 28)) from (pk_un (by decide)).trans hH.1) hH.2) (fun M hM => ?_)
    obtain ⟨u, v, w, hA⟩ := hM
    refine aj.aload_n dX12_waits_39 rfl ?_
    refine gM1 rfl dX12_waits_40 hA ?_
    refine aj.bipush (v := 27) dX12_waits_43 rfl ?_
    refine aM1N (i := 27) dX12_waits_45 hA rfl (by omega) ?_
    refine aj.iret rfl dX12_waits_46 ⟨by rw [if_pos c14]; show some (Value.int (noteF (upd (A 1) 27 (nI (mN (A 1 27) + mN n))) (wasF (A 1) (A 18)) (mN (A 1 28)) 27)) = _; rw [noteF_o (by omega) hH.2, pk_us], _, ⟨_, _, _, hA⟩, ?_, fun j h1 h18 => by rw [va_up_ne _ _ h1, va_up_ne _ _ h1, va_up_ne _ _ h18]⟩
    rw [if_pos c14]
    exact noteF_was _ _ _ _
  · refine aj.bipush (v := (-3)) dX12_waits_17 rfl ?_
    exact aj.iret rfl dX12_waits_19 ⟨by rw [if_neg c14], _, ⟨_, _, _, hA⟩, by rw [if_neg c14], fun _ _ _ => rfl⟩
theorem q_heal {G : zG} {l : Launch} {b : Nat} {M0 M : zM} {I : Nat → Int32} {A : Nat → Nat → Int32} {L : Nat → Nat → Int64} (hM : mW b M0 M I A L) {sl ol : Option (List Nat)} {T : Nat}  (hH : bd (A 1 28) 10) (hB : mOK (A 1) sl ol T) : am G l kX12_heal 1 [.ref b] M 0 0 (zr (.int (A 1 25)) (fun M' => mS1 b M0 M' I A L (noteF (upd (A 1) 25 0) (stF (A 1)) (mN (A 1 28))))) := by
  obtain ⟨u, v, w, hA⟩ := hM
  have hT := hB.2.2.2.2.2.2.2.2.1
  have hN6 := hB.2.2.1.2
  have hN25 := hB.2.2.2.2.2.1.2
  have hN26 := hB.2.2.2.2.2.2.1.2
  have hN27 := hB.2.2.2.2.2.2.2.1.2
  have hN1 := hB.1.1.2
  have hN2 := hB.1.2.1.2
  refine am.of (by decide) (Nat.le_of_ble_eq_true rfl) ?_
  refine aj.aload_n dX12_heal_0 rfl ?_
  refine aj.iconst (v := 0) dX12_heal_1 rfl ?_
  refine pM0 rfl dX12_heal_2 hA (fun M hA => ?_)
  refine aj.aload_n dX12_heal_5 rfl ?_
  refine aj.callV0 (d' := 0) (As := []) (rest := []) dX12_heal_6 v_X12_265 li_X12_stores hA.1 rfl rfl rfl (Nat.le_of_ble_eq_true rfl) (Nat.le_of_ble_eq_true rfl) (c_stores ⟨_, _, _, hA⟩) (fun M hM => ?_)
  obtain ⟨u, v, w, hA⟩ := hM
  refine aj.aload_n dX12_heal_9 rfl ?_
  refine gM1 rfl dX12_heal_10 hA ?_
  refine aj.bipush (v := 25) dX12_heal_13 rfl ?_
  refine aj.iconst (v := 0) dX12_heal_15 rfl ?_
  refine sM1N (i := 25) dX12_heal_16 hA rfl (by omega) (fun M hA => ?_)
  refine aj.aload_n dX12_heal_17 rfl ?_
  refine aj.callV0 (d' := 0) (As := []) (rest := []) dX12_heal_18 v_X12_271 li_X12_notes hA.1 rfl rfl rfl (Nat.le_of_ble_eq_true rfl) (Nat.le_of_ble_eq_true rfl) (c_notes (mN (A 1 28)) ⟨_, _, _, hA⟩ (show (upd (A 1) 25 0) 28 = nI (mN (A 1 28)) from (pk_un (by decide)).trans hH.1) hH.2) (fun M hM => ?_)
  obtain ⟨u, v, w, hA⟩ := hM
  refine aj.aload_n dX12_heal_21 rfl ?_
  refine gM18 rfl dX12_heal_22 hA ?_
  refine aj.bipush (v := 8) dX12_heal_25 rfl ?_
  refine aM18N (i := 8) dX12_heal_27 hA rfl (by omega) ?_
  refine aj.iret rfl dX12_heal_28 ⟨by show some (Value.int (wasF (A 1) (A 18) 8)) = _; rw [was_st (by decide)]; rfl, _, ⟨_, _, _, hA⟩, ?_, fun j h1 h18 => by rw [va_up_ne _ _ h1, va_up_ne _ _ h1, va_up_ne _ _ h18]⟩
  exact noteF_was _ _ _ _
theorem q_wind {G : zG} {l : Launch} {b : Nat} {M0 M : zM} {I : Nat → Int32} {A : Nat → Nat → Int32} {L : Nat → Nat → Int64} (n : Int32) (hM : mW b M0 M I A L) {sl ol : Option (List Nat)} {T : Nat}  (hH : bd (A 1 28) 10) (hB : mOK (A 1) sl ol T) : am G l kX12_wind 1 [.ref b, .int n] M 0 0 (zr (.int (if inR n 0 9 then A 1 26 else -11)) (fun M' => mS1 b M0 M' I A L (if inR n 0 9 then noteF (upd (A 1) 26 n) (stF (A 1)) (mN (A 1 28)) else A 1))) := by
  obtain ⟨u, v, w, hA⟩ := hM
  have hT := hB.2.2.2.2.2.2.2.2.1
  have hN6 := hB.2.2.1.2
  have hN25 := hB.2.2.2.2.2.1.2
  have hN26 := hB.2.2.2.2.2.2.1.2
  have hN27 := hB.2.2.2.2.2.2.2.1.2
  have hN1 := hB.1.1.2
  have hN2 := hB.1.2.1.2
  refine am.of (by decide) (Nat.le_of_ble_eq_true rfl) ?_
  refine aj.aload_n dX12_wind_0 rfl ?_
  refine aj.iconst (v := 0) dX12_wind_1 rfl ?_
  refine pM0 rfl dX12_wind_2 hA (fun M hA => ?_)
  refine aj.iload_n dX12_wind_5 rfl ?_
  refine aj.i2l dX12_wind_6 ?_
  refine aj.lconst (v := 0) dX12_wind_7 rfl ?_
  refine aj.ldc2 dX12_wind_8 w1512 ?_
  refine aj.callS1 (d' := 0) (As := [.long (Int32.toInt64 n), .long 0, .long 9]) (rest := []) dX12_wind_11 v_X12_142 w1380 rfl rfl (Nat.le_of_ble_eq_true rfl) (Nat.le_of_ble_eq_true rfl) (c_withinI (a := 0) (c := 9) _ n 0 9 rfl rfl) (fun M hM => ?_)
  subst hM
  refine aj.if_neB (tgt := 20) dX12_wind_14 rfl (fun c14 => ?_) (fun c14 => ?_)
  · have h_n := inR_bd (n := 9) c14 (by decide)
    have h2_n := h_n.2
    refine aj.aload_n dX12_wind_20 rfl ?_
    refine aj.callV0 (d' := 0) (As := []) (rest := []) dX12_wind_21 v_X12_265 li_X12_stores hA.1 rfl rfl rfl (Nat.le_of_ble_eq_true rfl) (Nat.le_of_ble_eq_true rfl) (c_stores ⟨_, _, _, hA⟩) (fun M hM => ?_)
    obtain ⟨u, v, w, hA⟩ := hM
    refine aj.aload_n dX12_wind_24 rfl ?_
    refine gM1 rfl dX12_wind_25 hA ?_
    refine aj.bipush (v := 26) dX12_wind_28 rfl ?_
    refine aj.iload_n dX12_wind_30 rfl ?_
    refine sM1N (i := 26) dX12_wind_31 hA rfl (by omega) (fun M hA => ?_)
    refine aj.aload_n dX12_wind_32 rfl ?_
    refine aj.callV0 (d' := 0) (As := []) (rest := []) dX12_wind_33 v_X12_271 li_X12_notes hA.1 rfl rfl rfl (Nat.le_of_ble_eq_true rfl) (Nat.le_of_ble_eq_true rfl) (c_notes (mN (A 1 28)) ⟨_, _, _, hA⟩ (show (upd (A 1) 26 n) 28 = nI (mN (A 1 28)) from (pk_un (by decide)).trans hH.1) hH.2) (fun M hM => ?_)
    obtain ⟨u, v, w, hA⟩ := hM
    refine aj.aload_n dX12_wind_36 rfl ?_
    refine gM18 rfl dX12_wind_37 hA ?_
    refine aj.bipush (v := 9) dX12_wind_40 rfl ?_
    refine aM18N (i := 9) dX12_wind_42 hA rfl (by omega) ?_
    refine aj.iret rfl dX12_wind_43 ⟨by rw [if_pos c14]; show some (Value.int (wasF (A 1) (A 18) 9)) = _; rw [was_st (by decide)]; rfl, _, ⟨_, _, _, hA⟩, ?_, fun j h1 h18 => by rw [va_up_ne _ _ h1, va_up_ne _ _ h1, va_up_ne _ _ h18]⟩
    rw [if_pos c14]
    exact noteF_was _ _ _ _
  · refine aj.bipush (v := (-11)) dX12_wind_17 rfl ?_
    exact aj.iret rfl dX12_wind_19 ⟨by rw [if_neg c14], _, ⟨_, _, _, hA⟩, by rw [if_neg c14], fun _ _ _ => rfl⟩
theorem shotB_o {B : Nat → Int32} {sl ol : Option (List Nat)} {s aim lot k : Nat} (h : k ≠ 17 + s) (h2 : k ≠ 25) (h3 : k ≠ 21 + s) (h4 : k ≠ 27) : shotB B sl ol s aim lot k = B k := by
  unfold shotB
  rw [pk_un h4]
  exact shot3_o h h2 h3
theorem q_shoot {G : zG} {l : Launch} {b : Nat} {M0 M : zM} {I : Nat → Int32} {A : Nat → Nat → Int32} {L : Nat → Nat → Int64} (s : Int32) (aim : Int32) (lot : Int32) (hM : mW b M0 M I A L) {sl ol : Option (List Nat)} {T : Nat}  (hH : bd (A 1 28) 10) (hB : mOK (A 1) sl ol T) : am G l kX12_shoot 5 [.ref b, .int s, .int aim, .int lot] M 0 0 (zr (.int (if inR s 0 ((mN (A 1 6) : Int) - 1) ∧ inR aim 0 20 ∧ inR lot 0 9 then shotS (A 1) sl ol (mN s) (mN aim) (mN lot) else -99000011)) (fun M' => mS1 b M0 M' I A L (if inR s 0 ((mN (A 1 6) : Int) - 1) ∧ inR aim 0 20 ∧ inR lot 0 9 then noteF (shotB (A 1) sl ol (mN s) (mN aim) (mN lot)) (stF (A 1)) (mN (A 1 28)) else A 1))) := by
  obtain ⟨u, v, w, hA⟩ := hM
  have hT := hB.2.2.2.2.2.2.2.2.1
  have hN6 := hB.2.2.1.2
  have hN25 := hB.2.2.2.2.2.1.2
  have hN26 := hB.2.2.2.2.2.2.1.2
  have hN27 := hB.2.2.2.2.2.2.2.1.2
  have hN1 := hB.1.1.2
  have hN2 := hB.1.2.1.2
  refine am.of (by decide) (Nat.le_of_ble_eq_true rfl) ?_
  refine aj.aload_n dX12_shoot_0 rfl ?_
  refine aj.iconst (v := 0) dX12_shoot_1 rfl ?_
  refine pM0 rfl dX12_shoot_2 hA (fun M hA => ?_)
  refine aj.aload_n dX12_shoot_5 rfl ?_
  refine aj.iload_n dX12_shoot_6 rfl ?_
  refine aj.iload_n dX12_shoot_7 rfl ?_
  refine aj.iload_n dX12_shoot_8 rfl ?_
  refine aj.callV1 (d' := 2) (As := [.int s, .int aim, .int lot]) (rest := []) dX12_shoot_9 v_X12_260 li_X12_canShoot hA.1 rfl rfl rfl (Nat.le_of_ble_eq_true rfl) (Nat.le_of_ble_eq_true rfl) (q_canShoot s aim lot ⟨_, _, _, hA⟩ hB) (fun M hM => ?_)
  obtain ⟨u, v, w, hA⟩ := hM
  refine aj.if_neB (tgt := 19) dX12_shoot_12 rfl (fun c12 => ?_) (fun c12 => ?_)
  · have h_s := inR_bdS c12.1 (by omega)
    have h_aim := inR_bd (n := 20) c12.2.1 (by decide)
    have h_lot := inR_bd (n := 9) c12.2.2 (by decide)
    have h2_s := h_s.2
    have h2_aim := h_aim.2
    have h2_lot := h_lot.2
    refine aj.aload_n dX12_shoot_19 rfl ?_
    refine aj.callV0 (d' := 0) (As := []) (rest := []) dX12_shoot_20 v_X12_265 li_X12_stores hA.1 rfl rfl rfl (Nat.le_of_ble_eq_true rfl) (Nat.le_of_ble_eq_true rfl) (c_stores ⟨_, _, _, hA⟩) (fun M hM => ?_)
    obtain ⟨u, v, w, hA⟩ := hM
    refine aj.aload_n dX12_shoot_23 rfl ?_
    refine aj.iload_n dX12_shoot_24 rfl ?_
    refine aj.iload_n dX12_shoot_25 rfl ?_
    refine aj.iload_n dX12_shoot_26 rfl ?_
    refine aj.callV1 (d' := 4) (As := [.int s, .int aim, .int lot]) (rest := []) dX12_shoot_27 v_X12_268 li_X12_goesShot hA.1 rfl rfl rfl (Nat.le_of_ble_eq_true rfl) (Nat.le_of_ble_eq_true rfl) (c_goesShot (mN s) h_s.1 (mN aim) h_aim.1 (mN lot) h_lot.1 ⟨_, _, _, hA⟩ hB (by omega) (by omega) (by omega)) (fun M hM => ?_)
    obtain ⟨u, v, w, hA⟩ := hM
    refine aj.istore (lv' := [(4, .int (shotS (A 1) sl ol (mN s) (mN aim) (mN lot))), (0, .ref b), (1, .int s), (2, .int aim), (3, .int lot)]) dX12_shoot_30 (Nat.le_of_ble_eq_true rfl) rfl ?_
    refine aj.aload_n dX12_shoot_32 rfl ?_
    refine aj.callV0 (d' := 0) (As := []) (rest := []) dX12_shoot_33 v_X12_271 li_X12_notes hA.1 rfl rfl rfl (Nat.le_of_ble_eq_true rfl) (Nat.le_of_ble_eq_true rfl) (c_notes (mN (A 1 28)) ⟨_, _, _, hA⟩ (show (shotB (A 1) sl ol (mN s) (mN aim) (mN lot)) 28 = nI (mN (A 1 28)) from (shotB_o (by omega) (by omega) (by omega) (by omega)).trans hH.1) hH.2) (fun M hM => ?_)
    obtain ⟨u, v, w, hA⟩ := hM
    refine aj.iload dX12_shoot_36 rfl ?_
    refine aj.iret rfl dX12_shoot_38 ⟨by rw [if_pos c12], _, ⟨_, _, _, hA⟩, ?_, fun j h1 h18 => by rw [va_up_ne _ _ h1, va_up_ne _ _ h1, va_up_ne _ _ h18]⟩
    rw [if_pos c12]
    exact noteF_was _ _ _ _
  · refine aj.ldcw dX12_shoot_15 w1574 ?_
    exact aj.iret rfl dX12_shoot_18 ⟨by rw [if_neg c12], _, ⟨_, _, _, hA⟩, by rw [if_neg c12], fun _ _ _ => rfl⟩
theorem undo_loop {G : zG} {l : Launch} {b : Nat} {M0 : zM} {I : Nat → Int32} {A : Nat → Nat → Int32} {L : Nat → Nat → Int64} {Q : Option Value → zM → Prop} (nd : Nat) (hnd : A 1 28 = nI nd) (hn9 : nd ≤ 9) (hk : ∀ M : zM, mW b M0 M I (va_up A 1 (va_cpy (A 1) (A 1) (29 + 11 * nd) 17 11)) L → aj G l kX12_undo 1 85 [(0, .ref b)] [] M 0 0 Q) : ∀ (n i : Nat) (M : zM), i + n = 11 → mW b M0 M I (va_up A 1 (va_cpy (A 1) (A 1) (29 + 11 * nd) 17 i)) L → aj G l kX12_undo 1 44 [(2, .int (nI i)), (0, .ref b)] [] M 0 0 Q := by
  intro n
  induction n with
  | zero =>
    intro i M hin hM
    obtain ⟨u, v, w, hA⟩ := hM
    have hi : i = 11 := by omega
    refine aj.iload_n dX12_undo_44 rfl ?_
    refine aj.bipush (v := 11) dX12_undo_45 rfl ?_
    refine aj.icmp_geN (a := i) (b := 11) (tgt := 85) dX12_undo_47 rfl rfl (by omega) (by omega) rfl (fun c47 => ?_) (fun c47 => ?_)
    · refine aj.pick [1] rfl ?_
      rw [hi] at hA
      exact hk M ⟨_, _, _, hA⟩
    · exact absurd c47 (by omega)
  | succ n ih =>
    intro i M hin hM
    obtain ⟨u, v, w, hA⟩ := hM
    refine aj.iload_n dX12_undo_44 rfl ?_
    refine aj.bipush (v := 11) dX12_undo_45 rfl ?_
    refine aj.icmp_geN (a := i) (b := 11) (tgt := 85) dX12_undo_47 rfl rfl (by omega) (by omega) rfl (fun c47 => ?_) (fun c47 => ?_)
    · exact absurd c47 (by omega)
    · refine aj.aload_n dX12_undo_50 rfl ?_
      refine gM1 rfl dX12_undo_51 hA ?_
      refine aj.bipush (v := 17) dX12_undo_54 rfl ?_
      refine aj.iload_n dX12_undo_56 rfl ?_
      refine aj.iaddN (a := 17) (b := i) dX12_undo_57 rfl rfl ?_
      refine aj.aload_n dX12_undo_58 rfl ?_
      refine gM1 rfl dX12_undo_59 hA ?_
      refine aj.bipush (v := 29) dX12_undo_62 rfl ?_
      refine aj.bipush (v := 11) dX12_undo_64 rfl ?_
      refine aj.aload_n dX12_undo_66 rfl ?_
      refine gM1 rfl dX12_undo_67 hA ?_
      refine aj.bipush (v := 28) dX12_undo_70 rfl ?_
      refine aM1N (i := 28) dX12_undo_72 hA rfl (by omega) ?_
      refine aj.imulN (a := 11) (b := nd) dX12_undo_73 rfl ((pk_cpy_out (Or.inr (by omega))).trans hnd) ?_
      refine aj.iaddN (a := 29) (b := 11 * nd) dX12_undo_74 rfl rfl ?_
      refine aj.iload_n dX12_undo_75 rfl ?_
      refine aj.iaddN (a := 29 + (11 * nd)) (b := i) dX12_undo_76 rfl rfl ?_
      refine aM1N (i := (29 + (11 * nd)) + i) dX12_undo_77 hA rfl (by omega) ?_
      refine sM1N (i := 17 + i) dX12_undo_78 hA rfl (by omega) (fun M hA => ?_)
      refine aj.iincN (a := i) (c := 1) (lv' := [(2, .int (nI (i + 1))), (0, .ref b)]) dX12_undo_79 rfl (Nat.le_of_ble_eq_true rfl) rfl rfl rfl ?_
      refine aj.goto (tgt := 44) dX12_undo_82 rfl ?_
      refine aj.pick [0, 1] rfl ?_
      exact ih (i + 1) M (by omega) ⟨_, _, _, by
        rw [bx_uu] at hA
        have e := cpy_step (f := A 1) (g := A 1) (sp := 29 + 11 * nd) (dp := 17) (i := i)
        rw [← e]
        exact (by rw [va_up_self, pk_cpy_out (Or.inr (by omega))] at hA; exact hA)⟩
theorem undo_end {G : zG} {l : Launch} {b : Nat} {M0 : zM} {I : Nat → Int32} {A : Nat → Nat → Int32} {L : Nat → Nat → Int64} {P : zM → Prop} (x : Int32) (M : zM) (hM : mW b M0 M I A L) (hx : A 1 28 = x) (hP : P M) : aj G l kX12_undo 1 85 [(0, .ref b)] [] M 0 0 (zr (.int x) P) := by
  obtain ⟨u, v, w, hA⟩ := hM
  refine aj.aload_n dX12_undo_85 rfl ?_
  refine gM1 rfl dX12_undo_86 hA ?_
  refine aj.bipush (v := 28) dX12_undo_89 rfl ?_
  refine aM1N (i := 28) dX12_undo_91 hA rfl (by omega) ?_
  exact aj.iret rfl dX12_undo_92 ⟨by rw [hx], hP⟩
theorem q_undo {G : zG} {l : Launch} {b : Nat} {M0 M : zM} {I : Nat → Int32} {A : Nat → Nat → Int32} {L : Nat → Nat → Int64} (n : Int32) (hM : mW b M0 M I A L) {sl ol : Option (List Nat)} {T : Nat}  (hH : bd (A 1 28) 10) (hB : mOK (A 1) sl ol T) : am G l kX12_undo 1 [.ref b, .int n] M 0 0 (zr (.int (if inR n 1 10 ∧ mN n ≤ mN (A 1 28) then nI (mN (A 1 28) - mN n) else -3)) (fun M' => mS1 b M0 M' I A L (if inR n 1 10 ∧ mN n ≤ mN (A 1 28) then va_cpy (upd (A 1) 28 (nI (mN (A 1 28) - mN n))) (upd (A 1) 28 (nI (mN (A 1 28) - mN n))) (29 + 11 * (mN (A 1 28) - mN n)) 17 11 else A 1))) := by
  obtain ⟨u, v, w, hA⟩ := hM
  have hT := hB.2.2.2.2.2.2.2.2.1
  have hN6 := hB.2.2.1.2
  have hN25 := hB.2.2.2.2.2.1.2
  have hN26 := hB.2.2.2.2.2.2.1.2
  have hN27 := hB.2.2.2.2.2.2.2.1.2
  have hN1 := hB.1.1.2
  have hN2 := hB.1.2.1.2
  have hH2 := hH.2
  refine am.of (by decide) (Nat.le_of_ble_eq_true rfl) ?_
  refine aj.aload_n dX12_undo_0 rfl ?_
  refine aj.iconst (v := 0) dX12_undo_1 rfl ?_
  refine pM0 rfl dX12_undo_2 hA (fun M hA => ?_)
  refine aj.iload_n dX12_undo_5 rfl ?_
  refine aj.i2l dX12_undo_6 ?_
  refine aj.lconst (v := 1) dX12_undo_7 rfl ?_
  refine aj.ldc2 dX12_undo_8 w1603 ?_
  refine aj.callS1 (d' := 0) (As := [.long (Int32.toInt64 n), .long 1, .long 10]) (rest := []) dX12_undo_11 v_X12_142 w1380 rfl rfl (Nat.le_of_ble_eq_true rfl) (Nat.le_of_ble_eq_true rfl) (c_withinI (a := 1) (c := 10) _ n 1 10 rfl rfl) (fun M hM => ?_)
  subst hM
  refine aj.if_eqB (tgt := 28) dX12_undo_14 rfl (fun c14 => ?_) (fun c14 => ?_)
  · refine aj.bipush (v := (-3)) dX12_undo_28 rfl ?_
    exact aj.iret rfl dX12_undo_30 ⟨by rw [if_neg (fun z => c14 z.1)], _, ⟨_, _, _, hA⟩, by rw [if_neg (fun z => c14 z.1)], fun _ _ _ => rfl⟩
  · have h_n := inR_bd1 (n := 10) c14 (by decide)
    have h3_n := h_n.2.2
    have h2_n := h_n.2.1
    refine aj.iload_n dX12_undo_17 rfl ?_
    refine aj.aload_n dX12_undo_18 rfl ?_
    refine gM1 rfl dX12_undo_19 hA ?_
    refine aj.bipush (v := 28) dX12_undo_22 rfl ?_
    refine aM1N (i := 28) dX12_undo_24 hA rfl (by omega) ?_
    refine aj.icmp_leN (a := mN n) (b := mN (A 1 28)) (tgt := 31) dX12_undo_25 h_n.1 hH.1 (by omega) (by omega) rfl (fun c25 => ?_) (fun c25 => ?_)
    · refine aj.aload_n dX12_undo_31 rfl ?_
      refine gM1 rfl dX12_undo_32 hA ?_
      refine aj.bipush (v := 28) dX12_undo_35 rfl ?_
      refine aj.dup2 dX12_undo_37 rfl rfl ?_
      refine aM1N (i := 28) dX12_undo_38 hA rfl (by omega) ?_
      refine aj.iload_n dX12_undo_39 rfl ?_
      refine aj.isubN (a := mN (A 1 28)) (b := mN n) dX12_undo_40 hH.1 h_n.1 (by omega) ?_
      refine sM1N (i := 28) dX12_undo_41 hA rfl (by omega) (fun M hA => ?_)
      refine aj.iconst (v := 0) dX12_undo_42 rfl ?_
      refine aj.istore_n (lv' := [(2, .int 0), (0, .ref b), (1, .int n)]) dX12_undo_43 (Nat.le_of_ble_eq_true rfl) rfl ?_
      refine aj.pick [0, 1] rfl ?_
      rw [if_pos (⟨c14, c25⟩ : _ ∧ _), if_pos (⟨c14, c25⟩ : _ ∧ _)]
      refine undo_loop (A := va_up A 1 (upd (A 1) 28 (nI (mN (A 1 28) - mN n)))) (mN (A 1 28) - mN n) (show (upd (A 1) 28 (nI (mN (A 1 28) - mN n))) 28 = _ from pk_us) (by omega) (fun M hM => undo_end _ M hM ?_ ?_) 11 0 M (by omega) (by rw [cpy_0, va_up_id]; exact ⟨_, _, _, hA⟩)
      · show va_cpy (upd (A 1) 28 (nI (mN (A 1 28) - mN n))) (upd (A 1) 28 (nI (mN (A 1 28) - mN n))) (29 + 11 * (mN (A 1 28) - mN n)) 17 11 28 = _
        rw [pk_cpy_out (Or.inr (by omega)), pk_us]
      · exact ⟨_, hM, rfl, fun j h1 h18 => by rw [va_up_ne _ _ h1, va_up_ne _ _ h1]⟩
    · refine aj.bipush (v := (-3)) dX12_undo_28 rfl ?_
      exact aj.iret rfl dX12_undo_30 ⟨by rw [if_neg (fun z => by have := z.2; omega)], _, ⟨_, _, _, hA⟩, by rw [if_neg (fun z => by have := z.2; omega)], fun _ _ _ => rfl⟩
