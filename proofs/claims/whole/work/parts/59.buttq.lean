theorem butt_mid {G : zG} {l : Launch} {b : Nat} {M0 : zM} {J : Nat → Int32} {B : Nat → Nat → Int32} {L : Nat → Nat → Int64} {tx : Nat → Nat} {n : Nat} {x : Int32} {av : Nat → Nat} {fm : Nat} (hG : zSt G av fm) (hC : rC tx n J B) (M : zM) (hR : rW b M0 M J B L tx n (.inr ([], lx tx n 0))) (hB : ∀ k, k < 29 → k < 7 ∨ 13 ≤ k → B 4 k = nI (dE0 k)) (h7 : B 4 7 = 0) (h8 : B 4 8 = 0) : aj G l kX12_butt 65 53 [(0, .ref b), (1, .int x)] [] M 0 0 (zr (.int (dRes (dRun tx n))) (fun M' => rE b M0 M' J B L (dRun tx n))) := by
  have j74 : ∀ M : zM, rW b M0 M J B L tx n (dSt1 tx n) → aj G l kX12_butt 65 74 [(0, .ref b), (1, .int x)] [] M 0 0 (zr (.int (dRes (dRun tx n))) (fun M' => rE b M0 M' J B L (dRun tx n))) := by
    intro M hR
    refine aj.aload_n dX12_butt_74 rfl ?_
    refine aj.rFg rfl dX12_butt_75 hR ?_
    refine aj.iconst (v := 1) dX12_butt_78 rfl ?_
    refine aj.aload_n dX12_butt_79 rfl ?_
    refine aj.iconst (v := 0) dX12_butt_80 rfl ?_
    refine aj.bipush (v := 20) dX12_butt_81 rfl ?_
    refine aj.rCallX (d' := 6) (As := [.int 0, .int 20]) (rest := [.int 1, .ref (b + 4)]) hR dX12_butt_83 v_X12_182 li_X12_takes rfl rfl rfl (Nat.le_of_ble_eq_true rfl) (Nat.le_of_ble_eq_true rfl) (r_takes hG hC 0 20 (fun _ => ⟨rfl, by decide⟩) rfl (by decide) hR) (fun x83 M hR => ?_)
    obtain ⟨hx83, hR⟩ := hR
    have hR : rW b M0 M J B L tx n (dSt2 tx n) := hR
    refine aj.rFs (i := 1) dX12_butt_86 hR rfl (by omega) (fun M hR => ?_)
    refine aj.aload_n dX12_butt_87 rfl ?_
    refine aj.rFg rfl dX12_butt_88 hR ?_
    refine aj.iconst (v := 2) dX12_butt_91 rfl ?_
    refine aj.aload_n dX12_butt_92 rfl ?_
    refine aj.aload_n dX12_butt_93 rfl ?_
    refine aj.rFg rfl dX12_butt_94 hR ?_
    refine aj.iconst (v := 1) dX12_butt_97 rfl ?_
    refine aj.rFl (i := 1) dX12_butt_98 hR rfl (by omega) ?_
    refine aj.bipush (v := 20) dX12_butt_99 rfl ?_
    refine aj.rCallX (d' := 6) (As := [.int ((va_up B 4 (upd (B 4) 1 x83)) 4 1), .int 20]) (rest := [.int 2, .ref (b + 4)]) hR dX12_butt_101 v_X12_182 li_X12_takes rfl rfl rfl (Nat.le_of_ble_eq_true rfl) (Nat.le_of_ble_eq_true rfl) (r_takes hG (rC.up hC _) (pNm (dSt1 tx n)) 20 (fun z => by obtain ⟨cs, t, ts, e, -⟩ := pHd_in z (by decide); have h3 := (pTake_in e).2.2.1; exact ⟨by rw [va_up_self, pk_us]; exact hx83 _ _ e, by omega⟩) rfl (by decide) hR) (fun x101 M hR => ?_)
    obtain ⟨hx101, hR⟩ := hR
    have hR : rW b M0 M J _ L tx n (dSt3 tx n) := hR
    refine aj.rFs (i := 2) dX12_butt_104 hR rfl (by omega) (fun M hR => ?_)
    refine aj.aload_n dX12_butt_105 rfl ?_
    refine aj.rCall0 (d' := 7) (As := []) (rest := []) hR dX12_butt_106 v_X12_199 li_X12_closes rfl rfl rfl (Nat.le_of_ble_eq_true rfl) (Nat.le_of_ble_eq_true rfl) (r_closes hG (rC.up (rC.up hC _) _) hR) (fun M hR => ?_)
    have hR' : rT b M0 M J (va_up (va_up B 4 (upd (B 4) 1 x83)) 4 (upd (va_up B 4 (upd (B 4) 1 x83) 4) 2 x101)) L tx n (pExp 30 (pLift [] (dSt3 tx n))) (fun k => k = 0) (fun F => F 0 = (va_up (va_up B 4 (upd (B 4) 1 x83)) 4 (upd (va_up B 4 (upd (B 4) 1 x83) 4) 2 x101)) 4 0 + 1) := by rw [pLift_nil]; exact hR
    have hD : rD b M0 M J B L tx n (dStart tx n) := by
      refine rD_close (D := (dSt3 tx n, nu (nu dE0 1 (pNm (dSt1 tx n))) 2 (pNm (dSt2 tx n)), none, none)) ⟨fun _ _ _ _ _ _ _ _ => rfl, fun j hj => by rw [va_up_ne _ _ hj, va_up_ne _ _ hj], fun ⟨cs, ts, hS⟩ => ?_⟩ hR'
      have hS' : pTake (pNm (dSt1 tx n)) 20 (dSt2 tx n) = .inr (cs, ts) := hS
      obtain ⟨c2, t2, e2⟩ := (pTake_in hS').2.2.2
      refine ⟨fun k k1 k2 => ?_, (by decide : 0 ≤ 4), ?_, ?_⟩
      · show _ = nI (nu (nu dE0 1 (pNm (dSt1 tx n))) 2 (pNm (dSt2 tx n)) k)
        rw [va_up_self]
        by_cases q2 : k = 2
        · subst q2; rw [pk_us, nu_s]; exact hx101 _ _ hS'
        · rw [pk_un q2, nu_n q2, va_up_self]
          by_cases q1 : k = 1
          · subst q1; rw [pk_us, nu_s]; exact hx83 _ _ e2
          · rw [pk_un q1, nu_n q1]; exact hB k k1 k2
      · show _ = (0 : Int32)
        rw [va_up_self, pk_un (by decide), va_up_self, pk_un (by decide)]; exact h7
      · show _ = (0 : Int32)
        rw [va_up_self, pk_un (by decide), va_up_self, pk_un (by decide)]; exact h8
    have hln : pLen (dStart tx n).1 ≤ 901 := by
      have hT := hD
      obtain ⟨_, _, _, hR9, _⟩ := hD
      have h9 := hR9.sz
      have hn := hC.1
      have h8 := pLen_le (dStart tx n).1
      match hq : (dStart tx n).1 with
      | .inl e => exact Nat.zero_le _
      | .inr (cs, ts) =>
        rw [hq] at h9
        have h9' : (_ ++ cs).length + ts.length ≤ n + 1 := h9
        show ts.length ≤ 901
        omega
    exact butt_loop hG hC (fun M hD => butt_end hC.1 (dOk_run tx n) M hD) 901 _ M rfl hln (dOk_start tx n).1 hD
  refine aj.aload_n dX12_butt_53 rfl ?_
  refine aj.iconst (v := 0) dX12_butt_54 rfl ?_
  refine aj.rCall1 (d' := 6) (As := [.int 0]) (rest := []) hR dX12_butt_55 v_X12_161 li_X12_eats rfl rfl rfl (Nat.le_of_ble_eq_true rfl) (Nat.le_of_ble_eq_true rfl) (r_eats hG hC 0 rfl (by decide) (by decide) hR) (fun M hR => ?_)
  refine aj.if_eqB (tgt := 69) dX12_butt_58 rfl (fun c58 => ?_) (fun c58 => ?_)
  · rw [if_neg c58] at hR
    refine aj.aload_n dX12_butt_69 rfl ?_
    refine aj.iconst (v := 2) dX12_butt_70 rfl ?_
    refine aj.rCall0 (d' := 0) (As := [.int 2]) (rest := []) hR dX12_butt_71 v_X12_138 li_X12_fails rfl rfl rfl (Nat.le_of_ble_eq_true rfl) (Nat.le_of_ble_eq_true rfl) (r_fails 2 rfl (by decide) hR) (fun M hR => ?_)
    have e9 : dSt1 tx n = pFail 2 (.inr ([], lx tx n 0)) := by show pExp 1 (pExp 0 _) = _; rw [pExp_n c58]; obtain ⟨e, he⟩ := pFail_in 2 (.inr ([], lx tx n 0)); rw [he, (pExp_G (k := 1) (by decide) (by decide)).1]
    rw [← e9] at hR
    exact j74 M hR
  · rw [if_pos c58] at hR
    refine aj.aload_n dX12_butt_61 rfl ?_
    refine aj.iconst (v := 1) dX12_butt_62 rfl ?_
    refine aj.rCall1 (d' := 6) (As := [.int 1]) (rest := []) hR dX12_butt_63 v_X12_161 li_X12_eats rfl rfl rfl (Nat.le_of_ble_eq_true rfl) (Nat.le_of_ble_eq_true rfl) (r_eats hG hC 1 rfl (by decide) (by decide) hR) (fun M hR => ?_)
    refine aj.if_neB (tgt := 74) dX12_butt_66 rfl (fun c66 => ?_) (fun c66 => ?_)
    · rw [if_pos c66] at hR
      have e9 : dSt1 tx n = pNext (pNext (.inr ([], lx tx n 0))) := by show pExp 1 (pExp 0 _) = _; rw [pExp_y c58, pExp_y c66]
      rw [← e9] at hR
      exact j74 M hR
    · rw [if_neg c66] at hR
      refine aj.aload_n dX12_butt_69 rfl ?_
      refine aj.iconst (v := 2) dX12_butt_70 rfl ?_
      refine aj.rCall0 (d' := 0) (As := [.int 2]) (rest := []) hR dX12_butt_71 v_X12_138 li_X12_fails rfl rfl rfl (Nat.le_of_ble_eq_true rfl) (Nat.le_of_ble_eq_true rfl) (r_fails 2 rfl (by decide) hR) (fun M hR => ?_)
      have e9 : dSt1 tx n = pFail 2 (pNext (.inr ([], lx tx n 0))) := by show pExp 1 (pExp 0 _) = _; rw [pExp_y c58, pExp_n c66]
      rw [← e9] at hR
      exact j74 M hR
theorem q_butt {G : zG} {l : Launch} {b : Nat} {M0 M : zM} {I : Nat → Int32} {A : Nat → Nat → Int32} {L : Nat → Nat → Int64} {av : Nat → Nat} {fm : Nat} (hG : zSt G av fm) (x : Int32) (tx : Nat → Nat) (hM : mW b M0 M I A L) (h5 : bd (I 5) 900) (htx : ∀ k, k < 900 → A 3 k = nI (tx k)) (hb : ∀ k, tx k < 256) : am G l kX12_butt 65 [.ref b, .int x] M 0 0 (zr (.int (if inR x 0 (mN (I 5)) then dRes (dRun tx (mN x)) else -3)) (fun M' => if inR x 0 (mN (I 5)) then rE b M0 M' (va_up I 5 0) A L (dRun tx (mN x)) else mW b M0 M' I A L)) := by
  obtain ⟨u, v, w, hA⟩ := hM
  have h5t : (I 5).toInt64.toInt = ((mN (I 5) : Nat) : Int) := by
    have h1 := h5.1
    have h2 := h5.2
    rw [z_i64, h1, nI_toInt (by omega), mN_nI (by omega)]
  refine am.of (by decide) (Nat.le_of_ble_eq_true rfl) ?_
  refine aj.aload_n dX12_butt_0 rfl ?_
  refine aj.iconst (v := 0) dX12_butt_1 rfl ?_
  refine pM0 rfl dX12_butt_2 hA (fun M hA => ?_)
  refine aj.iload_n dX12_butt_5 rfl ?_
  refine aj.i2l dX12_butt_6 ?_
  refine aj.lconst (v := 0) dX12_butt_7 rfl ?_
  refine aj.aload_n dX12_butt_8 rfl ?_
  refine gM5 rfl dX12_butt_9 hA ?_
  refine aj.i2l dX12_butt_12 ?_
  refine aj.callS1 (d' := 0) (As := [.long (Int32.toInt64 x), .long 0, .long (Int32.toInt64 (I 5))]) (rest := []) dX12_butt_13 v_X12_142 w1380 rfl rfl (Nat.le_of_ble_eq_true rfl) (Nat.le_of_ble_eq_true rfl) (c_withinI (a := 0) _ x 0 _ rfl h5t) (fun M hM => ?_)
  subst hM
  refine aj.if_neB (tgt := 22) dX12_butt_16 rfl (fun c16 => ?_) (fun c16 => ?_)
  · refine aj.aload_n dX12_butt_22 rfl ?_
    refine aj.iload_n dX12_butt_23 rfl ?_
    refine pM8 rfl dX12_butt_24 hA (fun M hA => ?_)
    refine aj.aload_n dX12_butt_27 rfl ?_
    refine aj.iconst (v := 0) dX12_butt_28 rfl ?_
    refine pM5 rfl dX12_butt_29 hA (fun M hA => ?_)
    refine aj.aload_n dX12_butt_32 rfl ?_
    refine aj.iconst (v := 0) dX12_butt_33 rfl ?_
    refine pM7 rfl dX12_butt_34 hA (fun M hA => ?_)
    refine aj.aload_n dX12_butt_37 rfl ?_
    refine aj.iconst (v := 0) dX12_butt_38 rfl ?_
    refine pM11 rfl dX12_butt_39 hA (fun M hA => ?_)
    refine aj.aload_n dX12_butt_42 rfl ?_
    refine gM4 rfl dX12_butt_43 hA ?_
    refine aj.callS0 (d' := 0) (As := [.ref (b + 4)]) (rest := []) dX12_butt_46 v_X12_76 w1262 rfl rfl (Nat.le_of_ble_eq_true rfl) (Nat.le_of_ble_eq_true rfl) (c_plain (by decide) (by decide) hA.a4) (fun M hM => ?_)
    subst hM
    have hA := hA.s4 (plF (A 4))
    have h2 := h5.2
    have hx0 := c16.1
    have hx1 := c16.2
    have ex : x = nI (mN x) := by
      obtain ⟨a, ha, hxa⟩ := z_nat hx0 hx1 (by omega)
      rw [hxa, mN_nI (by omega)]
    have hn9 : mN x ≤ 900 := by
      obtain ⟨a, ha, hxa⟩ := z_nat hx0 hx1 (by omega)
      rw [hxa, mN_nI (by omega)]; omega
    have hJ8 : (va_up (va_up (va_up (va_up I 8 x) 5 0) 7 0) 11 0) 8 = nI (mN x) := ex
    have hC : rC tx (mN x) (va_up (va_up (va_up (va_up I 8 x) 5 0) 7 0) 11 0) (va_up A 4 (plF (A 4))) := ⟨hn9, htx, hb, hJ8⟩
    rw [if_pos c16]
    refine aj.mono ?_ (fun r M' hq => ⟨hq.1, by show (if inR x 0 _ then _ else _); rw [if_pos c16]; exact hq.2⟩) (Q' := zr (.int (dRes (dRun tx (mN x)))) (fun M' => rE b M0 M' (va_up I 5 0) A L (dRun tx (mN x))))
    refine aj.aload_n dX12_butt_49 rfl ?_
    refine aj.callV0 (d' := 5) (As := []) (rest := []) dX12_butt_50 v_X12_135 (li_X12_next) hA.1 rfl rfl rfl (Nat.le_of_ble_eq_true rfl) (Nat.le_of_ble_eq_true rfl) (c_next hG tx (mN x) hn9 hC.2.1 hb hJ8 0 rfl (Nat.zero_le _) ⟨_, _, _, hA⟩) (fun M hM => ?_)
    obtain ⟨I', hN, hM⟩ := hM
    have hR : rW b M0 M (va_up (va_up (va_up (va_up I 8 x) 5 0) 7 0) 11 0) (va_up A 4 (plF (A 4))) L tx (mN x) (.inr ([], lx tx (mN x) 0)) := ⟨I', _, hM, ⟨fun j h1 h2 h3 h4 h5 h6 => hN.2.2.2.2 j h1 h2 h3 h4, fun _ _ => rfl, fun _ _ => rfl⟩, (hN.2.2.2.2 11 (by decide) (by decide) (by decide) (by decide)), ⟨0, Nat.zero_le _, rfl, hN.1, hN.2.1, hN.2.2.1, hN.2.2.2.1⟩, by have := lx_len tx (mN x) (mN x) 0 (Nat.zero_le _) rfl; show 0 + _ ≤ _; omega, rfl, fun k hk => absurd hk (Nat.not_lt_zero k)⟩
    refine aj.mono (butt_mid hG hC M hR (fun k k1 k2 => if_pos (by omega)) rfl rfl) (fun r M' hq => ⟨hq.1, ?_⟩)
    obtain ⟨I2, A2, g1, g2, g3, g4, g5, g6, g7⟩ := hq.2
    exact ⟨I2, A2, g1, g2, g3, fun j hj => (g4 j hj).trans (by
      by_cases e5 : j = 5
      · subst e5; rfl
      · rw [va_up_ne _ _ (by omega), va_up_ne _ _ (by omega), va_up_ne _ _ e5, va_up_ne _ _ (by omega), va_up_ne _ _ e5]), fun j h1 h4 => (g5 j h1 h4).trans (va_up_ne _ _ h4), g6, g7⟩
  · refine aj.bipush (v := (-3)) dX12_butt_19 rfl ?_
    exact aj.iret rfl dX12_butt_21 ⟨by rw [if_neg c16], by show (if inR x 0 _ then _ else _); rw [if_neg c16]; exact ⟨_, _, _, hA⟩⟩
