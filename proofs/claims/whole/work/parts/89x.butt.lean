/-- a memory without what lies below -/
def ab (t : Nat) (M : zM) : zM := (fun x => if x < t then none else M.1 x, M.2)
/-- behind a butt that was told: what the text is read to -/
def pE (a : Nat) (M0 M : zM) (V0 : Nat → Nat → Int32) (W0 : Nat → Nat → Int64) (R : Nat → Nat → Option Nat) (D : dT) : Prop := ∃ M1 V1 R1, kW a M1 M V1 W0 R1 ∧ (∀ x, x < M0.2 → M1.1 x = M0.1 x) ∧ M0.2 ≤ M1.2 ∧ (∀ x, M1.2 ≤ x → M1.1 x = none) ∧ V1 0 0 = 0 ∧ V1 0 1 = V0 0 1 ∧ V1 2 4 = nI (dFk D) ∧ V1 2 5 = dFp D ∧ bd (V1 2 2) 900 ∧ (∀ q, ¬ sc q → q ≠ 0 → q ≠ 2 → q ≠ 3 → q ≠ 4 → q ≠ 5 → q ≠ 8 → q ≠ 9 → q ≠ 10 → q ≠ 14 → V1 q = V0 q) ∧ ((∃ e, D.1 = .inl e) → R1 = R ∧ V1 8 = V0 8 ∧ V1 9 = V0 9 ∧ V1 10 = V0 10 ∧ V1 14 = V0 14) ∧ ((∃ cs ts, D.1 = .inr (cs, ts)) → R1 = va_up R 0 (va_up (R 0) 0 (some M0.2)) ∧ (∀ B : Nat → Int32, (∀ k, k < 29 → k < 7 ∨ 13 ≤ k → B k = nI (D.2.1 k)) → bW a (ab M0.2 M1) M0.2 B D.2.2.1 D.2.2.2) ∧ V1 8 0 = 0 ∧ V1 8 1 = nI (D.2.1 26) ∧ V1 8 2 = 0 ∧ (∀ j, V1 9 j = 0) ∧ (∀ j, V1 10 j = 0) ∧ V1 14 0 = V0 14 0 ∧ V1 14 1 = 0)
theorem lW.rb {a t : Nat} {M1 : zM} {p : Option Nat} {o : Option (List Nat)} (h : lW a (rb M1 t) p o) : lW a (ab t M1) p o := h.of (fun q _ hc => by
  obtain ⟨c', hc'⟩ := hc
  have hc2 : (if q < t + 2 then none else M1.1 q) = some c' := hc'
  show (if q < t then none else M1.1 q) = if q < t + 2 then none else M1.1 q
  by_cases e : q < t + 2
  · rw [if_pos e] at hc2
    cases hc2
  · rw [if_neg e, if_neg (by omega)])
theorem bK_bW {a : Nat} {M0 M1 : zM} {V0 V1 : Nat → Nat → Int32} {F g : Nat → Int32} {l1 l2 : Option Nat} {E : Nat → Nat} {sl ol : Option (List Nat)} {B : Nat → Int32} (ha : a + 87 ≤ M0.2) (hK : bK M0 M1 V0 V1 F g l1 l2) (hE : bE F g E) (h1 : lW a (rb M1 M0.2) l1 sl) (h2 : lW a (rb M1 M0.2) l2 ol) (hB : ∀ k, k < 29 → k < 7 ∨ 13 ≤ k → B k = nI (E k)) : bW a (ab M0.2 M1) M0.2 B sl ol := by
  obtain ⟨E0, E1, E2, E3, E4, E5, E6, E7, Eg, E64⟩ := hE
  refine ⟨M0.2 + 1, F 5, l1, l2, Or.inr (Or.inl (by omega)), Or.inr (Or.inl (by omega)), ?_, ⟨g, (if_neg (by omega)).trans hK.2.2.1, fun s hs => ?_⟩, h1.rb, h2.rb⟩
  · rw [hB 1 (by decide) (by decide), hB 2 (by decide) (by decide), hB 3 (by decide) (by decide), hB 4 (by decide) (by decide), hB 5 (by decide) (by decide), hB 0 (by decide) (by decide), hB 6 (by decide) (by decide), ← E0, ← E1, ← E2, ← E3, ← E4, ← E6, ← E7]
    exact (if_neg (by omega)).trans hK.2.1
  · show g s = B (13 + s)
    rw [Eg s hs, hB (13 + s) (by omega) (by omega)]
theorem p_butt {G : zG} {l : Launch} {a : Nat} {M0 M : zM} {V0 : Nat → Nat → Int32} {W0 : Nat → Nat → Int64} {R : Nat → Nat → Option Nat} {av : Nat → Nat} {fm : Nat} (hG : zSt G av fm) (hcl : zCl G) (ha : a + 87 ≤ M0.2) {tx : Nat → Nat} (x : Int32) (h5 : bd (V0 0 0) 900) (hTx : ∀ j, j < mN (V0 0 0) → V0 1 j = sb (tx j)) (hb : ∀ k, tx k < 256) (h22 : bd (V0 2 2) 900) (hM : kW a M0 M V0 W0 R) : am G l kX11_butt 62 [.ref a, .int x] M 905 3620 (zr (.int (if inR x 0 (mN (V0 0 0)) then dRes (dRun tx (mN x)) else -3)) (fun M' => if inR x 0 (mN (V0 0 0)) then pE a M0 M' V0 W0 R (dRun tx (mN x)) else kW a M0 M' V0 W0 R)) := by
  obtain ⟨V, W, hA, hv, hw⟩ := hM
  have hv0 : V 0 0 = nI (mN (V0 0 0)) := (congrFun (hv 0 (by decide)) 0).trans h5.1
  have h59 := h5.2
  have hin : inR x 0 (mN (V0 0 0)) ↔ (¬ x < 0 ∧ x ≤ V 0 0) := by
    rw [hv0]
    unfold inR
    rw [Int32.lt_iff_toInt_lt, Int32.le_iff_toInt_le, nI_toInt (by omega)]
    have : (0 : Int32).toInt = 0 := rfl
    omega
  refine am.of (by decide) (Nat.le_of_ble_eq_true rfl) ?_
  refine aj.iload_n dX11_butt_0 rfl ?_
  refine aj.if_lt (tgt := 12) dX11_butt_1 rfl (fun c1 => ?_) (fun c1 => ?_)
  · refine aj.bipush (v := (-3)) dX11_butt_12 rfl ?_
    exact aj.iret rfl dX11_butt_14 ⟨by rw [if_neg (fun z => (hin.mp z).1 c1)], by show (if inR x 0 _ then _ else _); rw [if_neg (fun z => (hin.mp z).1 c1)]; exact ⟨V, W, hA, hv, hw⟩⟩
  · refine aj.iload_n dX11_butt_4 rfl ?_
    refine aj.aload_n dX11_butt_5 rfl ?_
    refine gX11_taped (i := 0) rfl hA w376 dX11_butt_6 ?_
    refine aj.icmp_le (tgt := 15) dX11_butt_9 rfl (fun c9 => ?_) (fun c9 => ?_)
    · refine aj.aload_n dX11_butt_15 rfl ?_
      refine aj.iconst (v := 0) dX11_butt_16 rfl ?_
      refine pX11_taped (i := 0) rfl hA w376 dX11_butt_17 (fun M hA => ?_)
      obtain ⟨V1, gV1_v, gV1_q, gV1_j, hA⟩ : ∃ z, z 0 0 = 0 ∧ (∀ q, q ≠ 0 → z q = V q) ∧ (∀ j, j ≠ 0 → z 0 j = V 0 j) ∧ kA a M0 M z W R := ⟨_, by rw [va_up_self, pk_us], fun q h => va_up_ne _ _ h, fun j h => by rw [va_up_self, pk_un h], hA⟩
      refine aj.aload_n dX11_butt_20 rfl ?_
      refine gX11_reader (i := 0) rfl hA w377 dX11_butt_21 ?_
      refine aj.aload_n dX11_butt_24 rfl ?_
      refine gX11_tape (i := 0) rfl hA w375 dX11_butt_25 ?_
      refine aj.iload_n dX11_butt_28 rfl ?_
      have hxn : inR x 0 (mN (V0 0 0)) := hin.mpr ⟨c1, c9⟩
      have hx9 := inR_bd (n := 900) (x := x) (show inR x 0 900 from by unfold inR at hxn ⊢; omega) (by decide)
      have hxm : mN x ≤ mN (V0 0 0) := by
        have h1 := hxn.2
        rw [hx9.1, nI_toInt (by have := hx9.2; omega)] at h1
        omega
      refine aj.mono (Q' := zr (.int (dRes (dRun tx (mN x)))) (fun M' => pE a M0 M' V0 W0 R (dRun tx (mN x)))) ?_ (fun r M' hq => ⟨by rw [if_pos hxn]; exact hq.1, by show (if inR x 0 _ then _ else _); rw [if_pos hxn]; exact hq.2⟩)
      obtain ⟨D, hD⟩ : ∃ z, z = dRun tx (mN x) := ⟨_, rfl⟩
      have hrd := u_read (l := l) hG hcl ha (mN x) hx9.1 (tx := tx) (by omega) (fun j hj => by rw [gV1_q 1 (by decide), hv 1 (by decide)]; exact hTx j (by omega)) hb (by rw [gV1_q 2 (by decide), hv 2 (by decide)]; exact h22) hA
      rw [← hD] at hrd ⊢
      refine aj.more (bc' := 0 + 905) (bs' := 0 + 3620) (by omega) (by omega) ?_
      refine aj.callV (d' := 61) (kc := 905) (ks := 3620) (As := [.ref (a + 1), .int x]) (rest := []) dX11_butt_29 v_X11_102 li_X5_read (hA.ob (i := 2) rfl (by decide)) rfl rfl rfl (Nat.le_of_ble_eq_true rfl) (Nat.le_of_ble_eq_true rfl) hrd (fun r M hM => ?_)
      obtain ⟨V2, rfl, ⟨M1, V3, F, g, l1, l2, hK, ⟨V4, hA, hF4, h423, h422, hS4⟩, hI⟩, hV2⟩ := hM
      have hM1 := hK.2.2.2.2.1
      have hq4 : ∀ q, q ≠ 0 → q ≠ 2 → q ≠ 3 → q ≠ 4 → q ≠ 5 → V4 q = V q := fun q q0 q2 q3 q4 q5 => by rw [hF4 q q2 q5, hK.1 q q2, hV2 q q2 q3 q4, gV1_q q q0]
      have h40 : V4 0 0 = 0 ∧ V4 0 1 = V 0 1 := by rw [hF4 0 (by decide) (by decide), hK.1 0 (by decide), hV2 0 (by decide) (by decide) (by decide)]; exact ⟨gV1_v, gV1_j 1 (by decide)⟩
      have hvx : ∀ i, ¬ sc i → i ≠ 0 → i ≠ 2 → i ≠ 3 → i ≠ 4 → i ≠ 5 → V4 i = V0 i := fun i hi i0 i2 i3 i4 i5 => (hq4 i i0 i2 i3 i4 i5).trans (hv i hi)
      unfold rdV
      match hD1 : D.1 with
      | .inl e =>
        rw [hD1] at hS4
        show aj G l kX11_butt 62 _ _ [.null] _ 0 0 _
        refine aj.astore_nN (lv' := [(2, .null), (0, .ref a), (1, .int x)]) dX11_butt_32 (Nat.le_of_ble_eq_true rfl) rfl ?_
        refine aj.aload_nN dX11_butt_33 rfl ?_
        refine aj.ifnonnullN dX11_butt_34 ?_
        refine aj.bipush (v := (-30)) dX11_butt_37 rfl ?_
        refine aj.aload_n dX11_butt_39 rfl ?_
        refine gX11_reader (i := 0) rfl hA w377 dX11_butt_40 ?_
        refine gX5_fault (i := 2) rfl hA w177 dX11_butt_43 ?_
        refine aj.isub dX11_butt_46 ?_
        refine aj.iret rfl dX11_butt_47 ⟨by rw [hS4.1]; unfold dRes; rw [hD1], M1, V4, R, ⟨V4, W, hA, fun _ _ => rfl, hw⟩, hK.2.2.2.1, by omega, hK.2.2.2.2.2, h40.1, h40.2.trans (congrFun (hv 0 (by decide)) 1), ?_, ?_, h422, fun q qs q0 q2 q3 q4 q5 q8 q9 q10 q14 => ?_, fun _ => ⟨rfl, hvx 8 (by decide) (by decide) (by decide) (by decide) (by decide) (by decide), hvx 9 (by decide) (by decide) (by decide) (by decide) (by decide) (by decide), hvx 10 (by decide) (by decide) (by decide) (by decide) (by decide) (by decide), hvx 14 (by decide) (by decide) (by decide) (by decide) (by decide) (by decide)⟩, fun z => ?_⟩
        · unfold dFk; rw [hD1]; exact hS4.1
        · unfold dFp; rw [hD1]; exact hS4.2.2.1
        · exact hvx q qs q0 q2 q3 q4 q5
        · obtain ⟨cs, ts, z⟩ := z
          rw [hD1] at z
          cases z
      | .inr (cs, ts) =>
        rw [hD1] at hS4
        obtain ⟨hE, hl1, hl2⟩ := hI ⟨cs, ts, hD1⟩
        have hE5 := hE.2.2.2.2.2.1
        have hE6 := hE.2.2.2.2.2.2.1
        have ht : kOut a M0.2 := Or.inr (Or.inl (by omega))
        show aj G l kX11_butt 62 _ _ [.ref M0.2] _ 0 0 _
        refine aj.astore_n (lv' := [(2, .ref M0.2), (0, .ref a), (1, .int x)]) dX11_butt_32 (Nat.le_of_ble_eq_true rfl) rfl ?_
        refine aj.aload_n dX11_butt_33 rfl ?_
        refine aj.ifnonnull (tgt := 48) dX11_butt_34 rfl ?_
        refine aj.aload_n dX11_butt_48 rfl ?_
        refine aj.aload_n dX11_butt_49 rfl ?_
        refine pX11_target (i := 0) rfl hA w378 dX11_butt_50 (fun M hA => ?_)
        refine aj.aload_n dX11_butt_53 rfl ?_
        refine gX11_now (i := 0) rfl hA w379 dX11_butt_54 ?_
        refine aj.aload_n dX11_butt_57 rfl ?_
        refine aj.get (i := 5) (cq := (RX0, TX0, 11)) dX11_butt_58 ((hA.2.1 _ ht).trans hK.2.1) rfl (Nat.le_of_ble_eq_true rfl) w219 rfl ?_
        refine aj.callE0 (d' := 1) (As := [.int (F 5)]) (rest := []) dX11_butt_61 v_X11_112 li_X7_begin ⟨_, hA.ob (i := 8) rfl (by decide)⟩ rfl rfl rfl (Nat.le_of_ble_eq_true rfl) (Nat.le_of_ble_eq_true rfl) (k_stBegin (o := 8) ⟨rfl, rfl, rfl⟩ (F 5) hA) (fun M hM => ?_)
        have hA := hM
        refine aj.aload_n dX11_butt_64 rfl ?_
        refine gX11_history (i := 0) rfl hA w381 dX11_butt_65 ?_
        refine aj.callE0 (d' := 0) (As := []) (rest := []) dX11_butt_68 v_X11_115 li_X1_forget ⟨_, hA.ob (i := 14) rfl (by decide)⟩ rfl rfl rfl (Nat.le_of_ble_eq_true rfl) (Nat.le_of_ble_eq_true rfl) (k_forget hA) (fun M hM => ?_)
        have hA := hM
        refine aj.aload_n dX11_butt_71 rfl ?_
        refine aj.get (i := 6) (cq := (RX0, TX0, 11)) dX11_butt_72 ((hA.2.1 _ ht).trans hK.2.1) rfl (Nat.le_of_ble_eq_true rfl) w223 rfl ?_
        have hst : ∀ q, q < 8 ∨ 10 < q → stB V4 8 (F 5) q = V4 q := fun q hq => by unfold stB; rw [va_up_ne _ _ (by omega), va_up_ne _ _ (by omega), va_up_ne _ _ (by omega)]
        have hs14 : ∀ q, q ≠ 14 → va_up (stB V4 8 (F 5)) 14 (upd (stB V4 8 (F 5) 14) 1 0) q = stB V4 8 (F 5) q := fun q hq => va_up_ne _ _ hq
        have hs8 : ∀ j, stB V4 8 (F 5) 8 j = if j = 1 then F 5 else 0 := fun j => by unfold stB; rw [va_up_ne _ _ (by decide), va_up_ne _ _ (by decide), va_up_self]
        have hs9 : ∀ j, stB V4 8 (F 5) 9 j = 0 := fun j => by unfold stB; rw [va_up_ne _ _ (by decide), va_up_self]
        have hs10 : ∀ j, stB V4 8 (F 5) 10 j = 0 := fun j => by unfold stB; rw [va_up_self]
        refine aj.iret rfl dX11_butt_75 ⟨by rw [hE6]; unfold dRes; rw [hD1], M1, va_up (stB V4 8 (F 5)) 14 (upd (stB V4 8 (F 5) 14) 1 0), _, ⟨_, W, hA, fun _ _ => rfl, hw⟩, hK.2.2.2.1, by omega, hK.2.2.2.2.2, ?_, ?_, ?_, ?_, ?_, fun q qs q0 q2 q3 q4 q5 q8 q9 q10 q14 => ?_, fun z => ?_, fun _ => ⟨rfl, fun B hB => bK_bW ha hK hE hl1 hl2 hB, ?_, ?_, ?_, fun j => ?_, fun j => ?_, ?_, ?_⟩⟩
        · rw [hs14 0 (by decide), hst 0 (by decide)]; exact h40.1
        · rw [hs14 0 (by decide), hst 0 (by decide)]; exact h40.2.trans (congrFun (hv 0 (by decide)) 1)
        · rw [hs14 2 (by decide), hst 2 (by decide)]; unfold dFk; rw [hD1]; exact hS4.1
        · rw [hs14 2 (by decide), hst 2 (by decide)]; unfold dFp; rw [hD1]; exact hS4.2.1
        · rw [hs14 2 (by decide), hst 2 (by decide)]; exact h422
        · rw [hs14 q q14, hst q (by omega)]
          exact hvx q qs q0 q2 q3 q4 q5
        · obtain ⟨e, z⟩ := z
          rw [hD1] at z
          cases z
        · rw [hs14 8 (by decide)]; exact hs8 0
        · rw [hs14 8 (by decide), hs8 1]; exact hE5
        · rw [hs14 8 (by decide)]; exact hs8 2
        · rw [hs14 9 (by decide)]; exact hs9 j
        · rw [hs14 10 (by decide)]; exact hs10 j
        · rw [va_up_self, pk_un (by decide), hst 14 (by decide), hvx 14 (by decide) (by decide) (by decide) (by decide) (by decide) (by decide)]
        · rw [va_up_self, pk_us]
    · refine aj.bipush (v := (-3)) dX11_butt_12 rfl ?_
      exact aj.iret rfl dX11_butt_14 ⟨by rw [if_neg (fun z => c9 (hin.mp z).2)], by show (if inR x 0 _ then _ else _); rw [if_neg (fun z => c9 (hin.mp z).2)]; exact ⟨V, W, hA, hv, hw⟩⟩
