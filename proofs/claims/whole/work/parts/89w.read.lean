def bF0 : Nat → Int32 := fun j => if j = 3 then 1 else if j < 5 then 10 else 0
theorem u_read {G : zG} {l : Launch} {a : Nat} {M0 M : zM} {V : Nat → Nat → Int32} {W : Nat → Nat → Int64} {R : Nat → Nat → Option Nat} {av : Nat → Nat} {fm : Nat} (hG : zSt G av fm) (hcl : zCl G) (ha : a + 87 ≤ M0.2) (n : Nat) {x_n : Int32} (e_n : x_n = nI n) {tx : Nat → Nat} (hn : n ≤ 900) (hTx : ∀ j, j < n → V 1 j = sb (tx j)) (hb : ∀ k, tx k < 256) (h22 : bd (V 2 2) 900) (hA : kA a M0 M V W R) : am G l kX5_read 61 [.ref (a + 2), .ref (a + 1), .int x_n] M 905 3620 (fun r M' => ∃ V1, r = some (rdV (dRun tx n) M0.2) ∧ uDc a M0 M' V1 W R (lx tx n 0) (dRun tx n) ∧ ∀ q, q ≠ 2 → q ≠ 3 → q ≠ 4 → V1 q = V q) := by
  obtain ⟨T, hTe⟩ : ∃ z, z = lx tx n 0 := ⟨_, rfl⟩
  have hTl : T.length ≤ 901 := by rw [hTe]; have := lx_len tx n n 0 (Nat.zero_le n) rfl; omega
  have hTk : tkOK T := by rw [hTe]; exact lx_OK tx n n 0 (Nat.zero_le n) rfl
  have hTv : ∀ t ∈ T, tkV t := by rw [hTe]; exact lx_V hn n 0 (Nat.zero_le n) rfl
  have hT0 : 0 < T.length := by obtain ⟨t, r, h1, -⟩ := lx_ne tx n 0; rw [hTe, h1]; exact Nat.succ_pos _
  have hv0 := hTv _ (List.getElem_mem hT0)
  have hcs : bcD (dStart tx n).1 ≤ 903 ∧ bsD (dStart tx n).1 ≤ 3605 ∧ pLen (dStart tx n).1 ≤ 900 := by
    have hS0 : pT (.inr ([], lx tx n 0)) := lx_OK tx n n 0 (Nat.zero_le n) rfl
    have g0 := (pExp_G (k := 0) (by decide) (by decide)).2 _ hS0
    have g1 := (pExp_G (k := 1) (by decide) (by decide)).2 _ g0.1
    have g2 := (pTake_G (lo := 0) (hi := 20)).2 _ g1.1
    have g3 := (pTake_G (lo := pNm (dSt1 tx n)) (hi := 20)).2 _ g2.1
    have g4 := (pExp_G (k := 30) (by decide) (by decide)).2 _ g3.1
    have hl : pLen (pExp 0 (.inr ([], lx tx n 0))) ≤ 900 := by
      rcases pExp_le 0 (by decide) (.inr ([], lx tx n 0)) with z | ⟨e, z⟩
      · have z2 : pLen (pExp 0 (.inr ([], lx tx n 0))) + 1 ≤ (lx tx n 0).length := z
        rw [hTe] at hTl
        omega
      · rw [z]
        exact Nat.zero_le _
    have h9 : pLen (dStart tx n).1 ≤ 900 := Nat.le_trans g4.2.2 (Nat.le_trans g3.2.2 (Nat.le_trans g2.2.2 (Nat.le_trans g1.2.2 hl)))
    have hb := bcD_le (dStart tx n).1
    omega
  refine am.of (by decide) (Nat.le_of_ble_eq_true rfl) ?_
  refine aj.aload_n dX5_read_0 rfl ?_
  refine aj.iconst (v := 0) dX5_read_1 rfl ?_
  refine pX5_fault (i := 2) rfl hA w176 dX5_read_2 (fun M hA => ?_)
  obtain ⟨V1, gV1_v, gV1_q, gV1_j, hA⟩ : ∃ z, z 2 4 = 0 ∧ (∀ q, q ≠ 2 → z q = V q) ∧ (∀ j, j ≠ 4 → z 2 j = V 2 j) ∧ kA a M0 M z W R := ⟨_, by rw [va_up_self, pk_us], fun q h => va_up_ne _ _ h, fun j h => by rw [va_up_self, pk_un h], hA⟩
  refine aj.aload_n dX5_read_5 rfl ?_
  refine aj.iconst (v := (-1)) dX5_read_6 rfl ?_
  refine pX5_place (i := 2) rfl hA w178 dX5_read_7 (fun M hA => ?_)
  obtain ⟨V2, gV2_v, gV2_q, gV2_j, hA⟩ : ∃ z, z 2 5 = -1 ∧ (∀ q, q ≠ 2 → z q = V1 q) ∧ (∀ j, j ≠ 5 → z 2 j = V1 2 j) ∧ kA a M0 M z W R := ⟨_, by rw [va_up_self, pk_us], fun q h => va_up_ne _ _ h, fun j h => by rw [va_up_self, pk_un h], hA⟩
  refine aj.aload_n dX5_read_10 rfl ?_
  refine gX5_tokens (i := 2) rfl hA w170 dX5_read_11 ?_
  refine aj.aload_n dX5_read_14 rfl ?_
  refine aj.iload_n dX5_read_15 rfl ?_
  refine aj.callE0 (d' := 5) (As := [.ref (a + 1), .int x_n]) (rest := []) dX5_read_16 v_X5_42 li_X9_scan ⟨_, hA.ob (i := 3) rfl (by decide)⟩ rfl rfl rfl (Nat.le_of_ble_eq_true rfl) (Nat.le_of_ble_eq_true rfl) (k_scan hG n e_n hn (fun j hj => by rw [gV2_q 1 (by decide), gV1_q 1 (by decide)]; exact hTx j hj) hb hA) (fun M hM => ?_)
  obtain ⟨V3, hA, hsc⟩ := hM
  rw [← hTe] at hsc
  refine aj.aload_n dX5_read_19 rfl ?_
  refine aj.iconst (v := 0) dX5_read_20 rfl ?_
  refine pX5_at (i := 2) rfl hA w171 dX5_read_21 (fun M hA => ?_)
  obtain ⟨V4, gV4_v, gV4_q, gV4_j, hA⟩ : ∃ z, z 2 0 = nI 0 ∧ (∀ q, q ≠ 2 → z q = V3 q) ∧ (∀ j, j ≠ 0 → z 2 j = V3 2 j) ∧ kA a M0 M z W R := ⟨_, by rw [va_up_self, pk_us]; exact rfl, fun q h => va_up_ne _ _ h, fun j h => by rw [va_up_self, pk_un h], hA⟩
  refine aj.aload_n dX5_read_24 rfl ?_
  refine aj.aload_n dX5_read_25 rfl ?_
  refine gX5_tokens (i := 2) rfl hA w170 dX5_read_26 ?_
  refine aj.iconst (v := 0) dX5_read_29 rfl ?_
  refine aj.callE1 (d' := 0) (As := [.int 0]) (rest := [.ref (a + 2)]) dX5_read_30 v_X5_46 li_X9_at ⟨_, hA.ob (i := 3) rfl (by decide)⟩ rfl rfl rfl (Nat.le_of_ble_eq_true rfl) (Nat.le_of_ble_eq_true rfl) (k_tkAt (v := ctk T[0]) (st := T[0].2.2) (by rw [gV4_q 3 (by decide)]; exact hsc.2.1) hTl 0 rfl hT0 (ctk_le hv0) (by have := hv0.2.2; omega) (by rw [gV4_q 4 (by decide)]; exact hsc.2.2 0 hT0) hA) (fun M hM => ?_)
  subst hM
  refine pX5_token (i := 2) rfl hA w172 dX5_read_33 (fun M hA => ?_)
  obtain ⟨V5, gV5_v, gV5_q, gV5_j, hA⟩ : ∃ z, z 2 1 = nI (ctk T[0]) ∧ (∀ q, q ≠ 2 → z q = V4 q) ∧ (∀ j, j ≠ 1 → z 2 j = V4 2 j) ∧ kA a M0 M z W R := ⟨_, by rw [va_up_self, pk_us], fun q h => va_up_ne _ _ h, fun j h => by rw [va_up_self, pk_un h], hA⟩
  have e3 : ∀ q, q ≠ 2 → V5 q = V3 q := fun q q2 => by rw [gV5_q q q2, gV4_q q q2]
  have e2 : ∀ j, j ≠ 0 → j ≠ 1 → V5 2 j = V2 2 j := fun j j0 j1 => by rw [gV5_j j j1, gV4_j j j0, hsc.1 2 (by decide) (by decide)]
  have hC : uC V5 T := ⟨hTl, by rw [e3 3 (by decide)]; exact hsc.2.1, fun i hi => by rw [e3 4 (by decide)]; exact hsc.2.2 i hi, hTv, hTk⟩
  have hVq : ∀ q, q ≠ 2 → q ≠ 3 → q ≠ 4 → V5 q = V q := fun q q2 q3 q4 => by rw [e3 q q2, hsc.1 q q3 q4, gV2_q q q2, gV1_q q q2]
  have h225 : bd (V5 2 2) 900 := by rw [e2 2 (by decide) (by decide), gV2_j 2 (by decide), gV1_j 2 (by decide)]; exact h22
  refine aj.more (bc' := bcD (dStart tx n).1 + 1 + 1) (bs' := bsD (dStart tx n).1 + 4 + 11) (by omega) (by omega) ?_
  refine aj.new (ci := 0) (cq := (RX0, TX0, 11)) (fs := [.int 0, .int 0, .int 0, .int 0, .int 0, .int 0, .int 0, .int 0, .null, .null, .null]) dX5_read_36 rfl w578 w198 w123 (by decide) ?_
  have hNs : nB M0.2 M (z_nw M (.inr (0, [.int 0, .int 0, .int 0, .int 0, .int 0, .int 0, .int 0, .int 0, .null, .null, .null]))) 0 [.inr (0, [.int 0, .int 0, .int 0, .int 0, .int 0, .int 0, .int 0, .int 0, .null, .null, .null])] (.inr (0, [.int 0, .int 0, .int 0, .int 0, .int 0, .int 0, .int 0, .int 0, .null, .null, .null])) [] := nB_start hA.1
  rw [hA.1]
  refine aj.dup dX5_read_39 rfl ?_
  refine aj.callIN (d' := 1) (kc := 1) (ks := 4) (As := []) (rest := [.ref M0.2]) dX5_read_40 v_X5_51 rfl w200 rfl rfl rfl (Nat.le_of_ble_eq_true rfl) (Nat.le_of_ble_eq_true rfl) (k_buttInit (b := M0.2) (i := 0) hNs) (fun r M hM => ?_)
  obtain ⟨rfl, hN⟩ := hM
  refine aj.tr ?_
  obtain ⟨M1, hA, hM12, hM1, hM1c, hM1x, hM1n⟩ := nB_kA hA ha hN
  have hK : bK M0 M1 V5 V5 bF0 (fun _ => 0) none none := ⟨fun _ _ => rfl, hM1c, hM1x 0 (by decide), hM1, by rw [hM12]; exact Nat.le_refl _, hM1n⟩
  have hR : uW a M1 (trM M) V5 W R T False (.inr ([], T)) := ⟨V5, hA, fun _ _ _ => rfl, rfl, h225, by rw [e2 4 (by decide) (by decide), gV2_j 4 (by decide)]; exact gV1_v, by rw [e2 5 (by decide) (by decide)]; exact gV2_v, ⟨0, hT0, rfl, by rw [gV5_j 0 (by decide)]; exact gV4_v, gV5_v⟩, by show 0 + T.length ≤ 901; omega, fun z => z.elim⟩
  obtain ⟨M, hMe⟩ : ∃ z, z = trM M := ⟨_, rfl⟩
  rw [← hMe] at hR ⊢
  rw [hTe] at hR
  rw [hTe] at hC
  refine aj.astore_n (lv' := [(3, .ref M0.2), (0, .ref (a + 2)), (1, .ref (a + 1)), (2, .int x_n)]) dX5_read_43 (Nat.le_of_ble_eq_true rfl) rfl ?_
  refine aj.aload_n dX5_read_44 rfl ?_
  refine aj.sipush (v := 1000) dX5_read_45 rfl ?_
  refine aj.uC0 (d' := 2) (As := [.int 1000]) (rest := []) hR dX5_read_48 v_X5_52 li_X5_take rfl rfl rfl (Nat.le_of_ble_eq_true rfl) (Nat.le_of_ble_eq_true rfl) (u_take hC 0 kx0 (by decide) (by decide) (by decide) hR) (fun M hR => ?_)
  have hh48 := hR.hd hC
  refine aj.aload_n dX5_read_51 rfl ?_
  refine aj.sipush (v := 1001) dX5_read_52 rfl ?_
  refine aj.uC0 (d' := 2) (As := [.int 1001]) (rest := []) hR dX5_read_55 v_X5_52 li_X5_take rfl rfl rfl (Nat.le_of_ble_eq_true rfl) (Nat.le_of_ble_eq_true rfl) (u_take hC 1 kx1 (by decide) (by decide) (by decide) hR) (fun M hR => ?_)
  have hh55 := hR.hd hC
  refine aj.aload_n dX5_read_58 rfl ?_
  refine aj.aload_n dX5_read_59 rfl ?_
  refine aj.iconst (v := 0) dX5_read_60 rfl ?_
  refine aj.bipush (v := 20) dX5_read_61 rfl ?_
  refine aj.uCX (d' := 2) (As := [.int 0, .int 20]) (rest := [.ref M0.2]) hR dX5_read_63 v_X5_56 li_X5_takeNumber rfl rfl rfl (Nat.le_of_ble_eq_true rfl) (Nat.le_of_ble_eq_true rfl) (u_takeNumber hC 0 20 (fun _ => ⟨rfl, by decide⟩) rfl (by decide) hR) (fun x M hR => ?_)
  obtain ⟨hx0, hR⟩ := hR
  obtain ⟨y0, hy0⟩ : ∃ z, z = x := ⟨_, rfl⟩
  rw [← hy0] at hx0
  rw [← hy0]
  refine aj.bP0 hK hR ha w204 dX5_read_66 (fun M1 M hK hR hrb0 => ?_)
  refine aj.aload_n dX5_read_69 rfl ?_
  refine aj.aload_n dX5_read_70 rfl ?_
  refine aj.aload_n dX5_read_71 rfl ?_
  refine aj.bG0 hK hR ha w204 dX5_read_72 ?_
  refine aj.bipush (v := 20) dX5_read_75 rfl ?_
  refine aj.uCX (d' := 2) (As := [.int y0, .int 20]) (rest := [.ref M0.2]) hR dX5_read_77 v_X5_56 li_X5_takeNumber rfl rfl rfl (Nat.le_of_ble_eq_true rfl) (Nat.le_of_ble_eq_true rfl) (u_takeNumber hC (pNm (dSt1 tx n)) 20 (fun h23 => by
          obtain ⟨cs, t, ts, z, -⟩ := pHd_in h23 (by decide)
          exact ⟨hx0 _ _ z, by have h9 : pNm (dSt1 tx n) < 1000 := hh55.2.1; omega⟩) rfl (by decide) hR) (fun x M hR => ?_)
  obtain ⟨hx1, hR⟩ := hR
  obtain ⟨y1, hy1⟩ : ∃ z, z = x := ⟨_, rfl⟩
  rw [← hy1] at hx1
  rw [← hy1]
  refine aj.bP1 hK hR ha w207 dX5_read_80 (fun M1 M hK hR hrb1 => ?_)
  refine aj.aload_n dX5_read_83 rfl ?_
  refine aj.sipush (v := 2059) dX5_read_84 rfl ?_
  refine aj.uC0 (d' := 2) (As := [.int 2059]) (rest := []) hR dX5_read_87 v_X5_52 li_X5_take rfl rfl rfl (Nat.le_of_ble_eq_true rfl) (Nat.le_of_ble_eq_true rfl) (u_take hC 30 kx30 (by decide) (by decide) (by decide) hR) (fun M hR => ?_)
  have hh87 := hR.hd hC
  refine aj.aload_n dX5_read_90 rfl ?_
  refine aj.iconst (v := 1) dX5_read_91 rfl ?_
  refine aj.bP6 hK hR ha w222 dX5_read_92 (fun M1 M hK hR hrb2 => ?_)
  refine aj.iconst (v := 0) dX5_read_95 rfl ?_
  refine aj.istore (lv' := [(4, .int 0), (3, .ref M0.2), (0, .ref (a + 2)), (1, .ref (a + 1)), (2, .int x_n)]) dX5_read_96 (Nat.le_of_ble_eq_true rfl) rfl ?_
  refine aj.pick [0, 1, 2] rfl ?_
  refine aj.mono (read_lp (Df := dRun tx n) hcl ha hC 900 0 (dStart tx n) M (by omega) hcs.2.2 (dOk_start tx n).1 rfl ⟨M1, V5, _, _, none, none, hK, hR, fun z => ?_⟩) (fun r M' hq => ⟨V5, hq.1, hq.2, hVq⟩)
  obtain ⟨cs, ts, z⟩ := z
  obtain ⟨cs2, ts2, z2⟩ := pExp_in (k := 30) (by decide) z
  have p2 := hx1 _ _ z2
  obtain ⟨-, -, -, cs1, ts1, z1⟩ := pTake_in z2
  have p1 := hx0 _ _ z1
  refine ⟨⟨p1, p2, rfl, rfl, rfl, rfl, rfl, rfl, fun s hs => ?_, Nat.zero_le _⟩, trivial, trivial⟩
  show (0 : Int32) = nI (nu (nu (nu dE0 1 _) 2 _) 0 _ (13 + s))
  rw [nu_n (by omega), nu_n (by omega), nu_n (by omega)]
  unfold dE0
  rw [nu_n (by omega), nu_n (by omega), nu_n (by omega), nu_n (by omega), nu_n (by omega)]
  rfl
