theorem kx0 : (1000 : Int32) = nI (kcd 0) := by decide +kernel
theorem kx1 : (1001 : Int32) = nI (kcd 1) := by decide +kernel
theorem kx2 : (1002 : Int32) = nI (kcd 2) := by decide +kernel
theorem kx3 : (1003 : Int32) = nI (kcd 3) := by decide +kernel
theorem kx4 : (1004 : Int32) = nI (kcd 4) := by decide +kernel
theorem kx5 : (1005 : Int32) = nI (kcd 5) := by decide +kernel
theorem kx6 : (1006 : Int32) = nI (kcd 6) := by decide +kernel
theorem kx7 : (1007 : Int32) = nI (kcd 7) := by decide +kernel
theorem kx8 : (1008 : Int32) = nI (kcd 8) := by decide +kernel
theorem kx9 : (1009 : Int32) = nI (kcd 9) := by decide +kernel
theorem kx10 : (1013 : Int32) = nI (kcd 10) := by decide +kernel
theorem kx11 : (1014 : Int32) = nI (kcd 11) := by decide +kernel
theorem kx12 : (1015 : Int32) = nI (kcd 12) := by decide +kernel
theorem kx13 : (1016 : Int32) = nI (kcd 13) := by decide +kernel
theorem kx14 : (1017 : Int32) = nI (kcd 14) := by decide +kernel
theorem kx15 : (1018 : Int32) = nI (kcd 15) := by decide +kernel
theorem kx16 : (1019 : Int32) = nI (kcd 16) := by decide +kernel
theorem kx17 : (1020 : Int32) = nI (kcd 17) := by decide +kernel
theorem kx18 : (1021 : Int32) = nI (kcd 18) := by decide +kernel
theorem kx19 : (1011 : Int32) = nI (kcd 19) := by decide +kernel
theorem kx20 : (1010 : Int32) = nI (kcd 20) := by decide +kernel
theorem kx21 : (1012 : Int32) = nI (kcd 21) := by decide +kernel
theorem kx24 : (4000 : Int32) = nI (kcd 24) := by decide +kernel
theorem kx25 : (3000 : Int32) = nI (kcd 25) := by decide +kernel
theorem kx30 : (2059 : Int32) = nI (kcd 30) := by decide +kernel
theorem kx31 : (2058 : Int32) = nI (kcd 31) := by decide +kernel
theorem kx32 : (2043 : Int32) = nI (kcd 32) := by decide +kernel
theorem kx33 : (2045 : Int32) = nI (kcd 33) := by decide +kernel
theorem kx34 : (2042 : Int32) = nI (kcd 34) := by decide +kernel
theorem kx35 : (2040 : Int32) = nI (kcd 35) := by decide +kernel
theorem kx36 : (2041 : Int32) = nI (kcd 36) := by decide +kernel
theorem kx37 : (2091 : Int32) = nI (kcd 37) := by decide +kernel
theorem kx38 : (2093 : Int32) = nI (kcd 38) := by decide +kernel
theorem kx39 : (2061 : Int32) = nI (kcd 39) := by decide +kernel
theorem kx40 : (2060 : Int32) = nI (kcd 40) := by decide +kernel
theorem kx41 : (2062 : Int32) = nI (kcd 41) := by decide +kernel
theorem pFail_hd (k : Nat) (S : pS) : pHd (pFail k S) = 99 := by
  obtain ⟨e, he⟩ := pFail_in k S
  rw [he]
  rfl
theorem pNext_fail (k : Nat) (S : pS) : pNext (pFail k S) = pFail k S := by
  obtain ⟨e, he⟩ := pFail_in k S
  rw [he]
  rfl
theorem u_take {G : zG} {l : Launch} {a : Nat} {M0 M : zM} {V0 : Nat → Nat → Int32} {W : Nat → Nat → Int64} {R : Nat → Nat → Option Nat} {T : List tkT} {tr : Prop} {S : pS} (hC : uC V0 T) (k : Nat) {x : Int32} (hx : x = nI (kcd k)) (hk : kvl k) (hk2 : k ≠ 23) (hk3 : k ≠ 24) (hR : uW a M0 M V0 W R T tr S) : am G l kX5_take 2 [.ref (a + 2), .int x] M 0 0 (zv (fun M' => uW a M0 M' V0 W R T tr (pExp k S))) := by
  have he := pTk_k hC hR hx hk hk2
  refine am.of (by decide) (Nat.le_of_ble_eq_true rfl) ?_
  refine aj.aload_n dX5_take_0 rfl ?_
  refine aj.uTok hR w172 dX5_take_1 ?_
  refine aj.iload_n dX5_take_4 rfl ?_
  refine aj.icmp_ne (tgt := 15) dX5_take_5 rfl (fun c5 => ?_) (fun c5 => ?_)
  · refine aj.aload_n dX5_take_15 rfl ?_
    refine aj.iconst (v := 2) dX5_take_16 rfl ?_
    refine aj.uC0 (d' := 1) (As := [.int 2]) (rest := []) hR dX5_take_17 v_X5_79 li_X5_fail rfl rfl rfl (Nat.le_of_ble_eq_true rfl) (Nat.le_of_ble_eq_true rfl) (u_fail hC 2 rfl (by decide) hR) (fun M hR => ?_)
    exact aj.vret rfl dX5_take_20 ⟨rfl, by rw [pExp_n (fun z => c5 (he.mpr z))]; exact hR⟩
  · refine aj.aload_n dX5_take_8 rfl ?_
    refine aj.uC0 (d' := 1) (As := []) (rest := []) hR dX5_take_9 v_X5_76 li_X5_step rfl rfl rfl (Nat.le_of_ble_eq_true rfl) (Nat.le_of_ble_eq_true rfl) (u_step hC (by rw [he.mp c5]; exact hk3) hR) (fun M hR => ?_)
    refine aj.goto (tgt := 20) dX5_take_12 rfl ?_
    exact aj.vret rfl dX5_take_20 ⟨rfl, by rw [pExp_y (he.mp c5)]; exact hR⟩
theorem u_isNumber {G : zG} {l : Launch} {a : Nat} {M0 M : zM} {V0 : Nat → Nat → Int32} {W : Nat → Nat → Int64} {R : Nat → Nat → Option Nat} {T : List tkT} {tr : Prop} {S : pS} (hC : uC V0 T) (hR : uW a M0 M V0 W R T tr S) : am G l kX5_isNumber 0 [.ref (a + 2)] M 0 0 (zr (.int (zb (pHd S = 23))) (fun M' => uW a M0 M' V0 W R T tr S)) := by
  have he := (pTk_rg hC hR).1
  refine am.of (by decide) (Nat.le_of_ble_eq_true rfl) ?_
  refine aj.aload_n dX5_isNumber_0 rfl ?_
  refine aj.uTok hR w172 dX5_isNumber_1 ?_
  refine aj.if_lt (tgt := 21) dX5_isNumber_4 rfl (fun c4 => ?_) (fun c4 => ?_)
  · refine aj.iconst (v := 0) dX5_isNumber_21 rfl ?_
    exact aj.zret (ty := .boolean) rfl rfl dX5_isNumber_22 ⟨by rw [zb_f (fun z => (he.mp z).1 c4)], hR⟩
  · refine aj.aload_n dX5_isNumber_7 rfl ?_
    refine aj.uTok hR w172 dX5_isNumber_8 ?_
    refine aj.sipush (v := 1000) dX5_isNumber_11 rfl ?_
    refine aj.icmp_ge (tgt := 21) dX5_isNumber_14 rfl (fun c14 => ?_) (fun c14 => ?_)
    · refine aj.iconst (v := 0) dX5_isNumber_21 rfl ?_
      exact aj.zret (ty := .boolean) rfl rfl dX5_isNumber_22 ⟨by rw [zb_f (fun z => (he.mp z).2 c14)], hR⟩
    · refine aj.iconst (v := 1) dX5_isNumber_17 rfl ?_
      refine aj.goto (tgt := 22) dX5_isNumber_18 rfl ?_
      exact aj.zret (ty := .boolean) rfl rfl dX5_isNumber_22 ⟨by rw [zb_t (he.mpr ⟨c4, c14⟩)], hR⟩
theorem u_takeNumber {G : zG} {l : Launch} {a : Nat} {M0 M : zM} {V0 : Nat → Nat → Int32} {W : Nat → Nat → Int64} {R : Nat → Nat → Option Nat} {T : List tkT} {tr : Prop} {S : pS} (hC : uC V0 T) (lo hi : Nat) {x_lo x_hi : Int32} (hlo : pHd S = 23 → x_lo = nI lo ∧ lo < 2 ^ 31) (ehi : x_hi = nI hi) (hhi : hi < 2 ^ 31) (hR : uW a M0 M V0 W R T tr S) : am G l kX5_takeNumber 2 [.ref (a + 2), .int x_lo, .int x_hi] M 0 0 (zx (fun x M' => (∀ cs ts, pTake lo hi S = .inr (cs, ts) → x = nI (pNm S)) ∧ uW a M0 M' V0 W R T tr (pTake lo hi S))) := by
  have hh0 := hR.hd hC
  have hnm := pTk_n hC hR
  refine am.of (by decide) (Nat.le_of_ble_eq_true rfl) ?_
  refine aj.aload_n dX5_takeNumber_0 rfl ?_
  refine aj.uTok hR w172 dX5_takeNumber_1 ?_
  refine aj.istore_n (lv' := [(3, .int (pTk S)), (0, .ref (a + 2)), (1, .int x_lo), (2, .int x_hi)]) dX5_takeNumber_4 (Nat.le_of_ble_eq_true rfl) rfl ?_
  refine aj.aload_n dX5_takeNumber_5 rfl ?_
  refine aj.uC1 (d' := 0) (As := []) (rest := []) hR dX5_takeNumber_6 v_X5_82 li_X5_isNumber rfl rfl rfl (Nat.le_of_ble_eq_true rfl) (Nat.le_of_ble_eq_true rfl) (u_isNumber hC hR) (fun M hR => ?_)
  refine aj.if_neB (tgt := 20) dX5_takeNumber_9 rfl (fun c9 => ?_) (fun c9 => ?_)
  · obtain ⟨elo, hlo2⟩ := hlo c9
    refine aj.iload_n dX5_takeNumber_20 rfl ?_
    refine aj.iload_n dX5_takeNumber_21 rfl ?_
    refine aj.icmp_ltN (a := pNm S) (b := lo) (tgt := 30) dX5_takeNumber_22 (hnm c9) elo (by omega) (by omega) rfl (fun c22 => ?_) (fun c22 => ?_)
    · refine aj.aload_n dX5_takeNumber_30 rfl ?_
      refine aj.iconst (v := 3) dX5_takeNumber_31 rfl ?_
      refine aj.uC0 (d' := 1) (As := [.int 3]) (rest := []) hR dX5_takeNumber_32 v_X5_79 li_X5_fail rfl rfl rfl (Nat.le_of_ble_eq_true rfl) (Nat.le_of_ble_eq_true rfl) (u_fail hC 3 rfl (by decide) hR) (fun M hR => ?_)
      refine aj.aload_n dX5_takeNumber_35 rfl ?_
      refine aj.uC0 (d' := 1) (As := []) (rest := []) hR dX5_takeNumber_36 v_X5_76 li_X5_step rfl rfl rfl (Nat.le_of_ble_eq_true rfl) (Nat.le_of_ble_eq_true rfl) (u_step hC (by rw [pFail_hd]; decide) hR) (fun M hR => ?_)
      refine aj.iload_n dX5_takeNumber_39 rfl ?_
      have hno : ¬ (lo ≤ pNm S ∧ pNm S ≤ hi) := by omega
      exact aj.iret rfl dX5_takeNumber_40 ⟨_, rfl, fun _ _ z => (pFail_no ((pTake_n c9 hno).symm.trans z)).elim, by rw [pTake_n c9 hno]; rw [pNext_fail] at hR; exact hR⟩
    · refine aj.iload_n dX5_takeNumber_25 rfl ?_
      refine aj.iload_n dX5_takeNumber_26 rfl ?_
      refine aj.icmp_leN (a := pNm S) (b := hi) (tgt := 35) dX5_takeNumber_27 (hnm c9) ehi (by omega) (by omega) rfl (fun c27 => ?_) (fun c27 => ?_)
      · refine aj.aload_n dX5_takeNumber_35 rfl ?_
        refine aj.uC0 (d' := 1) (As := []) (rest := []) hR dX5_takeNumber_36 v_X5_76 li_X5_step rfl rfl rfl (Nat.le_of_ble_eq_true rfl) (Nat.le_of_ble_eq_true rfl) (u_step hC (by omega) hR) (fun M hR => ?_)
        refine aj.iload_n dX5_takeNumber_39 rfl ?_
        have hyes : lo ≤ pNm S ∧ pNm S ≤ hi := by omega
        exact aj.iret rfl dX5_takeNumber_40 ⟨_, rfl, fun _ _ _ => hnm c9, by rw [pTake_y c9 hyes]; exact hR⟩
      · refine aj.aload_n dX5_takeNumber_30 rfl ?_
        refine aj.iconst (v := 3) dX5_takeNumber_31 rfl ?_
        refine aj.uC0 (d' := 1) (As := [.int 3]) (rest := []) hR dX5_takeNumber_32 v_X5_79 li_X5_fail rfl rfl rfl (Nat.le_of_ble_eq_true rfl) (Nat.le_of_ble_eq_true rfl) (u_fail hC 3 rfl (by decide) hR) (fun M hR => ?_)
        refine aj.aload_n dX5_takeNumber_35 rfl ?_
        refine aj.uC0 (d' := 1) (As := []) (rest := []) hR dX5_takeNumber_36 v_X5_76 li_X5_step rfl rfl rfl (Nat.le_of_ble_eq_true rfl) (Nat.le_of_ble_eq_true rfl) (u_step hC (by rw [pFail_hd]; decide) hR) (fun M hR => ?_)
        refine aj.iload_n dX5_takeNumber_39 rfl ?_
        have hno : ¬ (lo ≤ pNm S ∧ pNm S ≤ hi) := by omega
        exact aj.iret rfl dX5_takeNumber_40 ⟨_, rfl, fun _ _ z => (pFail_no ((pTake_n c9 hno).symm.trans z)).elim, by rw [pTake_n c9 hno]; rw [pNext_fail] at hR; exact hR⟩
  · refine aj.aload_n dX5_takeNumber_12 rfl ?_
    refine aj.iconst (v := 2) dX5_takeNumber_13 rfl ?_
    refine aj.uC0 (d' := 1) (As := [.int 2]) (rest := []) hR dX5_takeNumber_14 v_X5_79 li_X5_fail rfl rfl rfl (Nat.le_of_ble_eq_true rfl) (Nat.le_of_ble_eq_true rfl) (u_fail hC 2 rfl (by decide) hR) (fun M hR => ?_)
    refine aj.goto (tgt := 35) dX5_takeNumber_17 rfl ?_
    refine aj.aload_n dX5_takeNumber_35 rfl ?_
    refine aj.uC0 (d' := 1) (As := []) (rest := []) hR dX5_takeNumber_36 v_X5_76 li_X5_step rfl rfl rfl (Nat.le_of_ble_eq_true rfl) (Nat.le_of_ble_eq_true rfl) (u_step hC (by rw [pFail_hd]; decide) hR) (fun M hR => ?_)
    refine aj.iload_n dX5_takeNumber_39 rfl ?_
    exact aj.iret rfl dX5_takeNumber_40 ⟨_, rfl, fun _ _ z => (pFail_no ((pTake_f c9).symm.trans z)).elim, by rw [pTake_f c9]; rw [pNext_fail] at hR; exact hR⟩
theorem u_goes {G : zG} {l : Launch} {a : Nat} {M0 M : zM} {V0 : Nat → Nat → Int32} {W : Nat → Nat → Int64} {R : Nat → Nat → Option Nat} {T : List tkT} {tr : Prop} {S : pS} (hC : uC V0 T) (r : Nat) {x : Int32} (ex : x = nI (6 - r)) (hr : r ≤ 6) {k : Nat} (hh : pHd S = k) (hk2 : k ≠ 24) (hR : uW a M0 M V0 W R T tr S) : am G l kX5_goesWithin 2 [.ref (a + 2), .int x] M 0 0 (zr (.int (zb (¬ r = 0))) (fun M' => uW a M0 M' V0 W R T tr (pGo r S))) := by
  refine am.of (by decide) (Nat.le_of_ble_eq_true rfl) ?_
  refine aj.iload_n dX5_goesWithin_0 rfl ?_
  refine aj.bipush (v := 6) dX5_goesWithin_1 rfl ?_
  refine aj.icmp_ltN (a := 6 - r) (b := 6) (tgt := 13) dX5_goesWithin_3 ex rfl (by omega) (by omega) rfl (fun c3 => ?_) (fun c3 => ?_)
  · refine aj.aload_n dX5_goesWithin_13 rfl ?_
    refine aj.uC0 (d' := 1) (As := []) (rest := []) hR dX5_goesWithin_14 v_X5_76 li_X5_step rfl rfl rfl (Nat.le_of_ble_eq_true rfl) (Nat.le_of_ble_eq_true rfl) (u_step hC (by omega) hR) (fun M hR => ?_)
    refine aj.iconst (v := 1) dX5_goesWithin_17 rfl ?_
    exact aj.zret (ty := .boolean) rfl rfl dX5_goesWithin_18 ⟨by rw [zb_t (by omega)], by unfold pGo; rw [if_neg (by omega)]; exact hR⟩
  · refine aj.aload_n dX5_goesWithin_6 rfl ?_
    refine aj.iconst (v := 4) dX5_goesWithin_7 rfl ?_
    refine aj.uC0 (d' := 1) (As := [.int 4]) (rest := []) hR dX5_goesWithin_8 v_X5_79 li_X5_fail rfl rfl rfl (Nat.le_of_ble_eq_true rfl) (Nat.le_of_ble_eq_true rfl) (u_fail hC 4 rfl (by decide) hR) (fun M hR => ?_)
    refine aj.iconst (v := 0) dX5_goesWithin_11 rfl ?_
    exact aj.zret (ty := .boolean) rfl rfl dX5_goesWithin_12 ⟨by rw [zb_f (by omega)], by unfold pGo; rw [if_pos (by omega)]; exact hR⟩
theorem u_put {G : zG} {l : Launch} {a : Nat} {M0 M : zM} {V0 : Nat → Nat → Int32} {W : Nat → Nat → Int64} {R : Nat → Nat → Option Nat} {T : List tkT} {S : pS} (k : Nat) {x : Int32} (ex : x = enc k) (hs : pSz S ≤ 900) (hT : pT S) (hR : uW a M0 M V0 W R T True S) : am G l kX5_put 0 [.ref (a + 2), .int x] M 0 0 (zv (fun M' => uW a M0 M' V0 W R T True (pPush k S))) := by
  obtain ⟨V, hA, hF, h23, h22, hS⟩ := hR
  obtain ⟨m, hm, hm9⟩ : ∃ m, V 2 2 = nI m ∧ m ≤ 900 := ⟨_, h22.1, h22.2⟩
  refine am.of (by decide) (Nat.le_of_ble_eq_true rfl) ?_
  match S, hS, hs, hT with
  | .inl e, hS, hs, hT =>
    refine aj.aload_n dX5_put_0 rfl ?_
    refine gX5_stepCount (i := 2) rfl hA w174 dX5_put_1 ?_
    refine aj.aload_n dX5_put_4 rfl ?_
    refine gX5_steps (i := 2) rfl hA w173 dX5_put_5 ?_
    refine aj.kN (i := 5) (n := 900) (v := nI 900) rfl (by decide) (by decide) dX5_put_8 hA rfl ?_
    refine aj.icmp_geN (a := m) (b := 900) (tgt := 32) dX5_put_9 hm rfl (by omega) (by omega) rfl (fun c9 => ?_) (fun c9 => ?_)
    · exact aj.vret rfl dX5_put_32 ⟨rfl, V, hA, hF, h23, h22, hS⟩
    · refine aj.aload_n dX5_put_12 rfl ?_
      refine gX5_steps (i := 2) rfl hA w173 dX5_put_13 ?_
      refine aj.aload_n dX5_put_16 rfl ?_
      refine gX5_stepCount (i := 2) rfl hA w174 dX5_put_17 ?_
      refine aj.iload_n dX5_put_20 rfl ?_
      refine aj.kS (i := 5) (j := m) rfl dX5_put_21 hA hm (by omega) (by decide) (fun M hA => ?_)
      obtain ⟨V1, h15, hq1, hA⟩ : ∃ z, z 5 = upd (V 5) m x ∧ (∀ q, q ≠ 5 → z q = V q) ∧ kA a M0 M z W R := ⟨_, va_up_self _ _ _, fun q h => va_up_ne _ _ h, hA⟩
      refine aj.aload_n dX5_put_22 rfl ?_
      refine aj.dup dX5_put_23 rfl ?_
      refine gX5_stepCount (i := 2) rfl hA w174 dX5_put_24 ?_
      refine aj.iconst (v := 1) dX5_put_27 rfl ?_
      refine aj.iaddN (a := m) (b := 1) dX5_put_28 ((congrFun (hq1 2 (by decide)) 2).trans hm) rfl ?_
      refine pX5_stepCount (i := 2) rfl hA w174 dX5_put_29 (fun M hA => ?_)
      obtain ⟨V2, gV2_v, gV2_q, gV2_j, hA⟩ : ∃ z, z 2 2 = nI (m + 1) ∧ (∀ q, q ≠ 2 → z q = V1 q) ∧ (∀ j, j ≠ 2 → z 2 j = V1 2 j) ∧ kA a M0 M z W R := ⟨_, by rw [va_up_self, pk_us], fun q h => va_up_ne _ _ h, fun j h => by rw [va_up_self, pk_un h], hA⟩
      exact aj.vret rfl dX5_put_32 ⟨rfl, V2, hA, fun q q2 q5 => by rw [gV2_q q q2, hq1 q q5]; exact hF q q2 q5, by rw [gV2_j 3 (by decide), hq1 2 (by decide)]; exact h23, ⟨by rw [gV2_v, mN_nI (by omega)], by rw [gV2_v, mN_nI (by omega)]; omega⟩, by rw [gV2_j 4 (by decide), hq1 2 (by decide)]; exact hS.1, hS.2.1, by rw [gV2_j 5 (by decide), hq1 2 (by decide)]; exact hS.2.2.1, by rw [gV2_j 1 (by decide), hq1 2 (by decide)]; exact hS.2.2.2⟩
  | .inr (cs, ts), hS, hs, hT =>
    obtain ⟨h4, h5, ⟨p, hp, rfl, h0, h1⟩, hsz, hcd⟩ := hS
    have hs2 : cs.length + (T.drop p).length ≤ 900 := hs
    have hl1 : 1 ≤ (T.drop p).length := by rw [List.length_drop]; omega
    have hme : m = cs.length := (nI_eq (by omega) (by omega)).mp (hm.symm.trans (hcd trivial).1)
    refine aj.aload_n dX5_put_0 rfl ?_
    refine gX5_stepCount (i := 2) rfl hA w174 dX5_put_1 ?_
    refine aj.aload_n dX5_put_4 rfl ?_
    refine gX5_steps (i := 2) rfl hA w173 dX5_put_5 ?_
    refine aj.kN (i := 5) (n := 900) (v := nI 900) rfl (by decide) (by decide) dX5_put_8 hA rfl ?_
    refine aj.icmp_geN (a := m) (b := 900) (tgt := 32) dX5_put_9 hm rfl (by omega) (by omega) rfl (fun c9 => ?_) (fun c9 => ?_)
    · exact absurd c9 (by omega)
    · refine aj.aload_n dX5_put_12 rfl ?_
      refine gX5_steps (i := 2) rfl hA w173 dX5_put_13 ?_
      refine aj.aload_n dX5_put_16 rfl ?_
      refine gX5_stepCount (i := 2) rfl hA w174 dX5_put_17 ?_
      refine aj.iload_n dX5_put_20 rfl ?_
      refine aj.kS (i := 5) (j := m) rfl dX5_put_21 hA hm (by omega) (by decide) (fun M hA => ?_)
      obtain ⟨V1, h15, hq1, hA⟩ : ∃ z, z 5 = upd (V 5) m x ∧ (∀ q, q ≠ 5 → z q = V q) ∧ kA a M0 M z W R := ⟨_, va_up_self _ _ _, fun q h => va_up_ne _ _ h, hA⟩
      refine aj.aload_n dX5_put_22 rfl ?_
      refine aj.dup dX5_put_23 rfl ?_
      refine gX5_stepCount (i := 2) rfl hA w174 dX5_put_24 ?_
      refine aj.iconst (v := 1) dX5_put_27 rfl ?_
      refine aj.iaddN (a := m) (b := 1) dX5_put_28 ((congrFun (hq1 2 (by decide)) 2).trans hm) rfl ?_
      refine pX5_stepCount (i := 2) rfl hA w174 dX5_put_29 (fun M hA => ?_)
      obtain ⟨V2, gV2_v, gV2_q, gV2_j, hA⟩ : ∃ z, z 2 2 = nI (m + 1) ∧ (∀ q, q ≠ 2 → z q = V1 q) ∧ (∀ j, j ≠ 2 → z 2 j = V1 2 j) ∧ kA a M0 M z W R := ⟨_, by rw [va_up_self, pk_us], fun q h => va_up_ne _ _ h, fun j h => by rw [va_up_self, pk_un h], hA⟩
      refine aj.vret rfl dX5_put_32 ⟨rfl, V2, hA, fun q q2 q5 => by rw [gV2_q q q2, hq1 q q5]; exact hF q q2 q5, by rw [gV2_j 3 (by decide), hq1 2 (by decide)]; exact h23, ⟨by rw [gV2_v, mN_nI (by omega)], by rw [gV2_v, mN_nI (by omega)]; omega⟩, ?_⟩
      refine ⟨by rw [gV2_j 4 (by decide), hq1 2 (by decide)]; exact h4, by rw [gV2_j 5 (by decide), hq1 2 (by decide)]; exact h5, ⟨p, hp, rfl, by rw [gV2_j 0 (by decide), hq1 2 (by decide)]; exact h0, by rw [gV2_j 1 (by decide), hq1 2 (by decide)]; exact h1⟩, ?_, fun _ => ⟨?_, fun j hj => ?_⟩⟩
      · rw [List.length_append]
        show cs.length + 1 + _ ≤ _
        omega
      · rw [gV2_v, List.length_append, hme]
        rfl
      · rw [gV2_q 5 (by decide), h15]
        by_cases e : j = cs.length
        · subst e
          rw [show upd (V 5) m x cs.length = x from by rw [hme]; exact pk_us, ex]
          exact congrArg enc (by rw [List.getElem_append_right (Nat.le_refl _)]; simp)
        · have hj' : j < cs.length := by rw [List.length_append] at hj; have hj2 : j < cs.length + 1 := hj; omega
          rw [pk_un (by omega), (hcd trivial).2 j hj']
          exact congrArg enc (by rw [List.getElem_append_left hj'])
