theorem c_withinN {G : zG} {l : Launch} (M : zM) (a lo hi : Nat) (ha : a < 2 ^ 31) (hlo : lo < 2 ^ 31) (hhi : hi < 2 ^ 31) : am G l kX12_within 0 [.long (lN a), .long (lN lo), .long (lN hi)] M 0 0 (zr (.int (zb (lo ≤ a ∧ a ≤ hi))) (fun M' => M' = M)) := by
  have h := c_within (G := G) (l := l) M (lN a) (lN lo) (lN hi)
  rw [zb_iff (show (lN lo ≤ lN a ∧ lN a ≤ lN hi) ↔ (lo ≤ a ∧ a ≤ hi) by rw [lN_le hlo ha, lN_le ha hhi])] at h
  exact h
theorem aj.rNmX {G : zG} {l : Launch} {k : zY} {d pc bc bs : Nat} {lv : List (Nat × Value)} {st : List Value} {M : zM} {Q : Option Value → zM → Prop} {b : Nat} {M0 : zM} {I0 : Nat → Int32} {A0 : Nat → Nat → Int32} {L : Nat → Nat → Int64} {tx : Nat → Nat} {n : Nat} {S : pS} (hk : k.1.cls = RX12) (hd : decode k.2.1 pc = .ok (.getfield 121, 3)) (hR : rW b M0 M I0 A0 L tx n S) (h : ∀ x : Int32, aj G l k d (pc + 3) lv (.int x :: st) M bc bs Q) : aj G l k d pc lv (.ref b :: st) M bc bs Q := by
  obtain ⟨I, A, ⟨u, v, w, hA⟩, hF, hS⟩ := hR
  exact gM10 hk hd hA (h _)
theorem pWr_f {k : Nat} {S : pS} {b : Nat} {M0 M : zM} {I0 : Nat → Int32} {A0 : Nat → Nat → Int32} {L : Nat → Nat → Int64} {tx : Nat → Nat} {n : Nat} (hR : rW b M0 M I0 A0 L tx n (pFail k S)) : pWr (pFail k S) ≠ 0 := by
  have hh := hR.hd
  obtain ⟨e, he⟩ := pFail_in k S
  exact fun z => absurd (hh.2.2.1.mp z) (by rw [he]; show ¬ 99 < 98; decide)
theorem pTake_f {lo hi : Nat} {S : pS} (h : ¬ pHd S = 23) : pTake lo hi S = pFail 2 S := if_neg h
theorem pTake_y {lo hi : Nat} {S : pS} (h : pHd S = 23) (h2 : lo ≤ pNm S ∧ pNm S ≤ hi) : pTake lo hi S = pNext S := by
  unfold pTake; rw [if_pos h, if_pos h2]
theorem pTake_n {lo hi : Nat} {S : pS} (h : pHd S = 23) (h2 : ¬ (lo ≤ pNm S ∧ pNm S ≤ hi)) : pTake lo hi S = pFail 3 S := by
  unfold pTake; rw [if_pos h, if_neg h2]
theorem pFail_no {k : Nat} {S : pS} {cs : List Nat} {ts : List tkT} (h : pFail k S = .inr (cs, ts)) : False := by
  obtain ⟨e, he⟩ := pFail_in k S
  rw [he] at h
  cases h
theorem r_takes {G : zG} {l : Launch} {b : Nat} {M0 M : zM} {I0 : Nat → Int32} {A0 : Nat → Nat → Int32} {L : Nat → Nat → Int64} {tx : Nat → Nat} {n : Nat} {S : pS} {av : Nat → Nat} {fm : Nat} (hG : zSt G av fm) (hC : rC tx n I0 A0) (lo hi : Nat) {x_lo x_hi : Int32} (hlo : pHd S = 23 → x_lo = nI lo ∧ lo < 2 ^ 31) (ehi : x_hi = nI hi) (hhi : hi < 2 ^ 31) (hR : rW b M0 M I0 A0 L tx n S) : am G l kX12_takes 6 [.ref b, .int x_lo, .int x_hi] M 0 0 (zx (fun x M' => (∀ cs ts, pTake lo hi S = .inr (cs, ts) → x = nI (pNm S)) ∧ rW b M0 M' I0 A0 L tx n (pTake lo hi S))) := by
  have hh0 := hR.hd
  refine am.of (by decide) (Nat.le_of_ble_eq_true rfl) ?_
  refine aj.aload_n dX12_takes_0 rfl ?_
  refine aj.bipush (v := 23) dX12_takes_1 rfl ?_
  refine aj.rCall1 (d' := 0) (As := [.int 23]) (rest := []) hR dX12_takes_3 v_X12_132 li_X12_is rfl rfl rfl (Nat.le_of_ble_eq_true rfl) (Nat.le_of_ble_eq_true rfl) (r_is 23 rfl (by decide) hR) (fun M hR => ?_)
  refine aj.if_neB (tgt := 17) dX12_takes_6 rfl (fun c6 => ?_) (fun c6 => ?_)
  · obtain ⟨elo, hlo2⟩ := hlo c6
    refine aj.aload_n dX12_takes_17 rfl ?_
    refine aj.rNm rfl dX12_takes_18 hR c6 ?_
    refine aj.i2lN (a := pNm S) dX12_takes_21 rfl (by omega) ?_
    refine aj.iload_n dX12_takes_22 rfl ?_
    refine aj.i2lN (a := lo) dX12_takes_23 elo (by omega) ?_
    refine aj.iload_n dX12_takes_24 rfl ?_
    refine aj.i2lN (a := hi) dX12_takes_25 ehi (by omega) ?_
    refine aj.callS1 (d' := 0) (As := [.long (lN (pNm S)), .long (lN lo), .long (lN hi)]) (rest := []) dX12_takes_26 v_X12_142 w1380 rfl rfl (Nat.le_of_ble_eq_true rfl) (Nat.le_of_ble_eq_true rfl) (c_withinN _ (pNm S) lo hi (by omega) (by omega) (by omega)) (fun M hM => ?_)
    subst hM
    refine aj.if_neB (tgt := 37) dX12_takes_29 rfl (fun c29 => ?_) (fun c29 => ?_)
    · refine aj.aload_n dX12_takes_37 rfl ?_
      refine aj.rNm rfl dX12_takes_38 hR c6 ?_
      refine aj.istore_n (lv' := [(3, .int (nI (pNm S))), (0, .ref b), (1, .int x_lo), (2, .int x_hi)]) dX12_takes_41 (Nat.le_of_ble_eq_true rfl) rfl ?_
      refine aj.aload_n dX12_takes_42 rfl ?_
      refine aj.rWr rfl dX12_takes_43 hR ?_
      refine aj.if_neN (a := pWr S) (tgt := 53) dX12_takes_46 rfl (by omega) rfl (fun c46 => ?_) (fun c46 => ?_)
      · exact absurd (hh0.2.2.1.mpr (by omega)) c46
      · refine aj.aload_n dX12_takes_49 rfl ?_
        refine aj.rCall0 (d' := 5) (As := []) (rest := []) hR dX12_takes_50 v_X12_135 li_X12_next rfl rfl rfl (Nat.le_of_ble_eq_true rfl) (Nat.le_of_ble_eq_true rfl) (r_next hG hC (c6) (by omega) (by omega) hR) (fun M hR => ?_)
        refine aj.iload_n dX12_takes_53 rfl ?_
        exact aj.iret rfl dX12_takes_54 ⟨_, rfl, fun _ _ _ => rfl, by rw [pTake_y c6 c29]; exact hR⟩
    · refine aj.aload_n dX12_takes_32 rfl ?_
      refine aj.iconst (v := 3) dX12_takes_33 rfl ?_
      refine aj.rCall0 (d' := 0) (As := [.int 3]) (rest := []) hR dX12_takes_34 v_X12_138 li_X12_fails rfl rfl rfl (Nat.le_of_ble_eq_true rfl) (Nat.le_of_ble_eq_true rfl) (r_fails 3 rfl (by decide) hR) (fun M hR => ?_)
      have hh1 := hR.hd
      refine aj.aload_n dX12_takes_37 rfl ?_
      refine aj.rNmX rfl dX12_takes_38 hR (fun x => ?_)
      refine aj.istore_n (lv' := [(3, .int x), (0, .ref b), (1, .int x_lo), (2, .int x_hi)]) dX12_takes_41 (Nat.le_of_ble_eq_true rfl) rfl ?_
      refine aj.aload_n dX12_takes_42 rfl ?_
      refine aj.rWr rfl dX12_takes_43 hR ?_
      refine aj.if_neN (a := pWr (pFail 3 S)) (tgt := 53) dX12_takes_46 rfl (by omega) rfl (fun c46 => ?_) (fun c46 => ?_)
      · refine aj.iload_n dX12_takes_53 rfl ?_
        exact aj.iret rfl dX12_takes_54 ⟨_, rfl, fun _ _ z => (pFail_no ((pTake_n c6 c29).symm.trans z)).elim, by rw [pTake_n c6 c29]; exact hR⟩
      · exact absurd c46 (pWr_f hR)
  · refine aj.aload_n dX12_takes_9 rfl ?_
    refine aj.iconst (v := 2) dX12_takes_10 rfl ?_
    refine aj.rCall0 (d' := 0) (As := [.int 2]) (rest := []) hR dX12_takes_11 v_X12_138 li_X12_fails rfl rfl rfl (Nat.le_of_ble_eq_true rfl) (Nat.le_of_ble_eq_true rfl) (r_fails 2 rfl (by decide) hR) (fun M hR => ?_)
    have hh1 := hR.hd
    refine aj.goto (tgt := 37) dX12_takes_14 rfl ?_
    refine aj.aload_n dX12_takes_37 rfl ?_
    refine aj.rNmX rfl dX12_takes_38 hR (fun x => ?_)
    refine aj.istore_n (lv' := [(3, .int x), (0, .ref b), (1, .int x_lo), (2, .int x_hi)]) dX12_takes_41 (Nat.le_of_ble_eq_true rfl) rfl ?_
    refine aj.aload_n dX12_takes_42 rfl ?_
    refine aj.rWr rfl dX12_takes_43 hR ?_
    refine aj.if_neN (a := pWr (pFail 2 S)) (tgt := 53) dX12_takes_46 rfl (by omega) rfl (fun c46 => ?_) (fun c46 => ?_)
    · refine aj.iload_n dX12_takes_53 rfl ?_
      exact aj.iret rfl dX12_takes_54 ⟨_, rfl, fun _ _ z => (pFail_no ((pTake_f c6).symm.trans z)).elim, by rw [pTake_f c6]; exact hR⟩
    · exact absurd c46 (pWr_f hR)
/-- a reading method's contract -/
def rKc (G : zG) (l : Launch) (b : Nat) (M0 : zM) (I0 : Nat → Int32) (A0 : Nat → Nat → Int32) (L : Nat → Nat → Int64) (tx : Nat → Nat) (n : Nat) (y : zY) (d r : Nat) (f : pS → pS) : Prop := ∀ (M : zM) (S : pS) (x : Int32), x = nI (6 - r) → pSz S ≤ n → rW b M0 M I0 A0 L tx n S → am G l y d [.ref b, .int x] M 0 0 (zv (fun M' => rW b M0 M' I0 A0 L tx n (f S)))
def rHc (G : zG) (l : Launch) (b : Nat) (M0 : zM) (I0 : Nat → Int32) (A0 : Nat → Nat → Int32) (L : Nat → Nat → Int64) (tx : Nat → Nat) (n : Nat) (st : Bool) (r : Nat) : Prop := rKc G l b M0 I0 A0 L tx n kX12_readSum (8 * r + 10) r (pSm st r) ∧ rKc G l b M0 I0 A0 L tx n kX12_readTruth (8 * r + 13) r (pTr st r) ∧ rKc G l b M0 I0 A0 L tx n kX12_readUnit (8 * r + 11) r (pUn st r)
theorem pExp_y {k : Nat} {S : pS} (h : pHd S = k) : pExp k S = pNext S := if_pos h
theorem pExp_n {k : Nat} {S : pS} (h : ¬ pHd S = k) : pExp k S = pFail 2 S := if_neg h
theorem pGo_0 {S : pS} : pGo 0 S = pFail 4 S := rfl
theorem pGo_s {r : Nat} {S : pS} : pGo (r + 1) S = pNext S := rfl
theorem pFail_lt {k : Nat} {S : pS} : pSz (pFail k S) ≤ 900 := by rw [(pFail_sz k S).1]; exact Nat.zero_le _
theorem r_readIf {G : zG} {l : Launch} {b : Nat} {M0 : zM} {I0 : Nat → Int32} {A0 : Nat → Nat → Int32} {L : Nat → Nat → Int64} {tx : Nat → Nat} {n : Nat} {av : Nat → Nat} {fm : Nat} (hG : zSt G av fm) (hC : rC tx n I0 A0) (st : Bool) (h15 : I0 15 = if st then 0 else 1) (r : Nat) (hr : r ≤ 6) (hin : ∀ q, r = q + 1 → rHc G l b M0 I0 A0 L tx n st q) {M : zM} {S : pS} {x : Int32} (ex : x = nI (6 - r)) (hh : pHd S = 10) (hs0 : pSz S ≤ n) (hR : rW b M0 M I0 A0 L tx n S) : am G l kX12_readIf (8 * r + 7) [.ref b, .int x] M 0 0 (zv (fun M' => rW b M0 M' I0 A0 L tx n (pPush 3009 (pExp 13 ((pLv st r).1 (pExp 12 ((pLv st r).1 (pExp 11 ((pLv st r).2.1 (pGo r S)))))))))) := by
  refine am.of (by decide) (Nat.le_of_ble_eq_true rfl) ?_
  have hT := hR.T
  refine aj.aload_n dX12_readIf_0 rfl ?_
  refine aj.iload_n dX12_readIf_1 rfl ?_
  refine aj.rCall1 (d' := 6) (As := [.int x]) (rest := []) hR dX12_readIf_2 v_X12_155 li_X12_goesIn rfl rfl rfl (Nat.le_of_ble_eq_true rfl) (by omega) (r_goesIn hG hC r ex hr (hh) (by decide) (by decide) hR) (fun M hR => ?_)
  refine aj.if_neB (tgt := 9) dX12_readIf_5 rfl (fun c5 => ?_) (fun c5 => ?_)
  · obtain ⟨q, rfl⟩ : ∃ q, r = q + 1 := ⟨r - 1, by omega⟩
    subst ex
    have hgT := pNext_lt hT hh (by decide) (by decide)
    have hz9 : pSz (pGo (q + 1) S) ≤ n := by show pSz (pNext S) ≤ n; omega
    have g1 := ((pExp_G (k := 11) (by decide) (by decide)).comp (pTr_G st q)).2 (pGo (q + 1) S) hgT.1
    have hz30 := Nat.le_trans g1.2.1 hz9
    have g2 := ((pExp_G (k := 12) (by decide) (by decide)).comp (pSm_G st q)).2 _ g1.1
    have hz51 := Nat.le_trans g2.2.1 hz30
    have g3 := ((pExp_G (k := 13) (by decide) (by decide)).comp (pSm_G st q)).2 _ g2.1
    have hz72 := Nat.le_trans g3.2.1 hz51
    have j72 : ∀ M : zM, rW b M0 M I0 A0 L tx n (pExp 13 (pSm st q (pExp 12 (pSm st q (pExp 11 (pTr st q (pGo (q + 1) S))))))) → aj G l kX12_readIf (8 * (q + 1) + 7) 72 [(0, .ref b), (1, .int (nI (6 - (q + 1))))] [] M 0 0 (zv (fun M' => rW b M0 M' I0 A0 L tx n (pPush 3009 (pExp 13 ((pLv st (q + 1)).1 (pExp 12 ((pLv st (q + 1)).1 (pExp 11 ((pLv st (q + 1)).2.1 (pGo (q + 1) S)))))))))) := by
      intro M hR
      refine aj.aload_n dX12_readIf_72 rfl ?_
      refine aj.sipush (v := 3009) dX12_readIf_73 rfl ?_
      refine aj.rCall0 (d' := 0) (As := [.int 3009]) (rest := []) hR dX12_readIf_76 v_X12_149 li_X12_codes rfl rfl rfl (Nat.le_of_ble_eq_true rfl) (by omega) (r_codes 3009 rfl hC.1 (hz72) hR) (fun M hR => ?_)
      exact aj.vret rfl dX12_readIf_79 ⟨rfl, hR⟩
    have j51 : ∀ M : zM, rW b M0 M I0 A0 L tx n (pExp 12 (pSm st q (pExp 11 (pTr st q (pGo (q + 1) S))))) → aj G l kX12_readIf (8 * (q + 1) + 7) 51 [(0, .ref b), (1, .int (nI (6 - (q + 1))))] [] M 0 0 (zv (fun M' => rW b M0 M' I0 A0 L tx n (pPush 3009 (pExp 13 ((pLv st (q + 1)).1 (pExp 12 ((pLv st (q + 1)).1 (pExp 11 ((pLv st (q + 1)).2.1 (pGo (q + 1) S)))))))))) := by
      intro M hR
      refine aj.aload_n dX12_readIf_51 rfl ?_
      refine aj.iload_n dX12_readIf_52 rfl ?_
      refine aj.iconst (v := 1) dX12_readIf_53 rfl ?_
      refine aj.iaddN (a := 6 - (q + 1)) (b := 1) dX12_readIf_54 rfl rfl ?_
      refine aj.rCall0 (d' := 8 * q + 10) (As := [.int (nI ((6 - (q + 1)) + 1))]) (rest := []) hR dX12_readIf_55 v_X12_158 li_X12_readSum rfl rfl rfl (Nat.le_of_ble_eq_true rfl) (by omega) ((hin q rfl).1 _ (pExp 12 (pSm st q (pExp 11 (pTr st q (pGo (q + 1) S))))) _ (by rw [(show nI ((6 - (q + 1)) + 1) = nI (6 - (q + 1) + 1) from rfl), show 6 - (q + 1) + 1 = 6 - q by omega]) hz51 hR) (fun M hR => ?_)
      refine aj.aload_n dX12_readIf_58 rfl ?_
      refine aj.bipush (v := 13) dX12_readIf_59 rfl ?_
      refine aj.rCall1 (d' := 6) (As := [.int 13]) (rest := []) hR dX12_readIf_61 v_X12_161 li_X12_eats rfl rfl rfl (Nat.le_of_ble_eq_true rfl) (by omega) (r_eats hG hC 13 rfl (by decide) (by decide) hR) (fun M hR => ?_)
      refine aj.if_neB (tgt := 72) dX12_readIf_64 rfl (fun c64 => ?_) (fun c64 => ?_)
      · rw [if_pos c64, ← pExp_y c64] at hR
        exact j72 M hR
      · rw [if_neg c64] at hR
        refine aj.aload_n dX12_readIf_67 rfl ?_
        refine aj.iconst (v := 2) dX12_readIf_68 rfl ?_
        refine aj.rCall0 (d' := 0) (As := [.int 2]) (rest := []) hR dX12_readIf_69 v_X12_138 li_X12_fails rfl rfl rfl (Nat.le_of_ble_eq_true rfl) (by omega) (r_fails 2 rfl (by decide) hR) (fun M hR => ?_)
        rw [← pExp_n c64] at hR
        exact j72 M hR
    have j30 : ∀ M : zM, rW b M0 M I0 A0 L tx n (pExp 11 (pTr st q (pGo (q + 1) S))) → aj G l kX12_readIf (8 * (q + 1) + 7) 30 [(0, .ref b), (1, .int (nI (6 - (q + 1))))] [] M 0 0 (zv (fun M' => rW b M0 M' I0 A0 L tx n (pPush 3009 (pExp 13 ((pLv st (q + 1)).1 (pExp 12 ((pLv st (q + 1)).1 (pExp 11 ((pLv st (q + 1)).2.1 (pGo (q + 1) S)))))))))) := by
      intro M hR
      refine aj.aload_n dX12_readIf_30 rfl ?_
      refine aj.iload_n dX12_readIf_31 rfl ?_
      refine aj.iconst (v := 1) dX12_readIf_32 rfl ?_
      refine aj.iaddN (a := 6 - (q + 1)) (b := 1) dX12_readIf_33 rfl rfl ?_
      refine aj.rCall0 (d' := 8 * q + 10) (As := [.int (nI ((6 - (q + 1)) + 1))]) (rest := []) hR dX12_readIf_34 v_X12_158 li_X12_readSum rfl rfl rfl (Nat.le_of_ble_eq_true rfl) (by omega) ((hin q rfl).1 _ (pExp 11 (pTr st q (pGo (q + 1) S))) _ (by rw [(show nI ((6 - (q + 1)) + 1) = nI (6 - (q + 1) + 1) from rfl), show 6 - (q + 1) + 1 = 6 - q by omega]) hz30 hR) (fun M hR => ?_)
      refine aj.aload_n dX12_readIf_37 rfl ?_
      refine aj.bipush (v := 12) dX12_readIf_38 rfl ?_
      refine aj.rCall1 (d' := 6) (As := [.int 12]) (rest := []) hR dX12_readIf_40 v_X12_161 li_X12_eats rfl rfl rfl (Nat.le_of_ble_eq_true rfl) (by omega) (r_eats hG hC 12 rfl (by decide) (by decide) hR) (fun M hR => ?_)
      refine aj.if_neB (tgt := 51) dX12_readIf_43 rfl (fun c43 => ?_) (fun c43 => ?_)
      · rw [if_pos c43, ← pExp_y c43] at hR
        exact j51 M hR
      · rw [if_neg c43] at hR
        refine aj.aload_n dX12_readIf_46 rfl ?_
        refine aj.iconst (v := 2) dX12_readIf_47 rfl ?_
        refine aj.rCall0 (d' := 0) (As := [.int 2]) (rest := []) hR dX12_readIf_48 v_X12_138 li_X12_fails rfl rfl rfl (Nat.le_of_ble_eq_true rfl) (by omega) (r_fails 2 rfl (by decide) hR) (fun M hR => ?_)
        rw [← pExp_n c43] at hR
        exact j51 M hR
    have j9 : ∀ M : zM, rW b M0 M I0 A0 L tx n (pGo (q + 1) S) → aj G l kX12_readIf (8 * (q + 1) + 7) 9 [(0, .ref b), (1, .int (nI (6 - (q + 1))))] [] M 0 0 (zv (fun M' => rW b M0 M' I0 A0 L tx n (pPush 3009 (pExp 13 ((pLv st (q + 1)).1 (pExp 12 ((pLv st (q + 1)).1 (pExp 11 ((pLv st (q + 1)).2.1 (pGo (q + 1) S)))))))))) := by
      intro M hR
      refine aj.aload_n dX12_readIf_9 rfl ?_
      refine aj.iload_n dX12_readIf_10 rfl ?_
      refine aj.iconst (v := 1) dX12_readIf_11 rfl ?_
      refine aj.iaddN (a := 6 - (q + 1)) (b := 1) dX12_readIf_12 rfl rfl ?_
      refine aj.rCall0 (d' := 8 * q + 13) (As := [.int (nI ((6 - (q + 1)) + 1))]) (rest := []) hR dX12_readIf_13 v_X12_167 li_X12_readTruth rfl rfl rfl (Nat.le_of_ble_eq_true rfl) (by omega) ((hin q rfl).2.1 _ (pGo (q + 1) S) _ (by rw [(show nI ((6 - (q + 1)) + 1) = nI (6 - (q + 1) + 1) from rfl), show 6 - (q + 1) + 1 = 6 - q by omega]) hz9 hR) (fun M hR => ?_)
      refine aj.aload_n dX12_readIf_16 rfl ?_
      refine aj.bipush (v := 11) dX12_readIf_17 rfl ?_
      refine aj.rCall1 (d' := 6) (As := [.int 11]) (rest := []) hR dX12_readIf_19 v_X12_161 li_X12_eats rfl rfl rfl (Nat.le_of_ble_eq_true rfl) (by omega) (r_eats hG hC 11 rfl (by decide) (by decide) hR) (fun M hR => ?_)
      refine aj.if_neB (tgt := 30) dX12_readIf_22 rfl (fun c22 => ?_) (fun c22 => ?_)
      · rw [if_pos c22, ← pExp_y c22] at hR
        exact j30 M hR
      · rw [if_neg c22] at hR
        refine aj.aload_n dX12_readIf_25 rfl ?_
        refine aj.iconst (v := 2) dX12_readIf_26 rfl ?_
        refine aj.rCall0 (d' := 0) (As := [.int 2]) (rest := []) hR dX12_readIf_27 v_X12_138 li_X12_fails rfl rfl rfl (Nat.le_of_ble_eq_true rfl) (by omega) (r_fails 2 rfl (by decide) hR) (fun M hR => ?_)
        rw [← pExp_n c22] at hR
        exact j30 M hR
    exact j9 M hR
  · have er : r = 0 := by omega
    subst er
    exact aj.vret rfl dX12_readIf_8 ⟨rfl, by obtain ⟨e, he⟩ := pFail_in 4 S; rw [show pGo 0 S = .inl e from he] at hR ⊢; rw [show (pLv st 0).2.1 (.inl e) = .inl e from rfl, (pExp_G (k := 11) (by decide) (by decide)).1, show (pLv st 0).1 (.inl e) = .inl e from rfl, (pExp_G (k := 12) (by decide) (by decide)).1, show (pLv st 0).1 (.inl e) = .inl e from rfl, (pExp_G (k := 13) (by decide) (by decide)).1]; exact hR⟩
theorem r_readAtom {G : zG} {l : Launch} {b : Nat} {M0 : zM} {I0 : Nat → Int32} {A0 : Nat → Nat → Int32} {L : Nat → Nat → Int64} {tx : Nat → Nat} {n : Nat} {av : Nat → Nat} {fm : Nat} (hG : zSt G av fm) (hC : rC tx n I0 A0) (st : Bool) (h15 : I0 15 = if st then 0 else 1) (r : Nat) (hr : r ≤ 6) (hin : ∀ q, r = q + 1 → rHc G l b M0 I0 A0 L tx n st q) : rKc G l b M0 I0 A0 L tx n kX12_readAtom (8 * r + 8) r (pAt st r) := by
  intro M S x ex hs0 hR
  have hT := hR.T
  have hh0 := hR.hd
  refine am.of (by decide) (Nat.le_of_ble_eq_true rfl) ?_
  refine aj.aload_n dX12_readAtom_0 rfl ?_
  refine aj.bipush (v := 23) dX12_readAtom_1 rfl ?_
  refine aj.rCall1 (d' := 0) (As := [.int 23]) (rest := []) hR dX12_readAtom_3 v_X12_132 li_X12_is rfl rfl rfl (Nat.le_of_ble_eq_true rfl) (Nat.le_of_ble_eq_true rfl) (r_is 23 rfl (by decide) hR) (fun M hR => ?_)
  refine aj.if_eqB (tgt := 24) dX12_readAtom_6 rfl (fun c6 => ?_) (fun c6 => ?_)
  · refine aj.aload_n dX12_readAtom_24 rfl ?_
    refine aj.rWr rfl dX12_readAtom_25 hR ?_
    refine aj.if_neN (a := pWr S) (tgt := 66) dX12_readAtom_28 rfl (by omega) rfl (fun c28 => ?_) (fun c28 => ?_)
    · have hwn : ¬ (wdOf st (pHd S)).isSome := fun z => c28 (hh0.2.2.1.mpr (wdOf_OK st _ z).1)
      refine aj.aload_n dX12_readAtom_66 rfl ?_
      refine aj.bipush (v := 35) dX12_readAtom_67 rfl ?_
      refine aj.rCall1 (d' := 0) (As := [.int 35]) (rest := []) hR dX12_readAtom_69 v_X12_132 li_X12_is rfl rfl rfl (Nat.le_of_ble_eq_true rfl) (Nat.le_of_ble_eq_true rfl) (r_is 35 rfl (by decide) hR) (fun M hR => ?_)
      refine aj.if_eqB (tgt := 108) dX12_readAtom_72 rfl (fun c72 => ?_) (fun c72 => ?_)
      · refine aj.aload_n dX12_readAtom_108 rfl ?_
        refine aj.bipush (v := 10) dX12_readAtom_109 rfl ?_
        refine aj.rCall1 (d' := 0) (As := [.int 10]) (rest := []) hR dX12_readAtom_111 v_X12_132 li_X12_is rfl rfl rfl (Nat.le_of_ble_eq_true rfl) (Nat.le_of_ble_eq_true rfl) (r_is 10 rfl (by decide) hR) (fun M hR => ?_)
        refine aj.if_eqB (tgt := 125) dX12_readAtom_114 rfl (fun c114 => ?_) (fun c114 => ?_)
        · refine aj.aload_n dX12_readAtom_125 rfl ?_
          refine aj.iconst (v := 2) dX12_readAtom_126 rfl ?_
          refine aj.rCall0 (d' := 0) (As := [.int 2]) (rest := []) hR dX12_readAtom_127 v_X12_138 li_X12_fails rfl rfl rfl (Nat.le_of_ble_eq_true rfl) (by omega) (r_fails 2 rfl (by decide) hR) (fun M hR => ?_)
          exact aj.vret rfl dX12_readAtom_130 ⟨rfl, by rw [show pAt st r S = pFail 2 S from by unfold pAt pAtom; rw [if_neg c6, if_neg hwn, if_neg c72, if_neg c114]]; exact hR⟩
        · refine aj.aload_n dX12_readAtom_117 rfl ?_
          refine aj.iload_n dX12_readAtom_118 rfl ?_
          refine aj.rCall0 (d' := 8 * r + 7) (As := [.int x]) (rest := []) hR dX12_readAtom_119 v_X12_164 li_X12_readIf rfl rfl rfl (Nat.le_of_ble_eq_true rfl) (by omega) (r_readIf hG hC st h15 r hr hin ex c114 hs0 hR) (fun M hR => ?_)
          refine aj.goto (tgt := 130) dX12_readAtom_122 rfl ?_
          exact aj.vret rfl dX12_readAtom_130 ⟨rfl, by rw [show pAt st r S = _ from by unfold pAt pAtom; rw [if_neg c6, if_neg hwn, if_neg c72, if_pos c114]]; exact hR⟩
      · refine aj.aload_n dX12_readAtom_75 rfl ?_
        refine aj.iload_n dX12_readAtom_76 rfl ?_
        refine aj.rCall1 (d' := 6) (As := [.int x]) (rest := []) hR dX12_readAtom_77 v_X12_155 li_X12_goesIn rfl rfl rfl (Nat.le_of_ble_eq_true rfl) (by omega) (r_goesIn hG hC r ex hr (c72) (by decide) (by decide) hR) (fun M hR => ?_)
        refine aj.if_neB (tgt := 84) dX12_readAtom_80 rfl (fun c80 => ?_) (fun c80 => ?_)
        · obtain ⟨q, rfl⟩ : ∃ q, r = q + 1 := ⟨r - 1, by omega⟩
          subst ex
          refine aj.aload_n dX12_readAtom_84 rfl ?_
          refine aj.iload_n dX12_readAtom_85 rfl ?_
          refine aj.iconst (v := 1) dX12_readAtom_86 rfl ?_
          refine aj.iaddN (a := 6 - (q + 1)) (b := 1) dX12_readAtom_87 rfl rfl ?_
          refine aj.rCall0 (d' := 8 * q + 10) (As := [.int (nI ((6 - (q + 1)) + 1))]) (rest := []) hR dX12_readAtom_88 v_X12_158 li_X12_readSum rfl rfl rfl (Nat.le_of_ble_eq_true rfl) (by omega) ((hin q rfl).1 _ (pGo (q + 1) S) _ (by rw [(show nI ((6 - (q + 1)) + 1) = nI (6 - (q + 1) + 1) from rfl), show 6 - (q + 1) + 1 = 6 - q by omega]) (by have := pNext_lt hT c72 (by decide) (by decide); show pSz (pNext S) ≤ n; omega) hR) (fun M hR => ?_)
          refine aj.aload_n dX12_readAtom_91 rfl ?_
          refine aj.bipush (v := 36) dX12_readAtom_92 rfl ?_
          refine aj.rCall1 (d' := 6) (As := [.int 36]) (rest := []) hR dX12_readAtom_94 v_X12_161 li_X12_eats rfl rfl rfl (Nat.le_of_ble_eq_true rfl) (by omega) (r_eats hG hC 36 rfl (by decide) (by decide) hR) (fun M hR => ?_)
          refine aj.if_neB (tgt := 130) dX12_readAtom_97 rfl (fun c97 => ?_) (fun c97 => ?_)
          · rw [if_pos c97, ← pExp_y c97] at hR
            exact aj.vret rfl dX12_readAtom_130 ⟨rfl, by rw [show pAt st (q + 1) S = pExp 36 (pSm st q (pGo (q + 1) S)) from by unfold pAt pAtom; rw [if_neg c6, if_neg hwn, if_pos c72]; rfl]; exact hR⟩
          · rw [if_neg c97] at hR
            refine aj.aload_n dX12_readAtom_100 rfl ?_
            refine aj.iconst (v := 2) dX12_readAtom_101 rfl ?_
            refine aj.rCall0 (d' := 0) (As := [.int 2]) (rest := []) hR dX12_readAtom_102 v_X12_138 li_X12_fails rfl rfl rfl (Nat.le_of_ble_eq_true rfl) (by omega) (r_fails 2 rfl (by decide) hR) (fun M hR => ?_)
            rw [← pExp_n c97] at hR
            refine aj.goto (tgt := 130) dX12_readAtom_105 rfl ?_
            exact aj.vret rfl dX12_readAtom_130 ⟨rfl, by rw [show pAt st (q + 1) S = pExp 36 (pSm st q (pGo (q + 1) S)) from by unfold pAt pAtom; rw [if_neg c6, if_neg hwn, if_pos c72]; rfl]; exact hR⟩
        · have er : r = 0 := by omega
          subst er
          exact aj.vret rfl dX12_readAtom_83 ⟨rfl, by obtain ⟨e, he⟩ := pFail_in 4 S; rw [show pAt st 0 S = .inl e from by unfold pAt pAtom; rw [if_neg c6, if_neg hwn, if_pos c72, show pGo 0 S = .inl e from he, show (pLv st 0).1 (.inl e) = .inl e from rfl, (pExp_G (k := 36) (by decide) (by decide)).1]]; rw [show pGo 0 S = .inl e from he] at hR; exact hR⟩
    · refine aj.aload_n dX12_readAtom_31 rfl ?_
      refine aj.aload_n dX12_readAtom_32 rfl ?_
      refine aj.rKd rfl dX12_readAtom_33 hR (c28) ?_
      refine aj.rCall1 (d' := 0) (As := [.int (nI (pHd S))]) (rest := []) hR dX12_readAtom_36 v_X12_152 li_X12_wordOf rfl rfl rfl (Nat.le_of_ble_eq_true rfl) (by omega) (r_wordOf (pHd S) rfl st h15 (by omega) hR) (fun M hR => ?_)
      refine aj.iconst (v := (-1)) dX12_readAtom_39 rfl ?_
      refine aj.icmp_eq (tgt := 66) dX12_readAtom_40 rfl (fun c40 => ?_) (fun c40 => ?_)
      · have hwn : ¬ (wdOf st (pHd S)).isSome := by
          intro z
          obtain ⟨wo, hwo⟩ := Option.isSome_iff_exists.mp z
          have hw7 : wo < 7 := by
            revert hwo; unfold wdOf; (repeat' split) <;> intro z <;> cases z <;> decide
          rw [hwo] at c40
          exact z_nI1 (by omega) c40
        refine aj.aload_n dX12_readAtom_66 rfl ?_
        refine aj.bipush (v := 35) dX12_readAtom_67 rfl ?_
        refine aj.rCall1 (d' := 0) (As := [.int 35]) (rest := []) hR dX12_readAtom_69 v_X12_132 li_X12_is rfl rfl rfl (Nat.le_of_ble_eq_true rfl) (Nat.le_of_ble_eq_true rfl) (r_is 35 rfl (by decide) hR) (fun M hR => ?_)
        refine aj.if_eqB (tgt := 108) dX12_readAtom_72 rfl (fun c72 => ?_) (fun c72 => ?_)
        · refine aj.aload_n dX12_readAtom_108 rfl ?_
          refine aj.bipush (v := 10) dX12_readAtom_109 rfl ?_
          refine aj.rCall1 (d' := 0) (As := [.int 10]) (rest := []) hR dX12_readAtom_111 v_X12_132 li_X12_is rfl rfl rfl (Nat.le_of_ble_eq_true rfl) (Nat.le_of_ble_eq_true rfl) (r_is 10 rfl (by decide) hR) (fun M hR => ?_)
          refine aj.if_eqB (tgt := 125) dX12_readAtom_114 rfl (fun c114 => ?_) (fun c114 => ?_)
          · refine aj.aload_n dX12_readAtom_125 rfl ?_
            refine aj.iconst (v := 2) dX12_readAtom_126 rfl ?_
            refine aj.rCall0 (d' := 0) (As := [.int 2]) (rest := []) hR dX12_readAtom_127 v_X12_138 li_X12_fails rfl rfl rfl (Nat.le_of_ble_eq_true rfl) (by omega) (r_fails 2 rfl (by decide) hR) (fun M hR => ?_)
            exact aj.vret rfl dX12_readAtom_130 ⟨rfl, by rw [show pAt st r S = pFail 2 S from by unfold pAt pAtom; rw [if_neg c6, if_neg hwn, if_neg c72, if_neg c114]]; exact hR⟩
          · refine aj.aload_n dX12_readAtom_117 rfl ?_
            refine aj.iload_n dX12_readAtom_118 rfl ?_
            refine aj.rCall0 (d' := 8 * r + 7) (As := [.int x]) (rest := []) hR dX12_readAtom_119 v_X12_164 li_X12_readIf rfl rfl rfl (Nat.le_of_ble_eq_true rfl) (by omega) (r_readIf hG hC st h15 r hr hin ex c114 hs0 hR) (fun M hR => ?_)
            refine aj.goto (tgt := 130) dX12_readAtom_122 rfl ?_
            exact aj.vret rfl dX12_readAtom_130 ⟨rfl, by rw [show pAt st r S = _ from by unfold pAt pAtom; rw [if_neg c6, if_neg hwn, if_neg c72, if_pos c114]]; exact hR⟩
        · refine aj.aload_n dX12_readAtom_75 rfl ?_
          refine aj.iload_n dX12_readAtom_76 rfl ?_
          refine aj.rCall1 (d' := 6) (As := [.int x]) (rest := []) hR dX12_readAtom_77 v_X12_155 li_X12_goesIn rfl rfl rfl (Nat.le_of_ble_eq_true rfl) (by omega) (r_goesIn hG hC r ex hr (c72) (by decide) (by decide) hR) (fun M hR => ?_)
          refine aj.if_neB (tgt := 84) dX12_readAtom_80 rfl (fun c80 => ?_) (fun c80 => ?_)
          · obtain ⟨q, rfl⟩ : ∃ q, r = q + 1 := ⟨r - 1, by omega⟩
            subst ex
            refine aj.aload_n dX12_readAtom_84 rfl ?_
            refine aj.iload_n dX12_readAtom_85 rfl ?_
            refine aj.iconst (v := 1) dX12_readAtom_86 rfl ?_
            refine aj.iaddN (a := 6 - (q + 1)) (b := 1) dX12_readAtom_87 rfl rfl ?_
            refine aj.rCall0 (d' := 8 * q + 10) (As := [.int (nI ((6 - (q + 1)) + 1))]) (rest := []) hR dX12_readAtom_88 v_X12_158 li_X12_readSum rfl rfl rfl (Nat.le_of_ble_eq_true rfl) (by omega) ((hin q rfl).1 _ (pGo (q + 1) S) _ (by rw [(show nI ((6 - (q + 1)) + 1) = nI (6 - (q + 1) + 1) from rfl), show 6 - (q + 1) + 1 = 6 - q by omega]) (by have := pNext_lt hT c72 (by decide) (by decide); show pSz (pNext S) ≤ n; omega) hR) (fun M hR => ?_)
            refine aj.aload_n dX12_readAtom_91 rfl ?_
            refine aj.bipush (v := 36) dX12_readAtom_92 rfl ?_
            refine aj.rCall1 (d' := 6) (As := [.int 36]) (rest := []) hR dX12_readAtom_94 v_X12_161 li_X12_eats rfl rfl rfl (Nat.le_of_ble_eq_true rfl) (by omega) (r_eats hG hC 36 rfl (by decide) (by decide) hR) (fun M hR => ?_)
            refine aj.if_neB (tgt := 130) dX12_readAtom_97 rfl (fun c97 => ?_) (fun c97 => ?_)
            · rw [if_pos c97, ← pExp_y c97] at hR
              exact aj.vret rfl dX12_readAtom_130 ⟨rfl, by rw [show pAt st (q + 1) S = pExp 36 (pSm st q (pGo (q + 1) S)) from by unfold pAt pAtom; rw [if_neg c6, if_neg hwn, if_pos c72]; rfl]; exact hR⟩
            · rw [if_neg c97] at hR
              refine aj.aload_n dX12_readAtom_100 rfl ?_
              refine aj.iconst (v := 2) dX12_readAtom_101 rfl ?_
              refine aj.rCall0 (d' := 0) (As := [.int 2]) (rest := []) hR dX12_readAtom_102 v_X12_138 li_X12_fails rfl rfl rfl (Nat.le_of_ble_eq_true rfl) (by omega) (r_fails 2 rfl (by decide) hR) (fun M hR => ?_)
              rw [← pExp_n c97] at hR
              refine aj.goto (tgt := 130) dX12_readAtom_105 rfl ?_
              exact aj.vret rfl dX12_readAtom_130 ⟨rfl, by rw [show pAt st (q + 1) S = pExp 36 (pSm st q (pGo (q + 1) S)) from by unfold pAt pAtom; rw [if_neg c6, if_neg hwn, if_pos c72]; rfl]; exact hR⟩
          · have er : r = 0 := by omega
            subst er
            exact aj.vret rfl dX12_readAtom_83 ⟨rfl, by obtain ⟨e, he⟩ := pFail_in 4 S; rw [show pAt st 0 S = .inl e from by unfold pAt pAtom; rw [if_neg c6, if_neg hwn, if_pos c72, show pGo 0 S = .inl e from he, show (pLv st 0).1 (.inl e) = .inl e from rfl, (pExp_G (k := 36) (by decide) (by decide)).1]]; rw [show pGo 0 S = .inl e from he] at hR; exact hR⟩
      · have hws : (wdOf st (pHd S)).isSome := by
          cases hw : wdOf st (pHd S) with
          | none => rw [hw] at c40; exact absurd rfl c40
          | some z => rfl
        obtain ⟨wo, hwo⟩ := Option.isSome_iff_exists.mp hws
        have hw7 : wo < 7 := by
          revert hwo; unfold wdOf; (repeat' split) <;> intro z <;> cases z <;> decide
        have hq := wdOf_OK st _ hws
        have hpw := pNext_lt hT rfl hq.1 hq.2
        refine aj.aload_n dX12_readAtom_43 rfl ?_
        refine aj.sipush (v := 1000) dX12_readAtom_44 rfl ?_
        refine aj.aload_n dX12_readAtom_47 rfl ?_
        refine aj.aload_n dX12_readAtom_48 rfl ?_
        refine aj.rKd rfl dX12_readAtom_49 hR (c28) ?_
        refine aj.rCall1 (d' := 0) (As := [.int (nI (pHd S))]) (rest := [.int 1000, .ref b]) hR dX12_readAtom_52 v_X12_152 li_X12_wordOf rfl rfl rfl (Nat.le_of_ble_eq_true rfl) (by omega) (r_wordOf (pHd S) rfl st h15 (by omega) hR) (fun M hR => ?_)
        refine aj.iaddN (a := 1000) (b := wo) dX12_readAtom_55 rfl (by rw [hwo]; rfl) ?_
        refine aj.rCall0 (d' := 0) (As := [.int (nI (1000 + wo))]) (rest := []) hR dX12_readAtom_56 v_X12_149 li_X12_codes rfl rfl rfl (Nat.le_of_ble_eq_true rfl) (by omega) (r_codes (1000 + wo) rfl hC.1 (hs0) hR) (fun M hR => ?_)
        refine aj.aload_n dX12_readAtom_59 rfl ?_
        refine aj.rCall0 (d' := 5) (As := []) (rest := []) hR dX12_readAtom_60 v_X12_135 li_X12_next rfl rfl rfl (Nat.le_of_ble_eq_true rfl) (by omega) (r_next hG hC (pPush_hd _ S) (hq.1) (hq.2) hR) (fun M hR => ?_)
        refine aj.goto (tgt := 130) dX12_readAtom_63 rfl ?_
        exact aj.vret rfl dX12_readAtom_130 ⟨rfl, by rw [show pAt st r S = pNext (pPush (1000 + wo) S) from by unfold pAt pAtom; rw [if_neg c6, if_pos hws, hwo]; rfl]; exact hR⟩
  · refine aj.aload_n dX12_readAtom_9 rfl ?_
    refine aj.aload_n dX12_readAtom_10 rfl ?_
    refine aj.rNm rfl dX12_readAtom_11 hR (c6) ?_
    refine aj.rCall0 (d' := 0) (As := [.int (nI (pNm S))]) (rest := []) hR dX12_readAtom_14 v_X12_149 li_X12_codes rfl rfl rfl (Nat.le_of_ble_eq_true rfl) (by omega) (r_codes (pNm S) rfl hC.1 (hs0) hR) (fun M hR => ?_)
    refine aj.aload_n dX12_readAtom_17 rfl ?_
    refine aj.rCall0 (d' := 5) (As := []) (rest := []) hR dX12_readAtom_18 v_X12_135 li_X12_next rfl rfl rfl (Nat.le_of_ble_eq_true rfl) (by omega) (r_next hG hC ((pPush_hd _ S).trans c6) (by decide) (by decide) hR) (fun M hR => ?_)
    refine aj.goto (tgt := 130) dX12_readAtom_21 rfl ?_
    exact aj.vret rfl dX12_readAtom_130 ⟨rfl, by rw [show pAt st r S = pNext (pPush (pNm S) S) from if_pos c6]; exact hR⟩
