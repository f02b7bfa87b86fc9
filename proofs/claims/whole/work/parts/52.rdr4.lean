theorem opStar_i {k : Nat} : (opStar k).isSome ↔ k = 34 := by unfold opStar; split <;> simp_all
theorem opAnd_i {k : Nat} : (opAnd k).isSome ↔ k = 19 := by unfold opAnd; split <;> simp_all
theorem opOr_i {k : Nat} : (opOr k).isSome ↔ k = 20 := by unfold opOr; split <;> simp_all
theorem opSum_i {k : Nat} : (opSum k).isSome ↔ k = 32 ∨ k = 33 := by unfold opSum; (repeat' split) <;> simp_all
theorem opCmp_i {k : Nat} : (opCmp k).isSome ↔ k = 39 ∨ k = 40 ∨ k = 41 := by unfold opCmp; (repeat' split) <;> simp_all
theorem pLen_le (S : pS) : pLen S ≤ pSz S := by
  match S with
  | .inl _ => exact Nat.le_refl 0
  | .inr (cs, ts) => exact Nat.le_add_left _ _
theorem readTerm_loop {G : zG} {l : Launch} {b : Nat} {M0 : zM} {I0 : Nat → Int32} {A0 : Nat → Nat → Int32} {L : Nat → Nat → Int64} {tx : Nat → Nat} {n : Nat} {av : Nat → Nat} {fm : Nat} (hG : zSt G av fm) (hC : rC tx n I0 A0) (st : Bool) (r : Nat) {x : Int32} (ex : x = nI (6 - r)) (hf : rKc G l b M0 I0 A0 L tx n kX12_readAtom (8 * r + 8) r (pAt st r)) : ∀ (m : Nat) (S : pS) (M : zM), pLen S ≤ m + 1 → pSz S ≤ n → rW b M0 M I0 A0 L tx n S → aj G l kX12_readTerm (8 * r + 9) 5 [(0, .ref b), (1, .int x)] [] M 0 0 (zv (fun M' => rW b M0 M' I0 A0 L tx n (pLoop opStar (pAt st r) m S))) := by
  have hfg := pAt_G st r
  intro m
  induction m with
  | zero =>
    intro S M hm hs hR
    have hT := hR.T
    refine aj.aload_n dX12_readTerm_5 rfl ?_
    refine aj.bipush (v := 34) dX12_readTerm_6 rfl ?_
    refine aj.rCall1 (d' := 6) (As := [.int 34]) (rest := []) hR dX12_readTerm_8 v_X12_161 li_X12_eats rfl rfl rfl (Nat.le_of_ble_eq_true rfl) (by omega) (r_eats hG hC 34 rfl (by decide) (by decide) hR) (fun M hR => ?_)
    refine aj.if_eqB (tgt := 29) dX12_readTerm_11 rfl (fun c11 => ?_) (fun c11 => ?_)
    · rw [if_neg c11] at hR
      exact aj.vret rfl dX12_readTerm_29 ⟨rfl, hR⟩
    · exact absurd (opStar_i.mpr c11) (pT_1 opStar_OK hT hm)
  | succ m ih =>
    intro S M hm hs hR
    have hT := hR.T
    refine aj.aload_n dX12_readTerm_5 rfl ?_
    refine aj.bipush (v := 34) dX12_readTerm_6 rfl ?_
    refine aj.rCall1 (d' := 6) (As := [.int 34]) (rest := []) hR dX12_readTerm_8 v_X12_161 li_X12_eats rfl rfl rfl (Nat.le_of_ble_eq_true rfl) (by omega) (r_eats hG hC 34 rfl (by decide) (by decide) hR) (fun M hR => ?_)
    refine aj.if_eqB (tgt := 29) dX12_readTerm_11 rfl (fun c11 => ?_) (fun c11 => ?_)
    · rw [if_neg c11] at hR
      exact aj.vret rfl dX12_readTerm_29 ⟨rfl, by rw [pLoop_none (fun z => c11 (opStar_i.mp z))]; exact hR⟩
    · rw [if_pos c11] at hR
      have h1 := pNext_lt hT c11 (by decide) (by decide)
      have h2 := hfg.2 _ h1.1
      have h3 := pPush_sz 3002 (pAt st r (pNext S))
      have h4 := pPush_len 3002 (pAt st r (pNext S))
      refine aj.aload_n dX12_readTerm_14 rfl ?_
      refine aj.iload_n dX12_readTerm_15 rfl ?_
      refine aj.rCall0 (d' := 8 * r + 8) (As := [.int x]) (rest := []) hR dX12_readTerm_16 v_X12_170 li_X12_readAtom rfl rfl rfl (Nat.le_of_ble_eq_true rfl) (by omega) (hf _ (pNext S) _ ex (by omega) hR) (fun M hR => ?_)
      refine aj.aload_n dX12_readTerm_19 rfl ?_
      refine aj.sipush (v := 3002) dX12_readTerm_20 rfl ?_
      refine aj.rCall0 (d' := 0) (As := [.int 3002]) (rest := []) hR dX12_readTerm_23 v_X12_149 li_X12_codes rfl rfl rfl (Nat.le_of_ble_eq_true rfl) (by omega) (r_codes 3002 rfl hC.1 (by omega) hR) (fun M hR => ?_)
      refine aj.goto (tgt := 5) dX12_readTerm_26 rfl ?_
      rw [pLoop_some (opStar_i.mpr c11), show (opStar (pHd S)).getD 0 = 3002 by rw [c11]; rfl]
      exact ih _ M (by omega) (by omega) hR
theorem r_readTerm {G : zG} {l : Launch} {b : Nat} {M0 : zM} {I0 : Nat → Int32} {A0 : Nat → Nat → Int32} {L : Nat → Nat → Int64} {tx : Nat → Nat} {n : Nat} {av : Nat → Nat} {fm : Nat} (hG : zSt G av fm) (hC : rC tx n I0 A0) (st : Bool) (r : Nat) (hf : rKc G l b M0 I0 A0 L tx n kX12_readAtom (8 * r + 8) r (pAt st r)) : rKc G l b M0 I0 A0 L tx n kX12_readTerm (8 * r + 9) r (pTm st r) := by
  intro M S x ex hs hR
  have hT := hR.T
  have hg := (pAt_G st r).2 _ hT
  have hn := hC.1
  refine am.of (by decide) (Nat.le_of_ble_eq_true rfl) ?_
  refine aj.aload_n dX12_readTerm_0 rfl ?_
  refine aj.iload_n dX12_readTerm_1 rfl ?_
  refine aj.rCall0 (d' := 8 * r + 8) (As := [.int x]) (rest := []) hR dX12_readTerm_2 v_X12_170 li_X12_readAtom rfl rfl rfl (Nat.le_of_ble_eq_true rfl) (by omega) (hf _ S _ ex hs hR) (fun M hR => ?_)
  have hl := pLen_le (pAt st r S)
  exact readTerm_loop hG hC st r ex hf 900 _ M (by omega) (by omega) hR
theorem readSum_loop {G : zG} {l : Launch} {b : Nat} {M0 : zM} {I0 : Nat → Int32} {A0 : Nat → Nat → Int32} {L : Nat → Nat → Int64} {tx : Nat → Nat} {n : Nat} {av : Nat → Nat} {fm : Nat} (hG : zSt G av fm) (hC : rC tx n I0 A0) (st : Bool) (r : Nat) {x : Int32} (ex : x = nI (6 - r)) (hf : rKc G l b M0 I0 A0 L tx n kX12_readTerm (8 * r + 9) r (pTm st r)) : ∀ (m : Nat) (S : pS) (M : zM), pLen S ≤ m + 1 → pSz S ≤ n → rW b M0 M I0 A0 L tx n S → aj G l kX12_readSum (8 * r + 10) 5 [(0, .ref b), (1, .int x)] [] M 0 0 (zv (fun M' => rW b M0 M' I0 A0 L tx n (pLoop opSum (pTm st r) m S))) := by
  have hfg := pTm_G st r
  intro m
  induction m with
  | zero =>
    intro S M hm hs hR
    have hT := hR.T
    have hh0 := hR.hd
    refine aj.aload_n dX12_readSum_5 rfl ?_
    refine aj.bipush (v := 32) dX12_readSum_6 rfl ?_
    refine aj.rCall1 (d' := 0) (As := [.int 32]) (rest := []) hR dX12_readSum_8 v_X12_132 li_X12_is rfl rfl rfl (Nat.le_of_ble_eq_true rfl) (by omega) (r_is 32 rfl (by decide) hR) (fun M hR => ?_)
    refine aj.if_neB (tgt := 23) dX12_readSum_11 rfl (fun c11 => ?_) (fun c11 => ?_)
    · exact absurd (opSum_i.mpr (Or.inl c11)) (pT_1 opSum_OK hT hm)
    · refine aj.aload_n dX12_readSum_14 rfl ?_
      refine aj.bipush (v := 33) dX12_readSum_15 rfl ?_
      refine aj.rCall1 (d' := 0) (As := [.int 33]) (rest := []) hR dX12_readSum_17 v_X12_132 li_X12_is rfl rfl rfl (Nat.le_of_ble_eq_true rfl) (by omega) (r_is 33 rfl (by decide) hR) (fun M hR => ?_)
      refine aj.if_eqB (tgt := 59) dX12_readSum_20 rfl (fun c20 => ?_) (fun c20 => ?_)
      · exact aj.vret rfl dX12_readSum_59 ⟨rfl, hR⟩
      · exact absurd (opSum_i.mpr (Or.inr c20)) (pT_1 opSum_OK hT hm)
  | succ m ih =>
    intro S M hm hs hR
    have hT := hR.T
    have hh0 := hR.hd
    refine aj.aload_n dX12_readSum_5 rfl ?_
    refine aj.bipush (v := 32) dX12_readSum_6 rfl ?_
    refine aj.rCall1 (d' := 0) (As := [.int 32]) (rest := []) hR dX12_readSum_8 v_X12_132 li_X12_is rfl rfl rfl (Nat.le_of_ble_eq_true rfl) (by omega) (r_is 32 rfl (by decide) hR) (fun M hR => ?_)
    refine aj.if_neB (tgt := 23) dX12_readSum_11 rfl (fun c11 => ?_) (fun c11 => ?_)
    · have hop := opSum_i.mpr (Or.inl c11)
      have h1 := pNext_lt hT c11 (by decide) (by decide)
      have h2 := hfg.2 _ h1.1
      have h3 := pPush_sz 3000 (pTm st r (pNext S))
      have h4 := pPush_len 3000 (pTm st r (pNext S))
      refine aj.aload_n dX12_readSum_23 rfl ?_
      refine aj.rKd rfl dX12_readSum_24 hR (hh0.2.2.1.mpr (by omega)) ?_
      refine aj.bipush (v := 32) dX12_readSum_27 rfl ?_
      refine aj.icmp_neN (a := pHd S) (b := 32) (tgt := 38) dX12_readSum_29 rfl rfl (by omega) (by omega) rfl (fun c29 => ?_) (fun c29 => ?_)
      · exact absurd c29 (by omega)
      · refine aj.sipush (v := 3000) dX12_readSum_32 rfl ?_
        refine aj.goto (tgt := 41) dX12_readSum_35 rfl ?_
        refine aj.istore_n (lv' := [(2, .int 3000), (0, .ref b), (1, .int x)]) dX12_readSum_41 (Nat.le_of_ble_eq_true rfl) rfl ?_
        refine aj.aload_n dX12_readSum_42 rfl ?_
        refine aj.rCall0 (d' := 5) (As := []) (rest := []) hR dX12_readSum_43 v_X12_135 li_X12_next rfl rfl rfl (Nat.le_of_ble_eq_true rfl) (by omega) (r_next hG hC (c11) (by decide) (by decide) hR) (fun M hR => ?_)
        refine aj.aload_n dX12_readSum_46 rfl ?_
        refine aj.iload_n dX12_readSum_47 rfl ?_
        refine aj.rCall0 (d' := 8 * r + 9) (As := [.int x]) (rest := []) hR dX12_readSum_48 v_X12_173 li_X12_readTerm rfl rfl rfl (Nat.le_of_ble_eq_true rfl) (by omega) (hf _ (pNext S) _ ex (by omega) hR) (fun M hR => ?_)
        refine aj.aload_n dX12_readSum_51 rfl ?_
        refine aj.iload_n dX12_readSum_52 rfl ?_
        refine aj.rCall0 (d' := 0) (As := [.int 3000]) (rest := []) hR dX12_readSum_53 v_X12_149 li_X12_codes rfl rfl rfl (Nat.le_of_ble_eq_true rfl) (by omega) (r_codes 3000 rfl hC.1 (by omega) hR) (fun M hR => ?_)
        refine aj.goto (tgt := 5) dX12_readSum_56 rfl ?_
        refine aj.pick [1, 2] rfl ?_
        rw [pLoop_some hop, show (opSum (pHd S)).getD 0 = 3000 by rw [c11]; rfl]
        exact ih _ M (by omega) (by omega) hR
    · refine aj.aload_n dX12_readSum_14 rfl ?_
      refine aj.bipush (v := 33) dX12_readSum_15 rfl ?_
      refine aj.rCall1 (d' := 0) (As := [.int 33]) (rest := []) hR dX12_readSum_17 v_X12_132 li_X12_is rfl rfl rfl (Nat.le_of_ble_eq_true rfl) (by omega) (r_is 33 rfl (by decide) hR) (fun M hR => ?_)
      refine aj.if_eqB (tgt := 59) dX12_readSum_20 rfl (fun c20 => ?_) (fun c20 => ?_)
      · exact aj.vret rfl dX12_readSum_59 ⟨rfl, by rw [pLoop_none (fun z => (opSum_i.mp z).elim c11 c20)]; exact hR⟩
      · have hop := opSum_i.mpr (Or.inr c20)
        have h1 := pNext_lt hT c20 (by decide) (by decide)
        have h2 := hfg.2 _ h1.1
        have h3 := pPush_sz 3001 (pTm st r (pNext S))
        have h4 := pPush_len 3001 (pTm st r (pNext S))
        refine aj.aload_n dX12_readSum_23 rfl ?_
        refine aj.rKd rfl dX12_readSum_24 hR (hh0.2.2.1.mpr (by omega)) ?_
        refine aj.bipush (v := 32) dX12_readSum_27 rfl ?_
        refine aj.icmp_neN (a := pHd S) (b := 32) (tgt := 38) dX12_readSum_29 rfl rfl (by omega) (by omega) rfl (fun c29 => ?_) (fun c29 => ?_)
        · refine aj.sipush (v := 3001) dX12_readSum_38 rfl ?_
          refine aj.istore_n (lv' := [(2, .int 3001), (0, .ref b), (1, .int x)]) dX12_readSum_41 (Nat.le_of_ble_eq_true rfl) rfl ?_
          refine aj.aload_n dX12_readSum_42 rfl ?_
          refine aj.rCall0 (d' := 5) (As := []) (rest := []) hR dX12_readSum_43 v_X12_135 li_X12_next rfl rfl rfl (Nat.le_of_ble_eq_true rfl) (by omega) (r_next hG hC (c20) (by decide) (by decide) hR) (fun M hR => ?_)
          refine aj.aload_n dX12_readSum_46 rfl ?_
          refine aj.iload_n dX12_readSum_47 rfl ?_
          refine aj.rCall0 (d' := 8 * r + 9) (As := [.int x]) (rest := []) hR dX12_readSum_48 v_X12_173 li_X12_readTerm rfl rfl rfl (Nat.le_of_ble_eq_true rfl) (by omega) (hf _ (pNext S) _ ex (by omega) hR) (fun M hR => ?_)
          refine aj.aload_n dX12_readSum_51 rfl ?_
          refine aj.iload_n dX12_readSum_52 rfl ?_
          refine aj.rCall0 (d' := 0) (As := [.int 3001]) (rest := []) hR dX12_readSum_53 v_X12_149 li_X12_codes rfl rfl rfl (Nat.le_of_ble_eq_true rfl) (by omega) (r_codes 3001 rfl hC.1 (by omega) hR) (fun M hR => ?_)
          refine aj.goto (tgt := 5) dX12_readSum_56 rfl ?_
          refine aj.pick [1, 2] rfl ?_
          rw [pLoop_some hop, show (opSum (pHd S)).getD 0 = 3001 by rw [c20]; rfl]
          exact ih _ M (by omega) (by omega) hR
        · exact absurd c29 (by omega)
theorem r_readSum {G : zG} {l : Launch} {b : Nat} {M0 : zM} {I0 : Nat → Int32} {A0 : Nat → Nat → Int32} {L : Nat → Nat → Int64} {tx : Nat → Nat} {n : Nat} {av : Nat → Nat} {fm : Nat} (hG : zSt G av fm) (hC : rC tx n I0 A0) (st : Bool) (r : Nat) (hf : rKc G l b M0 I0 A0 L tx n kX12_readTerm (8 * r + 9) r (pTm st r)) : rKc G l b M0 I0 A0 L tx n kX12_readSum (8 * r + 10) r (pSm st r) := by
  intro M S x ex hs hR
  have hT := hR.T
  have hg := (pTm_G st r).2 _ hT
  have hn := hC.1
  refine am.of (by decide) (Nat.le_of_ble_eq_true rfl) ?_
  refine aj.aload_n dX12_readSum_0 rfl ?_
  refine aj.iload_n dX12_readSum_1 rfl ?_
  refine aj.rCall0 (d' := 8 * r + 9) (As := [.int x]) (rest := []) hR dX12_readSum_2 v_X12_173 li_X12_readTerm rfl rfl rfl (Nat.le_of_ble_eq_true rfl) (by omega) (hf _ S _ ex hs hR) (fun M hR => ?_)
  have hl := pLen_le (pTm st r S)
  exact readSum_loop hG hC st r ex hf 900 _ M (by omega) (by omega) hR
theorem r_readUnit {G : zG} {l : Launch} {b : Nat} {M0 : zM} {I0 : Nat → Int32} {A0 : Nat → Nat → Int32} {L : Nat → Nat → Int64} {tx : Nat → Nat} {n : Nat} {av : Nat → Nat} {fm : Nat} (hG : zSt G av fm) (hC : rC tx n I0 A0) (st : Bool) (h15 : I0 15 = if st then 0 else 1) (r : Nat) (hr : r ≤ 6) (hin : ∀ q, r = q + 1 → rHc G l b M0 I0 A0 L tx n st q) (hf : rKc G l b M0 I0 A0 L tx n kX12_readSum (8 * r + 10) r (pSm st r)) : rKc G l b M0 I0 A0 L tx n kX12_readUnit (8 * r + 11) r (pUn st r) := by
  intro M S x ex hs hR
  have hT := hR.T
  have hh0 := hR.hd
  have hsg := (pSm_G st r).2 _ hT
  refine am.of (by decide) (Nat.le_of_ble_eq_true rfl) ?_
  refine aj.aload_n dX12_readUnit_0 rfl ?_
  refine aj.bipush (v := 21) dX12_readUnit_1 rfl ?_
  refine aj.rCall1 (d' := 0) (As := [.int 21]) (rest := []) hR dX12_readUnit_3 v_X12_132 li_X12_is rfl rfl rfl (Nat.le_of_ble_eq_true rfl) (by omega) (r_is 21 rfl (by decide) hR) (fun M hR => ?_)
  refine aj.if_eqB (tgt := 33) dX12_readUnit_6 rfl (fun c6 => ?_) (fun c6 => ?_)
  · refine aj.aload_n dX12_readUnit_33 rfl ?_
    refine aj.bipush (v := 37) dX12_readUnit_34 rfl ?_
    refine aj.rCall1 (d' := 0) (As := [.int 37]) (rest := []) hR dX12_readUnit_36 v_X12_132 li_X12_is rfl rfl rfl (Nat.le_of_ble_eq_true rfl) (by omega) (r_is 37 rfl (by decide) hR) (fun M hR => ?_)
    refine aj.if_eqB (tgt := 73) dX12_readUnit_39 rfl (fun c39 => ?_) (fun c39 => ?_)
    · refine aj.aload_n dX12_readUnit_73 rfl ?_
      refine aj.iload_n dX12_readUnit_74 rfl ?_
      refine aj.rCall0 (d' := 8 * r + 10) (As := [.int x]) (rest := []) hR dX12_readUnit_75 v_X12_158 li_X12_readSum rfl rfl rfl (Nat.le_of_ble_eq_true rfl) (by omega) (hf _ S _ ex hs hR) (fun M hR => ?_)
      refine aj.aload_n dX12_readUnit_78 rfl ?_
      refine aj.bipush (v := 39) dX12_readUnit_79 rfl ?_
      refine aj.rCall1 (d' := 0) (As := [.int 39]) (rest := []) hR dX12_readUnit_81 v_X12_132 li_X12_is rfl rfl rfl (Nat.le_of_ble_eq_true rfl) (by omega) (r_is 39 rfl (by decide) hR) (fun M hR => ?_)
      refine aj.if_eqB (tgt := 93) dX12_readUnit_84 rfl (fun c84 => ?_) (fun c84 => ?_)
      · refine aj.aload_n dX12_readUnit_93 rfl ?_
        refine aj.bipush (v := 40) dX12_readUnit_94 rfl ?_
        refine aj.rCall1 (d' := 0) (As := [.int 40]) (rest := []) hR dX12_readUnit_96 v_X12_132 li_X12_is rfl rfl rfl (Nat.le_of_ble_eq_true rfl) (by omega) (r_is 40 rfl (by decide) hR) (fun M hR => ?_)
        refine aj.if_eqB (tgt := 108) dX12_readUnit_99 rfl (fun c99 => ?_) (fun c99 => ?_)
        · refine aj.sipush (v := 3005) dX12_readUnit_108 rfl ?_
          refine aj.istore_n (lv' := [(2, .int 3005), (0, .ref b), (1, .int x)]) dX12_readUnit_111 (Nat.le_of_ble_eq_true rfl) rfl ?_
          refine aj.aload_n dX12_readUnit_112 rfl ?_
          refine aj.bipush (v := 39) dX12_readUnit_113 rfl ?_
          refine aj.rCall1 (d' := 0) (As := [.int 39]) (rest := []) hR dX12_readUnit_115 v_X12_132 li_X12_is rfl rfl rfl (Nat.le_of_ble_eq_true rfl) (by omega) (r_is 39 rfl (by decide) hR) (fun M hR => ?_)
          refine aj.if_neB (tgt := 139) dX12_readUnit_118 rfl (fun c118 => ?_) (fun c118 => ?_)
          · exact absurd c118 (by omega)
          · refine aj.aload_n dX12_readUnit_121 rfl ?_
            refine aj.bipush (v := 40) dX12_readUnit_122 rfl ?_
            refine aj.rCall1 (d' := 0) (As := [.int 40]) (rest := []) hR dX12_readUnit_124 v_X12_132 li_X12_is rfl rfl rfl (Nat.le_of_ble_eq_true rfl) (by omega) (r_is 40 rfl (by decide) hR) (fun M hR => ?_)
            refine aj.if_neB (tgt := 139) dX12_readUnit_127 rfl (fun c127 => ?_) (fun c127 => ?_)
            · exact absurd c127 (by omega)
            · refine aj.aload_n dX12_readUnit_130 rfl ?_
              refine aj.bipush (v := 41) dX12_readUnit_131 rfl ?_
              refine aj.rCall1 (d' := 0) (As := [.int 41]) (rest := []) hR dX12_readUnit_133 v_X12_132 li_X12_is rfl rfl rfl (Nat.le_of_ble_eq_true rfl) (by omega) (r_is 41 rfl (by decide) hR) (fun M hR => ?_)
              refine aj.if_eqB (tgt := 146) dX12_readUnit_136 rfl (fun c136 => ?_) (fun c136 => ?_)
              · refine aj.aload_n dX12_readUnit_146 rfl ?_
                refine aj.iconst (v := 2) dX12_readUnit_147 rfl ?_
                refine aj.rCall0 (d' := 0) (As := [.int 2]) (rest := []) hR dX12_readUnit_148 v_X12_138 li_X12_fails rfl rfl rfl (Nat.le_of_ble_eq_true rfl) (by omega) (r_fails 2 rfl (by decide) hR) (fun M hR => ?_)
                refine aj.aload_n dX12_readUnit_151 rfl ?_
                refine aj.iload_n dX12_readUnit_152 rfl ?_
                refine aj.rCall0 (d' := 8 * r + 10) (As := [.int x]) (rest := []) hR dX12_readUnit_153 v_X12_158 li_X12_readSum rfl rfl rfl (Nat.le_of_ble_eq_true rfl) (by omega) (hf _ (pFail 2 (pSm st r S)) _ ex (by rw [(pFail_sz 2 (pSm st r S)).1]; exact Nat.zero_le _) hR) (fun M hR => ?_)
                refine aj.aload_n dX12_readUnit_156 rfl ?_
                refine aj.iload_n dX12_readUnit_157 rfl ?_
                refine aj.rCall0 (d' := 0) (As := [.int 3005]) (rest := []) hR dX12_readUnit_158 v_X12_149 li_X12_codes rfl rfl rfl (Nat.le_of_ble_eq_true rfl) (by omega) (r_codes 3005 rfl hC.1 (by obtain ⟨e, he⟩ := pFail_in 2 (pSm st r S); rw [he, (pSm_G st r).1]; exact Nat.zero_le _) hR) (fun M hR => ?_)
                have e1 : pUn st r S = pFail 2 (pSm st r S) := by unfold pUn pUnit; rw [if_neg c6, if_neg c39, if_neg (fun z => by have := opCmp_i.mp z; omega)]
                exact aj.vret rfl dX12_readUnit_161 ⟨rfl, by rw [e1]; obtain ⟨e, he⟩ := pFail_in 2 (pSm st r S); rw [he] at hR ⊢; rw [show pPush 3005 (pSm st r (.inl e)) = .inl e by rw [(pSm_G st r).1]; rfl] at hR; exact hR⟩
              · refine aj.aload_n dX12_readUnit_139 rfl ?_
                refine aj.rCall0 (d' := 5) (As := []) (rest := []) hR dX12_readUnit_140 v_X12_135 li_X12_next rfl rfl rfl (Nat.le_of_ble_eq_true rfl) (by omega) (r_next hG hC (c136) (by decide) (by decide) hR) (fun M hR => ?_)
                refine aj.goto (tgt := 151) dX12_readUnit_143 rfl ?_
                refine aj.aload_n dX12_readUnit_151 rfl ?_
                refine aj.iload_n dX12_readUnit_152 rfl ?_
                refine aj.rCall0 (d' := 8 * r + 10) (As := [.int x]) (rest := []) hR dX12_readUnit_153 v_X12_158 li_X12_readSum rfl rfl rfl (Nat.le_of_ble_eq_true rfl) (by omega) (hf _ (pNext (pSm st r S)) _ ex (by have := pNext_lt hsg.1 c136 (by decide) (by decide); omega) hR) (fun M hR => ?_)
                refine aj.aload_n dX12_readUnit_156 rfl ?_
                refine aj.iload_n dX12_readUnit_157 rfl ?_
                refine aj.rCall0 (d' := 0) (As := [.int 3005]) (rest := []) hR dX12_readUnit_158 v_X12_149 li_X12_codes rfl rfl rfl (Nat.le_of_ble_eq_true rfl) (by omega) (r_codes 3005 rfl hC.1 (by have h1 := pNext_lt hsg.1 c136 (by decide) (by decide); have h2 := (pSm_G st r).2 _ h1.1; omega) hR) (fun M hR => ?_)
                exact aj.vret rfl dX12_readUnit_161 ⟨rfl, by rw [show pUn st r S = pPush 3005 (pSm st r (pNext (pSm st r S))) from by unfold pUn pUnit; rw [if_neg c6, if_neg c39, if_pos (opCmp_i.mpr (by omega)), show (opCmp (pHd (pSm st r S))).getD 0 = 3005 by rw [c136]; rfl]]; exact hR⟩
        · refine aj.sipush (v := 3004) dX12_readUnit_102 rfl ?_
          refine aj.goto (tgt := 111) dX12_readUnit_105 rfl ?_
          refine aj.istore_n (lv' := [(2, .int 3004), (0, .ref b), (1, .int x)]) dX12_readUnit_111 (Nat.le_of_ble_eq_true rfl) rfl ?_
          refine aj.aload_n dX12_readUnit_112 rfl ?_
          refine aj.bipush (v := 39) dX12_readUnit_113 rfl ?_
          refine aj.rCall1 (d' := 0) (As := [.int 39]) (rest := []) hR dX12_readUnit_115 v_X12_132 li_X12_is rfl rfl rfl (Nat.le_of_ble_eq_true rfl) (by omega) (r_is 39 rfl (by decide) hR) (fun M hR => ?_)
          refine aj.if_neB (tgt := 139) dX12_readUnit_118 rfl (fun c118 => ?_) (fun c118 => ?_)
          · exact absurd c118 (by omega)
          · refine aj.aload_n dX12_readUnit_121 rfl ?_
            refine aj.bipush (v := 40) dX12_readUnit_122 rfl ?_
            refine aj.rCall1 (d' := 0) (As := [.int 40]) (rest := []) hR dX12_readUnit_124 v_X12_132 li_X12_is rfl rfl rfl (Nat.le_of_ble_eq_true rfl) (by omega) (r_is 40 rfl (by decide) hR) (fun M hR => ?_)
            refine aj.if_neB (tgt := 139) dX12_readUnit_127 rfl (fun c127 => ?_) (fun c127 => ?_)
            · refine aj.aload_n dX12_readUnit_139 rfl ?_
              refine aj.rCall0 (d' := 5) (As := []) (rest := []) hR dX12_readUnit_140 v_X12_135 li_X12_next rfl rfl rfl (Nat.le_of_ble_eq_true rfl) (by omega) (r_next hG hC (c99) (by decide) (by decide) hR) (fun M hR => ?_)
              refine aj.goto (tgt := 151) dX12_readUnit_143 rfl ?_
              refine aj.aload_n dX12_readUnit_151 rfl ?_
              refine aj.iload_n dX12_readUnit_152 rfl ?_
              refine aj.rCall0 (d' := 8 * r + 10) (As := [.int x]) (rest := []) hR dX12_readUnit_153 v_X12_158 li_X12_readSum rfl rfl rfl (Nat.le_of_ble_eq_true rfl) (by omega) (hf _ (pNext (pSm st r S)) _ ex (by have := pNext_lt hsg.1 c99 (by decide) (by decide); omega) hR) (fun M hR => ?_)
              refine aj.aload_n dX12_readUnit_156 rfl ?_
              refine aj.iload_n dX12_readUnit_157 rfl ?_
              refine aj.rCall0 (d' := 0) (As := [.int 3004]) (rest := []) hR dX12_readUnit_158 v_X12_149 li_X12_codes rfl rfl rfl (Nat.le_of_ble_eq_true rfl) (by omega) (r_codes 3004 rfl hC.1 (by have h1 := pNext_lt hsg.1 c99 (by decide) (by decide); have h2 := (pSm_G st r).2 _ h1.1; omega) hR) (fun M hR => ?_)
              exact aj.vret rfl dX12_readUnit_161 ⟨rfl, by rw [show pUn st r S = pPush 3004 (pSm st r (pNext (pSm st r S))) from by unfold pUn pUnit; rw [if_neg c6, if_neg c39, if_pos (opCmp_i.mpr (by omega)), show (opCmp (pHd (pSm st r S))).getD 0 = 3004 by rw [c99]; rfl]]; exact hR⟩
            · exact absurd c127 (by omega)
      · refine aj.sipush (v := 3003) dX12_readUnit_87 rfl ?_
        refine aj.goto (tgt := 111) dX12_readUnit_90 rfl ?_
        refine aj.istore_n (lv' := [(2, .int 3003), (0, .ref b), (1, .int x)]) dX12_readUnit_111 (Nat.le_of_ble_eq_true rfl) rfl ?_
        refine aj.aload_n dX12_readUnit_112 rfl ?_
        refine aj.bipush (v := 39) dX12_readUnit_113 rfl ?_
        refine aj.rCall1 (d' := 0) (As := [.int 39]) (rest := []) hR dX12_readUnit_115 v_X12_132 li_X12_is rfl rfl rfl (Nat.le_of_ble_eq_true rfl) (by omega) (r_is 39 rfl (by decide) hR) (fun M hR => ?_)
        refine aj.if_neB (tgt := 139) dX12_readUnit_118 rfl (fun c118 => ?_) (fun c118 => ?_)
        · refine aj.aload_n dX12_readUnit_139 rfl ?_
          refine aj.rCall0 (d' := 5) (As := []) (rest := []) hR dX12_readUnit_140 v_X12_135 li_X12_next rfl rfl rfl (Nat.le_of_ble_eq_true rfl) (by omega) (r_next hG hC (c84) (by decide) (by decide) hR) (fun M hR => ?_)
          refine aj.goto (tgt := 151) dX12_readUnit_143 rfl ?_
          refine aj.aload_n dX12_readUnit_151 rfl ?_
          refine aj.iload_n dX12_readUnit_152 rfl ?_
          refine aj.rCall0 (d' := 8 * r + 10) (As := [.int x]) (rest := []) hR dX12_readUnit_153 v_X12_158 li_X12_readSum rfl rfl rfl (Nat.le_of_ble_eq_true rfl) (by omega) (hf _ (pNext (pSm st r S)) _ ex (by have := pNext_lt hsg.1 c84 (by decide) (by decide); omega) hR) (fun M hR => ?_)
          refine aj.aload_n dX12_readUnit_156 rfl ?_
          refine aj.iload_n dX12_readUnit_157 rfl ?_
          refine aj.rCall0 (d' := 0) (As := [.int 3003]) (rest := []) hR dX12_readUnit_158 v_X12_149 li_X12_codes rfl rfl rfl (Nat.le_of_ble_eq_true rfl) (by omega) (r_codes 3003 rfl hC.1 (by have h1 := pNext_lt hsg.1 c84 (by decide) (by decide); have h2 := (pSm_G st r).2 _ h1.1; omega) hR) (fun M hR => ?_)
          exact aj.vret rfl dX12_readUnit_161 ⟨rfl, by rw [show pUn st r S = pPush 3003 (pSm st r (pNext (pSm st r S))) from by unfold pUn pUnit; rw [if_neg c6, if_neg c39, if_pos (opCmp_i.mpr (by omega)), show (opCmp (pHd (pSm st r S))).getD 0 = 3003 by rw [c84]; rfl]]; exact hR⟩
        · exact absurd c118 (by omega)
    · refine aj.aload_n dX12_readUnit_42 rfl ?_
      refine aj.iload_n dX12_readUnit_43 rfl ?_
      refine aj.rCall1 (d' := 6) (As := [.int x]) (rest := []) hR dX12_readUnit_44 v_X12_155 li_X12_goesIn rfl rfl rfl (Nat.le_of_ble_eq_true rfl) (by omega) (r_goesIn hG hC r ex hr (c39) (by decide) (by decide) hR) (fun M hR => ?_)
      refine aj.if_neB (tgt := 51) dX12_readUnit_47 rfl (fun c47 => ?_) (fun c47 => ?_)
      · obtain ⟨q, rfl⟩ : ∃ q, r = q + 1 := ⟨r - 1, by omega⟩
        subst ex
        refine aj.aload_n dX12_readUnit_51 rfl ?_
        refine aj.iload_n dX12_readUnit_52 rfl ?_
        refine aj.iconst (v := 1) dX12_readUnit_53 rfl ?_
        refine aj.iaddN (a := 6 - (q + 1)) (b := 1) dX12_readUnit_54 rfl rfl ?_
        refine aj.rCall0 (d' := 8 * q + 13) (As := [.int (nI ((6 - (q + 1)) + 1))]) (rest := []) hR dX12_readUnit_55 v_X12_167 li_X12_readTruth rfl rfl rfl (Nat.le_of_ble_eq_true rfl) (by omega) ((hin q rfl).2.1 _ (pGo (q + 1) S) _ (by rw [(show nI ((6 - (q + 1)) + 1) = nI (6 - (q + 1) + 1) from rfl), show 6 - (q + 1) + 1 = 6 - q by omega]) (by have := pNext_lt hT c39 (by decide) (by decide); show pSz (pNext S) ≤ n; omega) hR) (fun M hR => ?_)
        refine aj.aload_n dX12_readUnit_58 rfl ?_
        refine aj.bipush (v := 38) dX12_readUnit_59 rfl ?_
        refine aj.rCall1 (d' := 6) (As := [.int 38]) (rest := []) hR dX12_readUnit_61 v_X12_161 li_X12_eats rfl rfl rfl (Nat.le_of_ble_eq_true rfl) (by omega) (r_eats hG hC 38 rfl (by decide) (by decide) hR) (fun M hR => ?_)
        refine aj.if_neB (tgt := 72) dX12_readUnit_64 rfl (fun c64 => ?_) (fun c64 => ?_)
        · rw [if_pos c64, ← pExp_y c64] at hR
          exact aj.vret rfl dX12_readUnit_72 ⟨rfl, by rw [show pUn st (q + 1) S = pExp 38 (pTr st q (pGo (q + 1) S)) from by unfold pUn pUnit; rw [if_neg c6, if_pos c39]; rfl]; exact hR⟩
        · rw [if_neg c64] at hR
          refine aj.aload_n dX12_readUnit_67 rfl ?_
          refine aj.iconst (v := 2) dX12_readUnit_68 rfl ?_
          refine aj.rCall0 (d' := 0) (As := [.int 2]) (rest := []) hR dX12_readUnit_69 v_X12_138 li_X12_fails rfl rfl rfl (Nat.le_of_ble_eq_true rfl) (by omega) (r_fails 2 rfl (by decide) hR) (fun M hR => ?_)
          rw [← pExp_n c64] at hR
          exact aj.vret rfl dX12_readUnit_72 ⟨rfl, by rw [show pUn st (q + 1) S = pExp 38 (pTr st q (pGo (q + 1) S)) from by unfold pUn pUnit; rw [if_neg c6, if_pos c39]; rfl]; exact hR⟩
      · have er : r = 0 := by omega
        subst er
        exact aj.vret rfl dX12_readUnit_50 ⟨rfl, by obtain ⟨e, he⟩ := pFail_in 4 S; rw [show pUn st 0 S = .inl e from by unfold pUn pUnit; rw [if_neg c6, if_pos c39, show pGo 0 S = .inl e from he, show (pLv st 0).2.1 (.inl e) = .inl e from rfl, (pExp_G (k := 38) (by decide) (by decide)).1]]; rw [show pGo 0 S = .inl e from he] at hR; exact hR⟩
  · refine aj.aload_n dX12_readUnit_9 rfl ?_
    refine aj.iload_n dX12_readUnit_10 rfl ?_
    refine aj.rCall1 (d' := 6) (As := [.int x]) (rest := []) hR dX12_readUnit_11 v_X12_155 li_X12_goesIn rfl rfl rfl (Nat.le_of_ble_eq_true rfl) (by omega) (r_goesIn hG hC r ex hr (c6) (by decide) (by decide) hR) (fun M hR => ?_)
    refine aj.if_neB (tgt := 18) dX12_readUnit_14 rfl (fun c14 => ?_) (fun c14 => ?_)
    · obtain ⟨q, rfl⟩ : ∃ q, r = q + 1 := ⟨r - 1, by omega⟩
      subst ex
      refine aj.aload_n dX12_readUnit_18 rfl ?_
      refine aj.iload_n dX12_readUnit_19 rfl ?_
      refine aj.iconst (v := 1) dX12_readUnit_20 rfl ?_
      refine aj.iaddN (a := 6 - (q + 1)) (b := 1) dX12_readUnit_21 rfl rfl ?_
      refine aj.rCall0 (d' := 8 * q + 11) (As := [.int (nI ((6 - (q + 1)) + 1))]) (rest := []) hR dX12_readUnit_22 v_X12_176 li_X12_readUnit rfl rfl rfl (Nat.le_of_ble_eq_true rfl) (by omega) ((hin q rfl).2.2 _ (pGo (q + 1) S) _ (by rw [(show nI ((6 - (q + 1)) + 1) = nI (6 - (q + 1) + 1) from rfl), show 6 - (q + 1) + 1 = 6 - q by omega]) (by have := pNext_lt hT c6 (by decide) (by decide); show pSz (pNext S) ≤ n; omega) hR) (fun M hR => ?_)
      refine aj.aload_n dX12_readUnit_25 rfl ?_
      refine aj.sipush (v := 3006) dX12_readUnit_26 rfl ?_
      refine aj.rCall0 (d' := 0) (As := [.int 3006]) (rest := []) hR dX12_readUnit_29 v_X12_149 li_X12_codes rfl rfl rfl (Nat.le_of_ble_eq_true rfl) (by omega) (r_codes 3006 rfl hC.1 (by have h1 := pNext_lt hT c6 (by decide) (by decide); have h2 := (pUn_G st q).2 _ h1.1; exact Nat.le_trans h2.2.1 (by omega)) hR) (fun M hR => ?_)
      exact aj.vret rfl dX12_readUnit_32 ⟨rfl, by rw [show pUn st (q + 1) S = pPush 3006 (pUn st q (pGo (q + 1) S)) from if_pos c6]; exact hR⟩
    · have er : r = 0 := by omega
      subst er
      exact aj.vret rfl dX12_readUnit_17 ⟨rfl, by obtain ⟨e, he⟩ := pFail_in 4 S; rw [show pUn st 0 S = .inl e from by unfold pUn pUnit; rw [if_pos c6, show pGo 0 S = .inl e from he]; rfl]; rw [show pGo 0 S = .inl e from he] at hR; exact hR⟩
theorem readBoth_loop {G : zG} {l : Launch} {b : Nat} {M0 : zM} {I0 : Nat → Int32} {A0 : Nat → Nat → Int32} {L : Nat → Nat → Int64} {tx : Nat → Nat} {n : Nat} {av : Nat → Nat} {fm : Nat} (hG : zSt G av fm) (hC : rC tx n I0 A0) (st : Bool) (r : Nat) {x : Int32} (ex : x = nI (6 - r)) (hf : rKc G l b M0 I0 A0 L tx n kX12_readUnit (8 * r + 11) r (pUn st r)) : ∀ (m : Nat) (S : pS) (M : zM), pLen S ≤ m + 1 → pSz S ≤ n → rW b M0 M I0 A0 L tx n S → aj G l kX12_readBoth (8 * r + 12) 5 [(0, .ref b), (1, .int x)] [] M 0 0 (zv (fun M' => rW b M0 M' I0 A0 L tx n (pLoop opAnd (pUn st r) m S))) := by
  have hfg := pUn_G st r
  intro m
  induction m with
  | zero =>
    intro S M hm hs hR
    have hT := hR.T
    refine aj.aload_n dX12_readBoth_5 rfl ?_
    refine aj.bipush (v := 19) dX12_readBoth_6 rfl ?_
    refine aj.rCall1 (d' := 6) (As := [.int 19]) (rest := []) hR dX12_readBoth_8 v_X12_161 li_X12_eats rfl rfl rfl (Nat.le_of_ble_eq_true rfl) (by omega) (r_eats hG hC 19 rfl (by decide) (by decide) hR) (fun M hR => ?_)
    refine aj.if_eqB (tgt := 29) dX12_readBoth_11 rfl (fun c11 => ?_) (fun c11 => ?_)
    · rw [if_neg c11] at hR
      exact aj.vret rfl dX12_readBoth_29 ⟨rfl, hR⟩
    · exact absurd (opAnd_i.mpr c11) (pT_1 opAnd_OK hT hm)
  | succ m ih =>
    intro S M hm hs hR
    have hT := hR.T
    refine aj.aload_n dX12_readBoth_5 rfl ?_
    refine aj.bipush (v := 19) dX12_readBoth_6 rfl ?_
    refine aj.rCall1 (d' := 6) (As := [.int 19]) (rest := []) hR dX12_readBoth_8 v_X12_161 li_X12_eats rfl rfl rfl (Nat.le_of_ble_eq_true rfl) (by omega) (r_eats hG hC 19 rfl (by decide) (by decide) hR) (fun M hR => ?_)
    refine aj.if_eqB (tgt := 29) dX12_readBoth_11 rfl (fun c11 => ?_) (fun c11 => ?_)
    · rw [if_neg c11] at hR
      exact aj.vret rfl dX12_readBoth_29 ⟨rfl, by rw [pLoop_none (fun z => c11 (opAnd_i.mp z))]; exact hR⟩
    · rw [if_pos c11] at hR
      have h1 := pNext_lt hT c11 (by decide) (by decide)
      have h2 := hfg.2 _ h1.1
      have h3 := pPush_sz 3007 (pUn st r (pNext S))
      have h4 := pPush_len 3007 (pUn st r (pNext S))
      refine aj.aload_n dX12_readBoth_14 rfl ?_
      refine aj.iload_n dX12_readBoth_15 rfl ?_
      refine aj.rCall0 (d' := 8 * r + 11) (As := [.int x]) (rest := []) hR dX12_readBoth_16 v_X12_176 li_X12_readUnit rfl rfl rfl (Nat.le_of_ble_eq_true rfl) (by omega) (hf _ (pNext S) _ ex (by omega) hR) (fun M hR => ?_)
      refine aj.aload_n dX12_readBoth_19 rfl ?_
      refine aj.sipush (v := 3007) dX12_readBoth_20 rfl ?_
      refine aj.rCall0 (d' := 0) (As := [.int 3007]) (rest := []) hR dX12_readBoth_23 v_X12_149 li_X12_codes rfl rfl rfl (Nat.le_of_ble_eq_true rfl) (by omega) (r_codes 3007 rfl hC.1 (by omega) hR) (fun M hR => ?_)
      refine aj.goto (tgt := 5) dX12_readBoth_26 rfl ?_
      rw [pLoop_some (opAnd_i.mpr c11), show (opAnd (pHd S)).getD 0 = 3007 by rw [c11]; rfl]
      exact ih _ M (by omega) (by omega) hR
theorem r_readBoth {G : zG} {l : Launch} {b : Nat} {M0 : zM} {I0 : Nat → Int32} {A0 : Nat → Nat → Int32} {L : Nat → Nat → Int64} {tx : Nat → Nat} {n : Nat} {av : Nat → Nat} {fm : Nat} (hG : zSt G av fm) (hC : rC tx n I0 A0) (st : Bool) (r : Nat) (hf : rKc G l b M0 I0 A0 L tx n kX12_readUnit (8 * r + 11) r (pUn st r)) : rKc G l b M0 I0 A0 L tx n kX12_readBoth (8 * r + 12) r (pBo st r) := by
  intro M S x ex hs hR
  have hT := hR.T
  have hg := (pUn_G st r).2 _ hT
  have hn := hC.1
  refine am.of (by decide) (Nat.le_of_ble_eq_true rfl) ?_
  refine aj.aload_n dX12_readBoth_0 rfl ?_
  refine aj.iload_n dX12_readBoth_1 rfl ?_
  refine aj.rCall0 (d' := 8 * r + 11) (As := [.int x]) (rest := []) hR dX12_readBoth_2 v_X12_176 li_X12_readUnit rfl rfl rfl (Nat.le_of_ble_eq_true rfl) (by omega) (hf _ S _ ex hs hR) (fun M hR => ?_)
  have hl := pLen_le (pUn st r S)
  exact readBoth_loop hG hC st r ex hf 900 _ M (by omega) (by omega) hR
theorem readTruth_loop {G : zG} {l : Launch} {b : Nat} {M0 : zM} {I0 : Nat → Int32} {A0 : Nat → Nat → Int32} {L : Nat → Nat → Int64} {tx : Nat → Nat} {n : Nat} {av : Nat → Nat} {fm : Nat} (hG : zSt G av fm) (hC : rC tx n I0 A0) (st : Bool) (r : Nat) {x : Int32} (ex : x = nI (6 - r)) (hf : rKc G l b M0 I0 A0 L tx n kX12_readBoth (8 * r + 12) r (pBo st r)) : ∀ (m : Nat) (S : pS) (M : zM), pLen S ≤ m + 1 → pSz S ≤ n → rW b M0 M I0 A0 L tx n S → aj G l kX12_readTruth (8 * r + 13) 5 [(0, .ref b), (1, .int x)] [] M 0 0 (zv (fun M' => rW b M0 M' I0 A0 L tx n (pLoop opOr (pBo st r) m S))) := by
  have hfg := pBo_G st r
  intro m
  induction m with
  | zero =>
    intro S M hm hs hR
    have hT := hR.T
    refine aj.aload_n dX12_readTruth_5 rfl ?_
    refine aj.bipush (v := 20) dX12_readTruth_6 rfl ?_
    refine aj.rCall1 (d' := 6) (As := [.int 20]) (rest := []) hR dX12_readTruth_8 v_X12_161 li_X12_eats rfl rfl rfl (Nat.le_of_ble_eq_true rfl) (by omega) (r_eats hG hC 20 rfl (by decide) (by decide) hR) (fun M hR => ?_)
    refine aj.if_eqB (tgt := 29) dX12_readTruth_11 rfl (fun c11 => ?_) (fun c11 => ?_)
    · rw [if_neg c11] at hR
      exact aj.vret rfl dX12_readTruth_29 ⟨rfl, hR⟩
    · exact absurd (opOr_i.mpr c11) (pT_1 opOr_OK hT hm)
  | succ m ih =>
    intro S M hm hs hR
    have hT := hR.T
    refine aj.aload_n dX12_readTruth_5 rfl ?_
    refine aj.bipush (v := 20) dX12_readTruth_6 rfl ?_
    refine aj.rCall1 (d' := 6) (As := [.int 20]) (rest := []) hR dX12_readTruth_8 v_X12_161 li_X12_eats rfl rfl rfl (Nat.le_of_ble_eq_true rfl) (by omega) (r_eats hG hC 20 rfl (by decide) (by decide) hR) (fun M hR => ?_)
    refine aj.if_eqB (tgt := 29) dX12_readTruth_11 rfl (fun c11 => ?_) (fun c11 => ?_)
    · rw [if_neg c11] at hR
      exact aj.vret rfl dX12_readTruth_29 ⟨rfl, by rw [pLoop_none (fun z => c11 (opOr_i.mp z))]; exact hR⟩
    · rw [if_pos c11] at hR
      have h1 := pNext_lt hT c11 (by decide) (by decide)
      have h2 := hfg.2 _ h1.1
      have h3 := pPush_sz 3008 (pBo st r (pNext S))
      have h4 := pPush_len 3008 (pBo st r (pNext S))
      refine aj.aload_n dX12_readTruth_14 rfl ?_
      refine aj.iload_n dX12_readTruth_15 rfl ?_
      refine aj.rCall0 (d' := 8 * r + 12) (As := [.int x]) (rest := []) hR dX12_readTruth_16 v_X12_179 li_X12_readBoth rfl rfl rfl (Nat.le_of_ble_eq_true rfl) (by omega) (hf _ (pNext S) _ ex (by omega) hR) (fun M hR => ?_)
      refine aj.aload_n dX12_readTruth_19 rfl ?_
      refine aj.sipush (v := 3008) dX12_readTruth_20 rfl ?_
      refine aj.rCall0 (d' := 0) (As := [.int 3008]) (rest := []) hR dX12_readTruth_23 v_X12_149 li_X12_codes rfl rfl rfl (Nat.le_of_ble_eq_true rfl) (by omega) (r_codes 3008 rfl hC.1 (by omega) hR) (fun M hR => ?_)
      refine aj.goto (tgt := 5) dX12_readTruth_26 rfl ?_
      rw [pLoop_some (opOr_i.mpr c11), show (opOr (pHd S)).getD 0 = 3008 by rw [c11]; rfl]
      exact ih _ M (by omega) (by omega) hR
theorem r_readTruth {G : zG} {l : Launch} {b : Nat} {M0 : zM} {I0 : Nat → Int32} {A0 : Nat → Nat → Int32} {L : Nat → Nat → Int64} {tx : Nat → Nat} {n : Nat} {av : Nat → Nat} {fm : Nat} (hG : zSt G av fm) (hC : rC tx n I0 A0) (st : Bool) (r : Nat) (hf : rKc G l b M0 I0 A0 L tx n kX12_readBoth (8 * r + 12) r (pBo st r)) : rKc G l b M0 I0 A0 L tx n kX12_readTruth (8 * r + 13) r (pTr st r) := by
  intro M S x ex hs hR
  have hT := hR.T
  have hg := (pBo_G st r).2 _ hT
  have hn := hC.1
  refine am.of (by decide) (Nat.le_of_ble_eq_true rfl) ?_
  refine aj.aload_n dX12_readTruth_0 rfl ?_
  refine aj.iload_n dX12_readTruth_1 rfl ?_
  refine aj.rCall0 (d' := 8 * r + 12) (As := [.int x]) (rest := []) hR dX12_readTruth_2 v_X12_179 li_X12_readBoth rfl rfl rfl (Nat.le_of_ble_eq_true rfl) (by omega) (hf _ S _ ex hs hR) (fun M hR => ?_)
  have hl := pLen_le (pBo st r S)
  exact readTruth_loop hG hC st r ex hf 900 _ M (by omega) (by omega) hR
theorem r_all {G : zG} {l : Launch} {b : Nat} {M0 : zM} {I0 : Nat → Int32} {A0 : Nat → Nat → Int32} {L : Nat → Nat → Int64} {tx : Nat → Nat} {n : Nat} {av : Nat → Nat} {fm : Nat} (hG : zSt G av fm) (hC : rC tx n I0 A0) (st : Bool) (h15 : I0 15 = if st then 0 else 1) : ∀ r, r ≤ 6 → rHc G l b M0 I0 A0 L tx n st r := by
  intro r
  induction r with
  | zero =>
    intro hr
    have hin : ∀ q, 0 = q + 1 → rHc G l b M0 I0 A0 L tx n st q := fun q hq => by
      omega
    have ha := r_readAtom (l := l) (b := b) (M0 := M0) (L := L) hG hC st h15 0 hr hin
    have ht := r_readTerm hG hC st 0 ha
    have hs := r_readSum hG hC st 0 ht
    have hu := r_readUnit hG hC st h15 0 hr hin hs
    have hb := r_readBoth hG hC st 0 hu
    exact ⟨hs, r_readTruth hG hC st 0 hb, hu⟩
  | succ r ih =>
    intro hr
    have hin : ∀ q, (r + 1) = q + 1 → rHc G l b M0 I0 A0 L tx n st q := fun q hq => by
      have e : r = q := by omega
      subst e
      exact ih (by omega)
    have ha := r_readAtom (l := l) (b := b) (M0 := M0) (L := L) hG hC st h15 (r + 1) hr hin
    have ht := r_readTerm hG hC st (r + 1) ha
    have hs := r_readSum hG hC st (r + 1) ht
    have hu := r_readUnit hG hC st h15 (r + 1) hr hin hs
    have hb := r_readBoth hG hC st (r + 1) hu
    exact ⟨hs, r_readTruth hG hC st (r + 1) hb, hu⟩
