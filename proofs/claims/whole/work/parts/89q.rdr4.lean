theorem readTerm_lpC {G : zG} {l : Launch} {a : Nat} {M0 : zM} {V0 : Nat → Nat → Int32} {W : Nat → Nat → Int64} {R : Nat → Nat → Option Nat} {T : List tkT} (hC : uC V0 T) (st : Bool) (r : Nat) {x : Int32} (ex : x = nI (6 - r)) (hf : uKc G l a M0 V0 W R T kX5_readAtom (8 * r + 4) r (pAt st r)) : ∀ (m i : Nat) (S : pS) (M : zM), i + m = 900 → pSz S ≤ 900 → uW a M0 M V0 W R T True S → aj G l kX5_readTerm (8 * r + 5) 7 [(2, .int (nI i)), (0, .ref (a + 2)), (1, .int x)] [] M 0 0 (zv (fun M' => uW a M0 M' V0 W R T True (pLoop opStar (pAt st r) m S))) := by
  intro m
  induction m with
  | zero =>
    intro i S M hi hs hR
    refine aj.iload_n dX5_readTerm_7 rfl ?_
    refine aj.sipush (v := 900) dX5_readTerm_8 rfl ?_
    refine aj.icmp_geN (a := i) (b := 900) (tgt := 45) dX5_readTerm_11 rfl rfl (by omega) (by omega) rfl (fun c11 => ?_) (fun c11 => ?_)
    · exact aj.vret rfl dX5_readTerm_45 ⟨rfl, hR⟩
    · exact absurd c11 (by omega)
  | succ m ih =>
    intro i S M hi hs hR
    have hT := hR.tk hC
    refine aj.iload_n dX5_readTerm_7 rfl ?_
    refine aj.sipush (v := 900) dX5_readTerm_8 rfl ?_
    refine aj.icmp_geN (a := i) (b := 900) (tgt := 45) dX5_readTerm_11 rfl rfl (by omega) (by omega) rfl (fun c11 => ?_) (fun c11 => ?_)
    · exact absurd c11 (by omega)
    · refine aj.aload_n dX5_readTerm_14 rfl ?_
      refine aj.uTok hR w172 dX5_readTerm_15 ?_
      refine aj.sipush (v := 2042) dX5_readTerm_18 rfl ?_
      refine aj.icmp_ne (tgt := 45) dX5_readTerm_21 rfl (fun c21 => ?_) (fun c21 => ?_)
      · have q21 : ¬ pHd S = 34 := fun z => c21 ((pTk_k hC hR kx34 (by decide) (by decide)).mpr z)
        exact aj.vret rfl dX5_readTerm_45 ⟨rfl, by rw [pLoop_none (fun z => q21 (opStar_i.mp z))]; exact hR⟩
      · have q21 : pHd S = 34 := (pTk_k hC hR kx34 (by decide) (by decide)).mp c21
        refine aj.aload_n dX5_readTerm_24 rfl ?_
        refine aj.uC0 (d' := 1) (As := []) (rest := []) hR dX5_readTerm_25 v_X5_76 li_X5_step rfl rfl rfl (Nat.le_of_ble_eq_true rfl) (by omega) (u_step hC (by omega) hR) (fun M hR => ?_)
        have hn1 := pNext_lt hT q21 (by decide) (by decide)
        have hT := hn1.1
        have hs1 : pSz (pNext S) + 1 ≤ 900 := by omega
        have hs : pSz (pNext S) ≤ 900 := by omega
        refine aj.aload_n dX5_readTerm_28 rfl ?_
        refine aj.iload_n dX5_readTerm_29 rfl ?_
        refine aj.uC0 (d' := 8 * r + 4) (As := [.int x]) (rest := []) hR dX5_readTerm_30 v_X5_157 li_X5_readAtom rfl rfl rfl (Nat.le_of_ble_eq_true rfl) (by omega) (hf _ (pNext S) _ ex hs hR) (fun M hR => ?_)
        have hg0 := (pAt_G st r).2 _ hT
        have hT := hg0.1
        have hs2 := hg0.2.1
        have hs := Nat.le_trans hg0.2.1 hs
        refine aj.aload_n dX5_readTerm_33 rfl ?_
        refine aj.bipush (v := (-3)) dX5_readTerm_34 rfl ?_
        refine aj.uC0 (d' := 0) (As := [.int (-3)]) (rest := []) hR dX5_readTerm_36 v_X5_141 li_X5_put rfl rfl rfl (Nat.le_of_ble_eq_true rfl) (by omega) (u_put 3002 en3002 hs hT hR) (fun M hR => ?_)
        have hp1 := pPush_sz 3002 (pAt st r (pNext S))
        have hp2 := pPush_len 3002 (pAt st r (pNext S))
        have hT := pPush_T (c := 3002) hT
        refine aj.iincN (a := i) (c := 1) (lv' := [(2, .int (nI (i + 1))), (0, .ref (a + 2)), (1, .int x)]) dX5_readTerm_39 rfl (Nat.le_of_ble_eq_true rfl) rfl rfl rfl ?_
        refine aj.goto (tgt := 7) dX5_readTerm_42 rfl ?_
        refine aj.pick [0, 1, 2] rfl ?_
        rw [pLoop_some (opStar_i.mpr q21), show (opStar (pHd S)).getD 0 = 3002 by rw [q21]; rfl]
        exact ih (i + 1) _ M (by omega) (by omega) hR
theorem u_readTerm {G : zG} {l : Launch} {a : Nat} {M0 : zM} {V0 : Nat → Nat → Int32} {W : Nat → Nat → Int64} {R : Nat → Nat → Option Nat} {T : List tkT} (hC : uC V0 T) (st : Bool) (r : Nat) (hf : uKc G l a M0 V0 W R T kX5_readAtom (8 * r + 4) r (pAt st r)) : uKc G l a M0 V0 W R T kX5_readTerm (8 * r + 5) r (pTm st r) := by
  intro M S x ex hs hR
  have hT := hR.tk hC
  refine am.of (by decide) (Nat.le_of_ble_eq_true rfl) ?_
  refine aj.aload_n dX5_readTerm_0 rfl ?_
  refine aj.iload_n dX5_readTerm_1 rfl ?_
  refine aj.uC0 (d' := 8 * r + 4) (As := [.int x]) (rest := []) hR dX5_readTerm_2 v_X5_157 li_X5_readAtom rfl rfl rfl (Nat.le_of_ble_eq_true rfl) (by omega) (hf _ S _ ex hs hR) (fun M hR => ?_)
  have hg0 := (pAt_G st r).2 _ hT
  have hT := hg0.1
  have hs2 := hg0.2.1
  have hs := Nat.le_trans hg0.2.1 hs
  refine aj.iconst (v := 0) dX5_readTerm_5 rfl ?_
  refine aj.istore_n (lv' := [(2, .int 0), (0, .ref (a + 2)), (1, .int x)]) dX5_readTerm_6 (Nat.le_of_ble_eq_true rfl) rfl ?_
  refine aj.pick [0, 1, 2] rfl ?_
  exact readTerm_lpC hC st r ex hf 900 0 _ M (by omega) hs hR
theorem readSum_lpC {G : zG} {l : Launch} {a : Nat} {M0 : zM} {V0 : Nat → Nat → Int32} {W : Nat → Nat → Int64} {R : Nat → Nat → Option Nat} {T : List tkT} (hC : uC V0 T) (st : Bool) (r : Nat) {x : Int32} (ex : x = nI (6 - r)) (hf : uKc G l a M0 V0 W R T kX5_readTerm (8 * r + 5) r (pTm st r)) : ∀ (m i : Nat) (S : pS) (M : zM), i + m = 900 → pSz S ≤ 900 → uW a M0 M V0 W R T True S → aj G l kX5_readSum (8 * r + 6) 7 [(2, .int (nI i)), (0, .ref (a + 2)), (1, .int x)] [] M 0 0 (zv (fun M' => uW a M0 M' V0 W R T True (pLoop opSum (pTm st r) m S))) := by
  intro m
  induction m with
  | zero =>
    intro i S M hi hs hR
    refine aj.iload_n dX5_readSum_7 rfl ?_
    refine aj.sipush (v := 900) dX5_readSum_8 rfl ?_
    refine aj.icmp_geN (a := i) (b := 900) (tgt := 71) dX5_readSum_11 rfl rfl (by omega) (by omega) rfl (fun c11 => ?_) (fun c11 => ?_)
    · exact aj.vret rfl dX5_readSum_71 ⟨rfl, hR⟩
    · exact absurd c11 (by omega)
  | succ m ih =>
    intro i S M hi hs hR
    have hT := hR.tk hC
    refine aj.iload_n dX5_readSum_7 rfl ?_
    refine aj.sipush (v := 900) dX5_readSum_8 rfl ?_
    refine aj.icmp_geN (a := i) (b := 900) (tgt := 71) dX5_readSum_11 rfl rfl (by omega) (by omega) rfl (fun c11 => ?_) (fun c11 => ?_)
    · exact absurd c11 (by omega)
    · refine aj.aload_n dX5_readSum_14 rfl ?_
      refine aj.uTok hR w172 dX5_readSum_15 ?_
      refine aj.sipush (v := 2043) dX5_readSum_18 rfl ?_
      refine aj.icmp_eq (tgt := 34) dX5_readSum_21 rfl (fun c21 => ?_) (fun c21 => ?_)
      · have q21 : pHd S = 32 := (pTk_k hC hR kx32 (by decide) (by decide)).mp c21
        refine aj.aload_n dX5_readSum_34 rfl ?_
        refine aj.uTok hR w172 dX5_readSum_35 ?_
        refine aj.sipush (v := 2043) dX5_readSum_38 rfl ?_
        refine aj.icmp_ne (tgt := 48) dX5_readSum_41 rfl (fun c41 => ?_) (fun c41 => ?_)
        · exact absurd ((pTk_k hC hR kx32 (by decide) (by decide)).mpr q21) c41
        · have q41 : pHd S = 32 := (pTk_k hC hR kx32 (by decide) (by decide)).mp c41
          refine aj.iconst (v := (-1)) dX5_readSum_44 rfl ?_
          refine aj.goto (tgt := 50) dX5_readSum_45 rfl ?_
          refine aj.istore_n (lv' := [(3, .int (-1)), (2, .int (nI i)), (0, .ref (a + 2)), (1, .int x)]) dX5_readSum_50 (Nat.le_of_ble_eq_true rfl) rfl ?_
          refine aj.aload_n dX5_readSum_51 rfl ?_
          refine aj.uC0 (d' := 1) (As := []) (rest := []) hR dX5_readSum_52 v_X5_76 li_X5_step rfl rfl rfl (Nat.le_of_ble_eq_true rfl) (by omega) (u_step hC (by omega) hR) (fun M hR => ?_)
          have hn1 := pNext_lt hT q21 (by decide) (by decide)
          have hT := hn1.1
          have hs1 : pSz (pNext S) + 1 ≤ 900 := by omega
          have hs : pSz (pNext S) ≤ 900 := by omega
          refine aj.aload_n dX5_readSum_55 rfl ?_
          refine aj.iload_n dX5_readSum_56 rfl ?_
          refine aj.uC0 (d' := 8 * r + 5) (As := [.int x]) (rest := []) hR dX5_readSum_57 v_X5_154 li_X5_readTerm rfl rfl rfl (Nat.le_of_ble_eq_true rfl) (by omega) (hf _ (pNext S) _ ex hs hR) (fun M hR => ?_)
          have hg0 := (pTm_G st r).2 _ hT
          have hT := hg0.1
          have hs2 := hg0.2.1
          have hs := Nat.le_trans hg0.2.1 hs
          refine aj.aload_n dX5_readSum_60 rfl ?_
          refine aj.iload_n dX5_readSum_61 rfl ?_
          refine aj.uC0 (d' := 0) (As := [.int (-1)]) (rest := []) hR dX5_readSum_62 v_X5_141 li_X5_put rfl rfl rfl (Nat.le_of_ble_eq_true rfl) (by omega) (u_put 3000 en3000 hs hT hR) (fun M hR => ?_)
          have hp1 := pPush_sz 3000 (pTm st r (pNext S))
          have hp2 := pPush_len 3000 (pTm st r (pNext S))
          have hT := pPush_T (c := 3000) hT
          refine aj.iincN (a := i) (c := 1) (lv' := [(2, .int (nI (i + 1))), (3, .int (-1)), (0, .ref (a + 2)), (1, .int x)]) dX5_readSum_65 rfl (Nat.le_of_ble_eq_true rfl) rfl rfl rfl ?_
          refine aj.goto (tgt := 7) dX5_readSum_68 rfl ?_
          refine aj.pick [0, 2, 3] rfl ?_
          rw [pLoop_some (opSum_i.mpr (Or.inl q21)), show (opSum (pHd S)).getD 0 = 3000 by rw [q21]; rfl]
          exact ih (i + 1) _ M (by omega) (by omega) hR
      · have q21 : ¬ pHd S = 32 := fun z => c21 ((pTk_k hC hR kx32 (by decide) (by decide)).mpr z)
        refine aj.aload_n dX5_readSum_24 rfl ?_
        refine aj.uTok hR w172 dX5_readSum_25 ?_
        refine aj.sipush (v := 2045) dX5_readSum_28 rfl ?_
        refine aj.icmp_ne (tgt := 71) dX5_readSum_31 rfl (fun c31 => ?_) (fun c31 => ?_)
        · have q31 : ¬ pHd S = 33 := fun z => c31 ((pTk_k hC hR kx33 (by decide) (by decide)).mpr z)
          exact aj.vret rfl dX5_readSum_71 ⟨rfl, by rw [pLoop_none (fun z => (opSum_i.mp z).elim q21 q31)]; exact hR⟩
        · have q31 : pHd S = 33 := (pTk_k hC hR kx33 (by decide) (by decide)).mp c31
          refine aj.aload_n dX5_readSum_34 rfl ?_
          refine aj.uTok hR w172 dX5_readSum_35 ?_
          refine aj.sipush (v := 2043) dX5_readSum_38 rfl ?_
          refine aj.icmp_ne (tgt := 48) dX5_readSum_41 rfl (fun c41 => ?_) (fun c41 => ?_)
          · have q41 : ¬ pHd S = 32 := fun z => c41 ((pTk_k hC hR kx32 (by decide) (by decide)).mpr z)
            have q41 : ¬ pHd S = 32 := fun z => c41 ((pTk_k hC hR kx32 (by decide) (by decide)).mpr z)
            refine aj.bipush (v := (-2)) dX5_readSum_48 rfl ?_
            refine aj.istore_n (lv' := [(3, .int (-2)), (2, .int (nI i)), (0, .ref (a + 2)), (1, .int x)]) dX5_readSum_50 (Nat.le_of_ble_eq_true rfl) rfl ?_
            refine aj.aload_n dX5_readSum_51 rfl ?_
            refine aj.uC0 (d' := 1) (As := []) (rest := []) hR dX5_readSum_52 v_X5_76 li_X5_step rfl rfl rfl (Nat.le_of_ble_eq_true rfl) (by omega) (u_step hC (by omega) hR) (fun M hR => ?_)
            have hn1 := pNext_lt hT q31 (by decide) (by decide)
            have hT := hn1.1
            have hs1 : pSz (pNext S) + 1 ≤ 900 := by omega
            have hs : pSz (pNext S) ≤ 900 := by omega
            refine aj.aload_n dX5_readSum_55 rfl ?_
            refine aj.iload_n dX5_readSum_56 rfl ?_
            refine aj.uC0 (d' := 8 * r + 5) (As := [.int x]) (rest := []) hR dX5_readSum_57 v_X5_154 li_X5_readTerm rfl rfl rfl (Nat.le_of_ble_eq_true rfl) (by omega) (hf _ (pNext S) _ ex hs hR) (fun M hR => ?_)
            have hg0 := (pTm_G st r).2 _ hT
            have hT := hg0.1
            have hs2 := hg0.2.1
            have hs := Nat.le_trans hg0.2.1 hs
            refine aj.aload_n dX5_readSum_60 rfl ?_
            refine aj.iload_n dX5_readSum_61 rfl ?_
            refine aj.uC0 (d' := 0) (As := [.int (-2)]) (rest := []) hR dX5_readSum_62 v_X5_141 li_X5_put rfl rfl rfl (Nat.le_of_ble_eq_true rfl) (by omega) (u_put 3001 en3001 hs hT hR) (fun M hR => ?_)
            have hp1 := pPush_sz 3001 (pTm st r (pNext S))
            have hp2 := pPush_len 3001 (pTm st r (pNext S))
            have hT := pPush_T (c := 3001) hT
            refine aj.iincN (a := i) (c := 1) (lv' := [(2, .int (nI (i + 1))), (3, .int (-2)), (0, .ref (a + 2)), (1, .int x)]) dX5_readSum_65 rfl (Nat.le_of_ble_eq_true rfl) rfl rfl rfl ?_
            refine aj.goto (tgt := 7) dX5_readSum_68 rfl ?_
            refine aj.pick [0, 2, 3] rfl ?_
            rw [pLoop_some (opSum_i.mpr (Or.inr q31)), show (opSum (pHd S)).getD 0 = 3001 by rw [q31]; rfl]
            exact ih (i + 1) _ M (by omega) (by omega) hR
          · exact absurd ((pTk_k hC hR kx32 (by decide) (by decide)).mp c41) (by omega)
theorem u_readSum {G : zG} {l : Launch} {a : Nat} {M0 : zM} {V0 : Nat → Nat → Int32} {W : Nat → Nat → Int64} {R : Nat → Nat → Option Nat} {T : List tkT} (hC : uC V0 T) (st : Bool) (r : Nat) (hf : uKc G l a M0 V0 W R T kX5_readTerm (8 * r + 5) r (pTm st r)) : uKc G l a M0 V0 W R T kX5_readSum (8 * r + 6) r (pSm st r) := by
  intro M S x ex hs hR
  have hT := hR.tk hC
  refine am.of (by decide) (Nat.le_of_ble_eq_true rfl) ?_
  refine aj.aload_n dX5_readSum_0 rfl ?_
  refine aj.iload_n dX5_readSum_1 rfl ?_
  refine aj.uC0 (d' := 8 * r + 5) (As := [.int x]) (rest := []) hR dX5_readSum_2 v_X5_154 li_X5_readTerm rfl rfl rfl (Nat.le_of_ble_eq_true rfl) (by omega) (hf _ S _ ex hs hR) (fun M hR => ?_)
  have hg0 := (pTm_G st r).2 _ hT
  have hT := hg0.1
  have hs2 := hg0.2.1
  have hs := Nat.le_trans hg0.2.1 hs
  refine aj.iconst (v := 0) dX5_readSum_5 rfl ?_
  refine aj.istore_n (lv' := [(2, .int 0), (0, .ref (a + 2)), (1, .int x)]) dX5_readSum_6 (Nat.le_of_ble_eq_true rfl) rfl ?_
  refine aj.pick [0, 1, 2] rfl ?_
  exact readSum_lpC hC st r ex hf 900 0 _ M (by omega) hs hR
def pCmp (st : Bool) (r : Nat) (S : pS) : pS := if (opCmp (pHd (pSm st r S))).isSome then pPush ((opCmp (pHd (pSm st r S))).getD 0) (pSm st r (pNext (pSm st r S))) else pFail 2 (pSm st r S)
theorem u_readCompared {G : zG} {l : Launch} {a : Nat} {M0 : zM} {V0 : Nat → Nat → Int32} {W : Nat → Nat → Int64} {R : Nat → Nat → Option Nat} {T : List tkT} (hC : uC V0 T) (st : Bool) (r : Nat) (hf : uKc G l a M0 V0 W R T kX5_readSum (8 * r + 6) r (pSm st r)) : uKc G l a M0 V0 W R T kX5_readCompared (8 * r + 7) r (pCmp st r) := by
  intro M S x ex hs hR
  have hT := hR.tk hC
  refine am.of (by decide) (Nat.le_of_ble_eq_true rfl) ?_
  refine aj.aload_n dX5_readCompared_0 rfl ?_
  refine aj.iload_n dX5_readCompared_1 rfl ?_
  refine aj.uC0 (d' := 8 * r + 6) (As := [.int x]) (rest := []) hR dX5_readCompared_2 v_X5_121 li_X5_readSum rfl rfl rfl (Nat.le_of_ble_eq_true rfl) (by omega) (hf _ S _ ex hs hR) (fun M hR => ?_)
  have hg0 := (pSm_G st r).2 _ hT
  have hT := hg0.1
  have hs2 := hg0.2.1
  have hs := Nat.le_trans hg0.2.1 hs
  refine aj.aload_n dX5_readCompared_5 rfl ?_
  refine aj.uTok hR w172 dX5_readCompared_6 ?_
  by_cases q39 : pHd (pSm st r S) = 39
  · rw [(pTk_k hC hR kx39 (by decide) (by decide)).mpr q39]
    refine aj.swIn (tgt := 36) (off := 27) dX5_readCompared_9 (by decide) (by decide) (by decide) rfl ?_
    refine aj.bipush (v := (-4)) dX5_readCompared_36 rfl ?_
    refine aj.istore_n (lv' := [(2, .int (-4)), (0, .ref (a + 2)), (1, .int x)]) dX5_readCompared_38 (Nat.le_of_ble_eq_true rfl) rfl ?_
    refine aj.goto (tgt := 60) dX5_readCompared_39 rfl ?_
    refine aj.aload_n dX5_readCompared_60 rfl ?_
    refine aj.uC0 (d' := 1) (As := []) (rest := []) hR dX5_readCompared_61 v_X5_76 li_X5_step rfl rfl rfl (Nat.le_of_ble_eq_true rfl) (by omega) (u_step hC (by omega) hR) (fun M hR => ?_)
    have hn1 := pNext_lt hT q39 (by decide) (by decide)
    have hT := hn1.1
    have hs1 : pSz (pNext (pSm st r S)) + 1 ≤ 900 := by omega
    have hs : pSz (pNext (pSm st r S)) ≤ 900 := by omega
    refine aj.aload_n dX5_readCompared_64 rfl ?_
    refine aj.iload_n dX5_readCompared_65 rfl ?_
    refine aj.uC0 (d' := 8 * r + 6) (As := [.int x]) (rest := []) hR dX5_readCompared_66 v_X5_121 li_X5_readSum rfl rfl rfl (Nat.le_of_ble_eq_true rfl) (by omega) (hf _ (pNext (pSm st r S)) _ ex hs hR) (fun M hR => ?_)
    have hg0 := (pSm_G st r).2 _ hT
    have hT := hg0.1
    have hs2 := hg0.2.1
    have hs := Nat.le_trans hg0.2.1 hs
    refine aj.aload_n dX5_readCompared_69 rfl ?_
    refine aj.iload_n dX5_readCompared_70 rfl ?_
    refine aj.uC0 (d' := 0) (As := [.int (-4)]) (rest := []) hR dX5_readCompared_71 v_X5_141 li_X5_put rfl rfl rfl (Nat.le_of_ble_eq_true rfl) (by omega) (u_put 3003 en3003 hs hT hR) (fun M hR => ?_)
    have hp1 := pPush_sz 3003 (pSm st r (pNext (pSm st r S)))
    have hp2 := pPush_len 3003 (pSm st r (pNext (pSm st r S)))
    have hT := pPush_T (c := 3003) hT
    exact aj.vret rfl dX5_readCompared_74 ⟨rfl, by unfold pCmp; rw [if_pos (opCmp_i.mpr (by omega)), show (opCmp (pHd (pSm st r S))).getD 0 = 3003 by rw [q39]; rfl]; exact hR⟩
  by_cases q40 : pHd (pSm st r S) = 40
  · rw [(pTk_k hC hR kx40 (by decide) (by decide)).mpr q40]
    refine aj.swIn (tgt := 42) (off := 33) dX5_readCompared_9 (by decide) (by decide) (by decide) rfl ?_
    refine aj.bipush (v := (-5)) dX5_readCompared_42 rfl ?_
    refine aj.istore_n (lv' := [(2, .int (-5)), (0, .ref (a + 2)), (1, .int x)]) dX5_readCompared_44 (Nat.le_of_ble_eq_true rfl) rfl ?_
    refine aj.goto (tgt := 60) dX5_readCompared_45 rfl ?_
    refine aj.aload_n dX5_readCompared_60 rfl ?_
    refine aj.uC0 (d' := 1) (As := []) (rest := []) hR dX5_readCompared_61 v_X5_76 li_X5_step rfl rfl rfl (Nat.le_of_ble_eq_true rfl) (by omega) (u_step hC (by omega) hR) (fun M hR => ?_)
    have hn1 := pNext_lt hT q40 (by decide) (by decide)
    have hT := hn1.1
    have hs1 : pSz (pNext (pSm st r S)) + 1 ≤ 900 := by omega
    have hs : pSz (pNext (pSm st r S)) ≤ 900 := by omega
    refine aj.aload_n dX5_readCompared_64 rfl ?_
    refine aj.iload_n dX5_readCompared_65 rfl ?_
    refine aj.uC0 (d' := 8 * r + 6) (As := [.int x]) (rest := []) hR dX5_readCompared_66 v_X5_121 li_X5_readSum rfl rfl rfl (Nat.le_of_ble_eq_true rfl) (by omega) (hf _ (pNext (pSm st r S)) _ ex hs hR) (fun M hR => ?_)
    have hg0 := (pSm_G st r).2 _ hT
    have hT := hg0.1
    have hs2 := hg0.2.1
    have hs := Nat.le_trans hg0.2.1 hs
    refine aj.aload_n dX5_readCompared_69 rfl ?_
    refine aj.iload_n dX5_readCompared_70 rfl ?_
    refine aj.uC0 (d' := 0) (As := [.int (-5)]) (rest := []) hR dX5_readCompared_71 v_X5_141 li_X5_put rfl rfl rfl (Nat.le_of_ble_eq_true rfl) (by omega) (u_put 3004 en3004 hs hT hR) (fun M hR => ?_)
    have hp1 := pPush_sz 3004 (pSm st r (pNext (pSm st r S)))
    have hp2 := pPush_len 3004 (pSm st r (pNext (pSm st r S)))
    have hT := pPush_T (c := 3004) hT
    exact aj.vret rfl dX5_readCompared_74 ⟨rfl, by unfold pCmp; rw [if_pos (opCmp_i.mpr (by omega)), show (opCmp (pHd (pSm st r S))).getD 0 = 3004 by rw [q40]; rfl]; exact hR⟩
  by_cases q41 : pHd (pSm st r S) = 41
  · rw [(pTk_k hC hR kx41 (by decide) (by decide)).mpr q41]
    refine aj.swIn (tgt := 48) (off := 39) dX5_readCompared_9 (by decide) (by decide) (by decide) rfl ?_
    refine aj.bipush (v := (-6)) dX5_readCompared_48 rfl ?_
    refine aj.istore_n (lv' := [(2, .int (-6)), (0, .ref (a + 2)), (1, .int x)]) dX5_readCompared_50 (Nat.le_of_ble_eq_true rfl) rfl ?_
    refine aj.goto (tgt := 60) dX5_readCompared_51 rfl ?_
    refine aj.aload_n dX5_readCompared_60 rfl ?_
    refine aj.uC0 (d' := 1) (As := []) (rest := []) hR dX5_readCompared_61 v_X5_76 li_X5_step rfl rfl rfl (Nat.le_of_ble_eq_true rfl) (by omega) (u_step hC (by omega) hR) (fun M hR => ?_)
    have hn1 := pNext_lt hT q41 (by decide) (by decide)
    have hT := hn1.1
    have hs1 : pSz (pNext (pSm st r S)) + 1 ≤ 900 := by omega
    have hs : pSz (pNext (pSm st r S)) ≤ 900 := by omega
    refine aj.aload_n dX5_readCompared_64 rfl ?_
    refine aj.iload_n dX5_readCompared_65 rfl ?_
    refine aj.uC0 (d' := 8 * r + 6) (As := [.int x]) (rest := []) hR dX5_readCompared_66 v_X5_121 li_X5_readSum rfl rfl rfl (Nat.le_of_ble_eq_true rfl) (by omega) (hf _ (pNext (pSm st r S)) _ ex hs hR) (fun M hR => ?_)
    have hg0 := (pSm_G st r).2 _ hT
    have hT := hg0.1
    have hs2 := hg0.2.1
    have hs := Nat.le_trans hg0.2.1 hs
    refine aj.aload_n dX5_readCompared_69 rfl ?_
    refine aj.iload_n dX5_readCompared_70 rfl ?_
    refine aj.uC0 (d' := 0) (As := [.int (-6)]) (rest := []) hR dX5_readCompared_71 v_X5_141 li_X5_put rfl rfl rfl (Nat.le_of_ble_eq_true rfl) (by omega) (u_put 3005 en3005 hs hT hR) (fun M hR => ?_)
    have hp1 := pPush_sz 3005 (pSm st r (pNext (pSm st r S)))
    have hp2 := pPush_len 3005 (pSm st r (pNext (pSm st r S)))
    have hT := pPush_T (c := 3005) hT
    exact aj.vret rfl dX5_readCompared_74 ⟨rfl, by unfold pCmp; rw [if_pos (opCmp_i.mpr (by omega)), show (opCmp (pHd (pSm st r S))).getD 0 = 3005 by rw [q41]; rfl]; exact hR⟩
  have z39 := toInt_ne (fun z => q39 ((pTk_k hC hR kx39 (by decide) (by decide)).mp z))
  have z40 := toInt_ne (fun z => q40 ((pTk_k hC hR kx40 (by decide) (by decide)).mp z))
  have z41 := toInt_ne (fun z => q41 ((pTk_k hC hR kx41 (by decide) (by decide)).mp z))
  have y39 : (2061 : Int32).toInt = 2061 := by decide
  have y40 : (2060 : Int32).toInt = 2060 := by decide
  have y41 : (2062 : Int32).toInt = 2062 := by decide
  refine aj.swOut (tgt := 54) dX5_readCompared_9 (by omega) rfl ?_
  refine aj.aload_n dX5_readCompared_54 rfl ?_
  refine aj.iconst (v := 2) dX5_readCompared_55 rfl ?_
  refine aj.uC0 (d' := 1) (As := [.int 2]) (rest := []) hR dX5_readCompared_56 v_X5_79 li_X5_fail rfl rfl rfl (Nat.le_of_ble_eq_true rfl) (by omega) (u_fail hC 2 rfl (by decide) hR) (fun M hR => ?_)
  exact aj.vret rfl dX5_readCompared_59 ⟨rfl, by unfold pCmp; rw [if_neg (fun z => by have := opCmp_i.mp z; omega)]; exact hR⟩
theorem u_readUnit {G : zG} {l : Launch} {a : Nat} {M0 : zM} {V0 : Nat → Nat → Int32} {W : Nat → Nat → Int64} {R : Nat → Nat → Option Nat} {T : List tkT} (hC : uC V0 T) (st : Bool) (hst : V0 2 3 = if st then 1 else 0) (r : Nat) (hr : r ≤ 6) (hin : ∀ q, r = q + 1 → uHc G l a M0 V0 W R T st q) (hf : uKc G l a M0 V0 W R T kX5_readCompared (8 * r + 7) r (pCmp st r)) : uKc G l a M0 V0 W R T kX5_readUnit (8 * r + 8) r (pUn st r) := by
  intro M S x ex hs hR
  have hT := hR.tk hC
  refine am.of (by decide) (Nat.le_of_ble_eq_true rfl) ?_
  refine aj.aload_n dX5_readUnit_0 rfl ?_
  refine aj.uTok hR w172 dX5_readUnit_1 ?_
  refine aj.sipush (v := 1012) dX5_readUnit_4 rfl ?_
  refine aj.icmp_ne (tgt := 34) dX5_readUnit_7 rfl (fun c7 => ?_) (fun c7 => ?_)
  · have q7 : ¬ pHd S = 21 := fun z => c7 ((pTk_k hC hR kx21 (by decide) (by decide)).mpr z)
    refine aj.aload_n dX5_readUnit_34 rfl ?_
    refine aj.uTok hR w172 dX5_readUnit_35 ?_
    refine aj.sipush (v := 2091) dX5_readUnit_38 rfl ?_
    refine aj.icmp_ne (tgt := 69) dX5_readUnit_41 rfl (fun c41 => ?_) (fun c41 => ?_)
    · have q41 : ¬ pHd S = 37 := fun z => c41 ((pTk_k hC hR kx37 (by decide) (by decide)).mpr z)
      refine aj.aload_n dX5_readUnit_69 rfl ?_
      refine aj.iload_n dX5_readUnit_70 rfl ?_
      refine aj.uC0 (d' := 8 * r + 7) (As := [.int x]) (rest := []) hR dX5_readUnit_71 v_X5_151 li_X5_readCompared rfl rfl rfl (Nat.le_of_ble_eq_true rfl) (by omega) (hf _ S _ ex hs hR) (fun M hR => ?_)
      have e1 : pUn st r S = pCmp st r S := by unfold pUn pUnit; rw [if_neg q7, if_neg q41]; rfl
      exact aj.vret rfl dX5_readUnit_74 ⟨rfl, by rw [e1]; exact hR⟩
    · have q41 : pHd S = 37 := (pTk_k hC hR kx37 (by decide) (by decide)).mp c41
      refine aj.aload_n dX5_readUnit_44 rfl ?_
      refine aj.iload_n dX5_readUnit_45 rfl ?_
      refine aj.uC1 (d' := 2) (As := [.int x]) (rest := []) hR dX5_readUnit_46 v_X5_147 li_X5_goesWithin rfl rfl rfl (Nat.le_of_ble_eq_true rfl) (by omega) (u_goes hC r ex hr q41 (by decide) hR) (fun M hR => ?_)
      refine aj.if_eqB (tgt := 74) dX5_readUnit_49 rfl (fun c49 => ?_) (fun c49 => ?_)
      · have er : r = 0 := by omega
        subst er
        replace hR : uW a M0 M V0 W R T True (pFail 4 S) := hR
        obtain ⟨e, he⟩ := pFail_in 4 S
        have e1 : pUn st 0 S = .inl e := by unfold pUn pUnit; rw [if_neg q7, if_pos q41, show pGo 0 S = .inl e from he, show (pLv st 0).2.1 (.inl e) = .inl e from rfl, (pExp_G (k := 38) (by decide) (by decide)).1]
        rw [he] at hR
        exact aj.vret rfl dX5_readUnit_74 ⟨rfl, by rw [e1]; exact hR⟩
      · obtain ⟨q, rfl⟩ : ∃ q, r = q + 1 := ⟨r - 1, by omega⟩
        subst ex
        have hn1 := pNext_lt hT q41 (by decide) (by decide)
        have hT := hn1.1
        have hs : pSz (pNext S) ≤ 900 := by omega
        replace hR : uW a M0 M V0 W R T True (pNext S) := hR
        refine aj.aload_n dX5_readUnit_52 rfl ?_
        refine aj.iload_n dX5_readUnit_53 rfl ?_
        refine aj.iconst (v := 1) dX5_readUnit_54 rfl ?_
        refine aj.iaddN (a := 6 - (q + 1)) (b := 1) dX5_readUnit_55 rfl rfl ?_
        refine aj.uC0 (d' := 8 * q + 10) (As := [.int (nI ((6 - (q + 1)) + 1))]) (rest := []) hR dX5_readUnit_56 v_X5_124 li_X5_readTruth rfl rfl rfl (Nat.le_of_ble_eq_true rfl) (by omega) ((hin q rfl).2.1 _ (pNext S) _ (show nI ((6 - (q + 1)) + 1) = nI (6 - q) by rw [show 6 - (q + 1) + 1 = 6 - q by omega]) hs hR) (fun M hR => ?_)
        have hg0 := (pTr_G st q).2 _ hT
        have hT := hg0.1
        have hs := Nat.le_trans hg0.2.1 hs
        refine aj.aload_n dX5_readUnit_59 rfl ?_
        refine aj.sipush (v := 2093) dX5_readUnit_60 rfl ?_
        refine aj.uC0 (d' := 2) (As := [.int 2093]) (rest := []) hR dX5_readUnit_63 v_X5_52 li_X5_take rfl rfl rfl (Nat.le_of_ble_eq_true rfl) (by omega) (u_take hC 38 kx38 (by decide) (by decide) (by decide) hR) (fun M hR => ?_)
        have hg0 := (pExp_G (k := 38) (by decide) (by decide)).2 _ hT
        have hT := hg0.1
        have hs := Nat.le_trans hg0.2.1 hs
        refine aj.goto (tgt := 74) dX5_readUnit_66 rfl ?_
        have e1 : pUn st (q + 1) S = pExp 38 (pTr st q (pNext S)) := by unfold pUn pUnit; rw [if_neg q7, if_pos q41]; rfl
        exact aj.vret rfl dX5_readUnit_74 ⟨rfl, by rw [e1]; exact hR⟩
  · have q7 : pHd S = 21 := (pTk_k hC hR kx21 (by decide) (by decide)).mp c7
    refine aj.aload_n dX5_readUnit_10 rfl ?_
    refine aj.iload_n dX5_readUnit_11 rfl ?_
    refine aj.uC1 (d' := 2) (As := [.int x]) (rest := []) hR dX5_readUnit_12 v_X5_147 li_X5_goesWithin rfl rfl rfl (Nat.le_of_ble_eq_true rfl) (by omega) (u_goes hC r ex hr q7 (by decide) hR) (fun M hR => ?_)
    refine aj.if_eqB (tgt := 74) dX5_readUnit_15 rfl (fun c15 => ?_) (fun c15 => ?_)
    · have er : r = 0 := by omega
      subst er
      replace hR : uW a M0 M V0 W R T True (pFail 4 S) := hR
      obtain ⟨e, he⟩ := pFail_in 4 S
      have e1 : pUn st 0 S = .inl e := by unfold pUn pUnit; rw [if_pos q7, show pGo 0 S = .inl e from he]; rfl
      rw [he] at hR
      exact aj.vret rfl dX5_readUnit_74 ⟨rfl, by rw [e1]; exact hR⟩
    · obtain ⟨q, rfl⟩ : ∃ q, r = q + 1 := ⟨r - 1, by omega⟩
      subst ex
      have hn1 := pNext_lt hT q7 (by decide) (by decide)
      have hT := hn1.1
      have hs : pSz (pNext S) ≤ 900 := by omega
      replace hR : uW a M0 M V0 W R T True (pNext S) := hR
      refine aj.aload_n dX5_readUnit_18 rfl ?_
      refine aj.iload_n dX5_readUnit_19 rfl ?_
      refine aj.iconst (v := 1) dX5_readUnit_20 rfl ?_
      refine aj.iaddN (a := 6 - (q + 1)) (b := 1) dX5_readUnit_21 rfl rfl ?_
      refine aj.uC0 (d' := 8 * q + 8) (As := [.int (nI ((6 - (q + 1)) + 1))]) (rest := []) hR dX5_readUnit_22 v_X5_144 li_X5_readUnit rfl rfl rfl (Nat.le_of_ble_eq_true rfl) (by omega) ((hin q rfl).2.2 _ (pNext S) _ (show nI ((6 - (q + 1)) + 1) = nI (6 - q) by rw [show 6 - (q + 1) + 1 = 6 - q by omega]) hs hR) (fun M hR => ?_)
      have hg0 := (pUn_G st q).2 _ hT
      have hT := hg0.1
      have hs := Nat.le_trans hg0.2.1 hs
      refine aj.aload_n dX5_readUnit_25 rfl ?_
      refine aj.bipush (v := (-9)) dX5_readUnit_26 rfl ?_
      refine aj.uC0 (d' := 0) (As := [.int (-9)]) (rest := []) hR dX5_readUnit_28 v_X5_141 li_X5_put rfl rfl rfl (Nat.le_of_ble_eq_true rfl) (by omega) (u_put 3006 en3006 hs hT hR) (fun M hR => ?_)
      have hp1 := pPush_sz 3006 (pUn st q (pNext S))
      have hp2 := pPush_len 3006 (pUn st q (pNext S))
      have hT := pPush_T (c := 3006) hT
      refine aj.goto (tgt := 74) dX5_readUnit_31 rfl ?_
      have e1 : pUn st (q + 1) S = pPush 3006 (pUn st q (pNext S)) := by unfold pUn pUnit; rw [if_pos q7]; rfl
      exact aj.vret rfl dX5_readUnit_74 ⟨rfl, by rw [e1]; exact hR⟩
theorem readBoth_lpC {G : zG} {l : Launch} {a : Nat} {M0 : zM} {V0 : Nat → Nat → Int32} {W : Nat → Nat → Int64} {R : Nat → Nat → Option Nat} {T : List tkT} (hC : uC V0 T) (st : Bool) (r : Nat) {x : Int32} (ex : x = nI (6 - r)) (hf : uKc G l a M0 V0 W R T kX5_readUnit (8 * r + 8) r (pUn st r)) : ∀ (m i : Nat) (S : pS) (M : zM), i + m = 900 → pSz S ≤ 900 → uW a M0 M V0 W R T True S → aj G l kX5_readBoth (8 * r + 9) 7 [(2, .int (nI i)), (0, .ref (a + 2)), (1, .int x)] [] M 0 0 (zv (fun M' => uW a M0 M' V0 W R T True (pLoop opAnd (pUn st r) m S))) := by
  intro m
  induction m with
  | zero =>
    intro i S M hi hs hR
    refine aj.iload_n dX5_readBoth_7 rfl ?_
    refine aj.sipush (v := 900) dX5_readBoth_8 rfl ?_
    refine aj.icmp_geN (a := i) (b := 900) (tgt := 45) dX5_readBoth_11 rfl rfl (by omega) (by omega) rfl (fun c11 => ?_) (fun c11 => ?_)
    · exact aj.vret rfl dX5_readBoth_45 ⟨rfl, hR⟩
    · exact absurd c11 (by omega)
  | succ m ih =>
    intro i S M hi hs hR
    have hT := hR.tk hC
    refine aj.iload_n dX5_readBoth_7 rfl ?_
    refine aj.sipush (v := 900) dX5_readBoth_8 rfl ?_
    refine aj.icmp_geN (a := i) (b := 900) (tgt := 45) dX5_readBoth_11 rfl rfl (by omega) (by omega) rfl (fun c11 => ?_) (fun c11 => ?_)
    · exact absurd c11 (by omega)
    · refine aj.aload_n dX5_readBoth_14 rfl ?_
      refine aj.uTok hR w172 dX5_readBoth_15 ?_
      refine aj.sipush (v := 1011) dX5_readBoth_18 rfl ?_
      refine aj.icmp_ne (tgt := 45) dX5_readBoth_21 rfl (fun c21 => ?_) (fun c21 => ?_)
      · have q21 : ¬ pHd S = 19 := fun z => c21 ((pTk_k hC hR kx19 (by decide) (by decide)).mpr z)
        exact aj.vret rfl dX5_readBoth_45 ⟨rfl, by rw [pLoop_none (fun z => q21 (opAnd_i.mp z))]; exact hR⟩
      · have q21 : pHd S = 19 := (pTk_k hC hR kx19 (by decide) (by decide)).mp c21
        refine aj.aload_n dX5_readBoth_24 rfl ?_
        refine aj.uC0 (d' := 1) (As := []) (rest := []) hR dX5_readBoth_25 v_X5_76 li_X5_step rfl rfl rfl (Nat.le_of_ble_eq_true rfl) (by omega) (u_step hC (by omega) hR) (fun M hR => ?_)
        have hn1 := pNext_lt hT q21 (by decide) (by decide)
        have hT := hn1.1
        have hs1 : pSz (pNext S) + 1 ≤ 900 := by omega
        have hs : pSz (pNext S) ≤ 900 := by omega
        refine aj.aload_n dX5_readBoth_28 rfl ?_
        refine aj.iload_n dX5_readBoth_29 rfl ?_
        refine aj.uC0 (d' := 8 * r + 8) (As := [.int x]) (rest := []) hR dX5_readBoth_30 v_X5_144 li_X5_readUnit rfl rfl rfl (Nat.le_of_ble_eq_true rfl) (by omega) (hf _ (pNext S) _ ex hs hR) (fun M hR => ?_)
        have hg0 := (pUn_G st r).2 _ hT
        have hT := hg0.1
        have hs2 := hg0.2.1
        have hs := Nat.le_trans hg0.2.1 hs
        refine aj.aload_n dX5_readBoth_33 rfl ?_
        refine aj.bipush (v := (-7)) dX5_readBoth_34 rfl ?_
        refine aj.uC0 (d' := 0) (As := [.int (-7)]) (rest := []) hR dX5_readBoth_36 v_X5_141 li_X5_put rfl rfl rfl (Nat.le_of_ble_eq_true rfl) (by omega) (u_put 3007 en3007 hs hT hR) (fun M hR => ?_)
        have hp1 := pPush_sz 3007 (pUn st r (pNext S))
        have hp2 := pPush_len 3007 (pUn st r (pNext S))
        have hT := pPush_T (c := 3007) hT
        refine aj.iincN (a := i) (c := 1) (lv' := [(2, .int (nI (i + 1))), (0, .ref (a + 2)), (1, .int x)]) dX5_readBoth_39 rfl (Nat.le_of_ble_eq_true rfl) rfl rfl rfl ?_
        refine aj.goto (tgt := 7) dX5_readBoth_42 rfl ?_
        refine aj.pick [0, 1, 2] rfl ?_
        rw [pLoop_some (opAnd_i.mpr q21), show (opAnd (pHd S)).getD 0 = 3007 by rw [q21]; rfl]
        exact ih (i + 1) _ M (by omega) (by omega) hR
theorem u_readBoth {G : zG} {l : Launch} {a : Nat} {M0 : zM} {V0 : Nat → Nat → Int32} {W : Nat → Nat → Int64} {R : Nat → Nat → Option Nat} {T : List tkT} (hC : uC V0 T) (st : Bool) (r : Nat) (hf : uKc G l a M0 V0 W R T kX5_readUnit (8 * r + 8) r (pUn st r)) : uKc G l a M0 V0 W R T kX5_readBoth (8 * r + 9) r (pBo st r) := by
  intro M S x ex hs hR
  have hT := hR.tk hC
  refine am.of (by decide) (Nat.le_of_ble_eq_true rfl) ?_
  refine aj.aload_n dX5_readBoth_0 rfl ?_
  refine aj.iload_n dX5_readBoth_1 rfl ?_
  refine aj.uC0 (d' := 8 * r + 8) (As := [.int x]) (rest := []) hR dX5_readBoth_2 v_X5_144 li_X5_readUnit rfl rfl rfl (Nat.le_of_ble_eq_true rfl) (by omega) (hf _ S _ ex hs hR) (fun M hR => ?_)
  have hg0 := (pUn_G st r).2 _ hT
  have hT := hg0.1
  have hs2 := hg0.2.1
  have hs := Nat.le_trans hg0.2.1 hs
  refine aj.iconst (v := 0) dX5_readBoth_5 rfl ?_
  refine aj.istore_n (lv' := [(2, .int 0), (0, .ref (a + 2)), (1, .int x)]) dX5_readBoth_6 (Nat.le_of_ble_eq_true rfl) rfl ?_
  refine aj.pick [0, 1, 2] rfl ?_
  exact readBoth_lpC hC st r ex hf 900 0 _ M (by omega) hs hR
theorem readTruth_lpC {G : zG} {l : Launch} {a : Nat} {M0 : zM} {V0 : Nat → Nat → Int32} {W : Nat → Nat → Int64} {R : Nat → Nat → Option Nat} {T : List tkT} (hC : uC V0 T) (st : Bool) (r : Nat) {x : Int32} (ex : x = nI (6 - r)) (hf : uKc G l a M0 V0 W R T kX5_readBoth (8 * r + 9) r (pBo st r)) : ∀ (m i : Nat) (S : pS) (M : zM), i + m = 900 → pSz S ≤ 900 → uW a M0 M V0 W R T True S → aj G l kX5_readTruth (8 * r + 10) 7 [(2, .int (nI i)), (0, .ref (a + 2)), (1, .int x)] [] M 0 0 (zv (fun M' => uW a M0 M' V0 W R T True (pLoop opOr (pBo st r) m S))) := by
  intro m
  induction m with
  | zero =>
    intro i S M hi hs hR
    refine aj.iload_n dX5_readTruth_7 rfl ?_
    refine aj.sipush (v := 900) dX5_readTruth_8 rfl ?_
    refine aj.icmp_geN (a := i) (b := 900) (tgt := 45) dX5_readTruth_11 rfl rfl (by omega) (by omega) rfl (fun c11 => ?_) (fun c11 => ?_)
    · exact aj.vret rfl dX5_readTruth_45 ⟨rfl, hR⟩
    · exact absurd c11 (by omega)
  | succ m ih =>
    intro i S M hi hs hR
    have hT := hR.tk hC
    refine aj.iload_n dX5_readTruth_7 rfl ?_
    refine aj.sipush (v := 900) dX5_readTruth_8 rfl ?_
    refine aj.icmp_geN (a := i) (b := 900) (tgt := 45) dX5_readTruth_11 rfl rfl (by omega) (by omega) rfl (fun c11 => ?_) (fun c11 => ?_)
    · exact absurd c11 (by omega)
    · refine aj.aload_n dX5_readTruth_14 rfl ?_
      refine aj.uTok hR w172 dX5_readTruth_15 ?_
      refine aj.sipush (v := 1010) dX5_readTruth_18 rfl ?_
      refine aj.icmp_ne (tgt := 45) dX5_readTruth_21 rfl (fun c21 => ?_) (fun c21 => ?_)
      · have q21 : ¬ pHd S = 20 := fun z => c21 ((pTk_k hC hR kx20 (by decide) (by decide)).mpr z)
        exact aj.vret rfl dX5_readTruth_45 ⟨rfl, by rw [pLoop_none (fun z => q21 (opOr_i.mp z))]; exact hR⟩
      · have q21 : pHd S = 20 := (pTk_k hC hR kx20 (by decide) (by decide)).mp c21
        refine aj.aload_n dX5_readTruth_24 rfl ?_
        refine aj.uC0 (d' := 1) (As := []) (rest := []) hR dX5_readTruth_25 v_X5_76 li_X5_step rfl rfl rfl (Nat.le_of_ble_eq_true rfl) (by omega) (u_step hC (by omega) hR) (fun M hR => ?_)
        have hn1 := pNext_lt hT q21 (by decide) (by decide)
        have hT := hn1.1
        have hs1 : pSz (pNext S) + 1 ≤ 900 := by omega
        have hs : pSz (pNext S) ≤ 900 := by omega
        refine aj.aload_n dX5_readTruth_28 rfl ?_
        refine aj.iload_n dX5_readTruth_29 rfl ?_
        refine aj.uC0 (d' := 8 * r + 9) (As := [.int x]) (rest := []) hR dX5_readTruth_30 v_X5_138 li_X5_readBoth rfl rfl rfl (Nat.le_of_ble_eq_true rfl) (by omega) (hf _ (pNext S) _ ex hs hR) (fun M hR => ?_)
        have hg0 := (pBo_G st r).2 _ hT
        have hT := hg0.1
        have hs2 := hg0.2.1
        have hs := Nat.le_trans hg0.2.1 hs
        refine aj.aload_n dX5_readTruth_33 rfl ?_
        refine aj.bipush (v := (-8)) dX5_readTruth_34 rfl ?_
        refine aj.uC0 (d' := 0) (As := [.int (-8)]) (rest := []) hR dX5_readTruth_36 v_X5_141 li_X5_put rfl rfl rfl (Nat.le_of_ble_eq_true rfl) (by omega) (u_put 3008 en3008 hs hT hR) (fun M hR => ?_)
        have hp1 := pPush_sz 3008 (pBo st r (pNext S))
        have hp2 := pPush_len 3008 (pBo st r (pNext S))
        have hT := pPush_T (c := 3008) hT
        refine aj.iincN (a := i) (c := 1) (lv' := [(2, .int (nI (i + 1))), (0, .ref (a + 2)), (1, .int x)]) dX5_readTruth_39 rfl (Nat.le_of_ble_eq_true rfl) rfl rfl rfl ?_
        refine aj.goto (tgt := 7) dX5_readTruth_42 rfl ?_
        refine aj.pick [0, 1, 2] rfl ?_
        rw [pLoop_some (opOr_i.mpr q21), show (opOr (pHd S)).getD 0 = 3008 by rw [q21]; rfl]
        exact ih (i + 1) _ M (by omega) (by omega) hR
theorem u_readTruth {G : zG} {l : Launch} {a : Nat} {M0 : zM} {V0 : Nat → Nat → Int32} {W : Nat → Nat → Int64} {R : Nat → Nat → Option Nat} {T : List tkT} (hC : uC V0 T) (st : Bool) (r : Nat) (hf : uKc G l a M0 V0 W R T kX5_readBoth (8 * r + 9) r (pBo st r)) : uKc G l a M0 V0 W R T kX5_readTruth (8 * r + 10) r (pTr st r) := by
  intro M S x ex hs hR
  have hT := hR.tk hC
  refine am.of (by decide) (Nat.le_of_ble_eq_true rfl) ?_
  refine aj.aload_n dX5_readTruth_0 rfl ?_
  refine aj.iload_n dX5_readTruth_1 rfl ?_
  refine aj.uC0 (d' := 8 * r + 9) (As := [.int x]) (rest := []) hR dX5_readTruth_2 v_X5_138 li_X5_readBoth rfl rfl rfl (Nat.le_of_ble_eq_true rfl) (by omega) (hf _ S _ ex hs hR) (fun M hR => ?_)
  have hg0 := (pBo_G st r).2 _ hT
  have hT := hg0.1
  have hs2 := hg0.2.1
  have hs := Nat.le_trans hg0.2.1 hs
  refine aj.iconst (v := 0) dX5_readTruth_5 rfl ?_
  refine aj.istore_n (lv' := [(2, .int 0), (0, .ref (a + 2)), (1, .int x)]) dX5_readTruth_6 (Nat.le_of_ble_eq_true rfl) rfl ?_
  refine aj.pick [0, 1, 2] rfl ?_
  exact readTruth_lpC hC st r ex hf 900 0 _ M (by omega) hs hR
theorem u_all {G : zG} {l : Launch} {a : Nat} {M0 : zM} {V0 : Nat → Nat → Int32} {W : Nat → Nat → Int64} {R : Nat → Nat → Option Nat} {T : List tkT} (hC : uC V0 T) (st : Bool) (hst : V0 2 3 = if st then 1 else 0) : ∀ r, r ≤ 6 → uHc G l a M0 V0 W R T st r := by
  intro r
  induction r with
  | zero =>
    intro hr
    have hin : ∀ q, 0 = q + 1 → uHc G l a M0 V0 W R T st q := fun q hq => by
      omega
    have ha := u_readAtom (l := l) (a := a) (M0 := M0) (W := W) (R := R) hC st hst 0 hr hin
    have ht := u_readTerm hC st 0 ha
    have hs := u_readSum hC st 0 ht
    have hc := u_readCompared hC st 0 hs
    have hu := u_readUnit hC st hst 0 hr hin hc
    have hb := u_readBoth hC st 0 hu
    exact ⟨hs, u_readTruth hC st 0 hb, hu⟩
  | succ r ih =>
    intro hr
    have hin : ∀ q, (r + 1) = q + 1 → uHc G l a M0 V0 W R T st q := fun q hq => by
      have e : r = q := by omega
      subst e
      exact ih (by omega)
    have ha := u_readAtom (l := l) (a := a) (M0 := M0) (W := W) (R := R) hC st hst (r + 1) hr hin
    have ht := u_readTerm hC st (r + 1) ha
    have hs := u_readSum hC st (r + 1) ht
    have hc := u_readCompared hC st (r + 1) hs
    have hu := u_readUnit hC st hst (r + 1) hr hin hc
    have hb := u_readBoth hC st (r + 1) hu
    exact ⟨hs, u_readTruth hC st (r + 1) hb, hu⟩
