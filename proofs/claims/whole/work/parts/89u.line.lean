def bE (F g : Nat → Int32) (E : Nat → Nat) : Prop := F 0 = nI (E 1) ∧ F 1 = nI (E 2) ∧ F 2 = nI (E 3) ∧ F 3 = nI (E 4) ∧ F 4 = nI (E 5) ∧ F 5 = nI (E 26) ∧ F 6 = nI (E 0) ∧ F 7 = nI (E 6) ∧ (∀ s, s < 4 → g s = nI (E (13 + s))) ∧ E 6 ≤ 4
/-- what is read so far, in the class -/
def uDc (a : Nat) (M0 M : zM) (V0 : Nat → Nat → Int32) (W : Nat → Nat → Int64) (R : Nat → Nat → Option Nat) (T : List tkT) (D : dT) : Prop := ∃ M1 V1 F g l1 l2, bK M0 M1 V0 V1 F g l1 l2 ∧ uW a M1 M V1 W R T False D.1 ∧ ((∃ cs ts, D.1 = .inr (cs, ts)) → bE F g D.2.1 ∧ lW a (rb M1 M0.2) l1 D.2.2.1 ∧ lW a (rb M1 M0.2) l2 D.2.2.2)
theorem bK.nw {M0 M1 : zM} {V0 V1 : Nat → Nat → Int32} {F g : Nat → Int32} {l1 l2 : Option Nat} (h : bK M0 M1 V0 V1 F g l1 l2) (c : zC) : bK M0 (z_nw M1 c) V0 V1 F g l1 l2 := by
  obtain ⟨h1, h2, h3, h4, h5, h6⟩ := h
  exact ⟨h1, (z_nw_n _ _ (by omega)).trans h2, (z_nw_n _ _ (by omega)).trans h3, fun x hx => (z_nw_n _ _ (by omega)).trans (h4 x hx), Nat.le_succ_of_le h5, fun x hx => by
    have hx2 : M1.2 + 1 ≤ x := hx
    exact (z_nw_n _ _ (by omega)).trans (h6 x (by omega))⟩
theorem lW.nw {a t : Nat} {M1 : zM} {p : Option Nat} {o : Option (List Nat)} (h : lW a (rb M1 t) p o) (hn : ∀ x, M1.2 ≤ x → M1.1 x = none) (c : zC) : lW a (rb (z_nw M1 c) t) p o := h.of (fun q _ hc => by
  obtain ⟨c', hc'⟩ := hc
  have hc2 : (if q < t + 2 then none else M1.1 q) = some c' := hc'
  show (if q < t + 2 then none else (z_nw M1 c).1 q) = if q < t + 2 then none else M1.1 q
  by_cases e : q < t + 2
  · rw [if_pos e, if_pos e]
  · rw [if_neg e] at hc2
    rw [if_neg e, if_neg e]
    refine z_nw_n _ _ (fun z => ?_)
    rw [hn q (by omega)] at hc2
    cases hc2)
def lnC (D : dT) : Nat := if pHd D.1 = 8 ∨ pHd D.1 = 9 then 2 else 0
def lnS (D : dT) : Nat := if pHd D.1 = 8 then 2 + lwK true D.1 else if pHd D.1 = 9 then 2 + lwK false D.1 else 0
theorem dLine_2 {D : dT} (h : pHd D.1 = 2) : dLine D = (dTop3 D.1, dTop D.1 D.2.1, D.2.2) := by unfold dLine; rw [if_pos h]
theorem dLine_5 {D : dT} (h : pHd D.1 = 5) : dLine D = (if D.2.1 6 = 4 then (pFail 4 D.1, D.2) else (dSho D.1, nu (nu D.2.1 (13 + D.2.1 6) (pNm (pExp 6 (pNext D.1)))) 6 (D.2.1 6 + 1), D.2.2)) := by unfold dLine; rw [if_neg (by omega), if_pos h]
theorem dLine_7 {D : dT} (h : pHd D.1 = 7) : dLine D = (pTake 0 9 (pNext D.1), nu D.2.1 26 (pNm (pNext D.1)), D.2.2) := by unfold dLine; rw [if_neg (by omega), if_neg (by omega), if_pos h]
theorem dLine_8 {D : dT} (h : pHd D.1 = 8) : dLine D = (pCl (dLw true D.1), D.2.1, some (pCs (dLw true D.1)), D.2.2.2) := by unfold dLine; rw [if_neg (by omega), if_neg (by omega), if_neg (by omega), if_pos h]
theorem dLine_9 {D : dT} (h : pHd D.1 = 9) : dLine D = (pCl (dLw false D.1), D.2.1, D.2.2.1, some (pCs (dLw false D.1))) := by unfold dLine; rw [if_neg (by omega), if_neg (by omega), if_neg (by omega), if_neg (by omega), if_pos h]
/-- the law that was made -/
theorem lW_new {a t : Nat} {M1 : zM} {c1 c2 : zC} {cs : List Nat} {g : Nat → Int32} (ha : a + 87 ≤ t) (ht : t + 2 ≤ M1.2) (e1 : c1 = .inr (2, [.ref (M1.2 + 1), .int (zb (1004 ∈ cs))])) (e2 : c2 = .inl (0, cs.length, .inl g)) (hg : ∀ j, j < cs.length → g j = enc (cs.getD j 0)) (hl : cs.length ≤ 901) : lW a (rb (z_nw (z_nw M1 c1) c2) t) (some M1.2) (some cs) := by
  refine ⟨M1.2 + 1, Or.inr (Or.inl (by omega)), Or.inr (Or.inl (by omega)), ?_, ⟨g, ?_, hg⟩, by omega⟩
  · show (if M1.2 < t + 2 then none else (z_nw (z_nw M1 c1) c2).1 M1.2) = _
    rw [if_neg (by omega), z_nw_n _ _ (show M1.2 ≠ M1.2 + 1 by omega), z_nw_s, e1]
  · show (if M1.2 + 1 < t + 2 then none else (z_nw (z_nw M1 c1) c2).1 (M1.2 + 1)) = _
    rw [if_neg (by omega), e2]
    exact z_nw_s _ _
theorem u_readLine {G : zG} {l : Launch} {a : Nat} {M0 M : zM} {V0 : Nat → Nat → Int32} {W : Nat → Nat → Int64} {R : Nat → Nat → Option Nat} {T : List tkT} {D : dT} (hcl : zCl G) (ha : a + 87 ≤ M0.2) (hC0 : uC V0 T) (hN : pN0 D.1) (h98 : pHd D.1 < 98) (h24 : pHd D.1 ≠ 24) (hD : uDc a M0 M V0 W R T D) : am G l kX5_readLine 60 [.ref (a + 2), .ref M0.2] M (lnC D) (lnS D) (zv (fun M' => uDc a M0 M' V0 W R T (dLine D))) := by
  obtain ⟨M1, V1, F, g, l1, l2, hK, hR, hI⟩ := hD
  obtain ⟨cs0, t0, ts0, hSe, -⟩ := pHd_in (S := D.1) rfl h98
  obtain ⟨hE, hl1, hl2⟩ := hI ⟨_, _, hSe⟩
  obtain ⟨E0, E1, E2, E3, E4, E5, E6, E7, Eg, E64⟩ := hE
  have hC : uC V1 T := hC0.of hK.1
  have hsz := hR.sz
  have hrg := pTk_rg hC hR
  have hM1 := hK.2.2.2.2.1
  refine am.of (by decide) (Nat.le_of_ble_eq_true rfl) ?_
  have hT := hR.tk hC
  have hKn := hK.2.2.2.2.2
  refine aj.aload_n dX5_readLine_0 rfl ?_
  refine aj.uTok hR w172 dX5_readLine_1 ?_
  by_cases q2 : pHd D.1 = 2
  · rw [(pTk_k hC hR kx2 (by decide) (by decide)).mpr q2]
    refine aj.more (bc' := 0) (bs' := 0) (Nat.zero_le _) (Nat.zero_le _) ?_
    refine aj.swIn (tgt := 52) (off := 48) dX5_readLine_4 (by decide) (by decide) (by decide) rfl ?_
    refine aj.aload_n dX5_readLine_52 rfl ?_
    refine aj.aload_n dX5_readLine_53 rfl ?_
    refine aj.uC0 (d' := 3) (As := [.ref M0.2]) (rest := []) hR dX5_readLine_54 v_X5_86 li_X5_readTop rfl rfl rfl (Nat.le_of_ble_eq_true rfl) (Nat.le_of_ble_eq_true rfl) (u_readTop q2 hC ha hK hR) (fun M hM => ?_)
    refine aj.goto (tgt := 115) dX5_readLine_57 rfl ?_
    refine aj.vret rfl dX5_readLine_115 ⟨rfl, ?_⟩
    obtain ⟨N1, x3, x4, x5, hK, hR, hrb, hx⟩ := hM
    rw [dLine_2 q2]
    refine ⟨N1, V1, _, g, l1, l2, hK, hR, fun z => ?_⟩
    obtain ⟨p1, p2, p3⟩ := hx z
    rw [hrb]
    have ht : ∀ k, k ≠ 3 → k ≠ 4 → k ≠ 5 → dTop D.1 D.2.1 k = D.2.1 k := fun k k3 k4 k5 => by unfold dTop; rw [nu_n k5, nu_n k4, nu_n k3]
    refine ⟨⟨E0, E1, p1, p2, p3, E5, E6, E7, fun s hs => ?_, E64⟩, hl1, hl2⟩
    show g s = nI (dTop D.1 D.2.1 (13 + s))
    rw [ht _ (by omega) (by omega) (by omega)]
    exact Eg s hs
  by_cases q5 : pHd D.1 = 5
  · rw [(pTk_k hC hR kx5 (by decide) (by decide)).mpr q5]
    refine aj.more (bc' := 0) (bs' := 0) (Nat.zero_le _) (Nat.zero_le _) ?_
    refine aj.swIn (tgt := 60) (off := 56) dX5_readLine_4 (by decide) (by decide) (by decide) rfl ?_
    refine aj.aload_n dX5_readLine_60 rfl ?_
    refine aj.aload_n dX5_readLine_61 rfl ?_
    refine aj.uC0 (d' := 3) (As := [.ref M0.2]) (rest := []) hR dX5_readLine_62 v_X5_89 li_X5_readShooter rfl rfl rfl (Nat.le_of_ble_eq_true rfl) (Nat.le_of_ble_eq_true rfl) (u_readShooter q5 E7 E64 hC ha hK hR) (fun M hM => ?_)
    refine aj.goto (tgt := 115) dX5_readLine_65 rfl ?_
    refine aj.vret rfl dX5_readLine_115 ⟨rfl, ?_⟩
    obtain ⟨N1, F', g', hK, hR, hrb, hx⟩ := hM
    rw [dLine_5 q5]
    by_cases e4 : D.2.1 6 = 4
    · rw [if_pos e4]
      rw [if_pos e4] at hR hx
      exact ⟨N1, V1, F', g', l1, l2, hK, hR, fun z => absurd (hx z).1 (by omega)⟩
    · rw [if_neg e4]
      rw [if_neg e4] at hR hx
      refine ⟨N1, V1, F', g', l1, l2, hK, hR, fun z => ?_⟩
      obtain ⟨n4, rfl, rfl⟩ := hx z
      rw [hrb]
      have ht : ∀ k, k ≠ 6 → k ≠ 13 + D.2.1 6 → nu (nu D.2.1 (13 + D.2.1 6) (pNm (pExp 6 (pNext D.1)))) 6 (D.2.1 6 + 1) k = D.2.1 k := fun k k6 k13 => by rw [nu_n k6, nu_n k13]
      refine ⟨⟨?_, ?_, ?_, ?_, ?_, ?_, ?_, ?_, fun s hs => ?_, ?_⟩, hl1, hl2⟩
      · exact E0.trans (congrArg nI (ht 1 (by decide) (by omega)).symm)
      · exact E1.trans (congrArg nI (ht 2 (by decide) (by omega)).symm)
      · exact E2.trans (congrArg nI (ht 3 (by decide) (by omega)).symm)
      · exact E3.trans (congrArg nI (ht 4 (by decide) (by omega)).symm)
      · exact E4.trans (congrArg nI (ht 5 (by decide) (by omega)).symm)
      · exact E5.trans (congrArg nI (ht 26 (by decide) (by omega)).symm)
      · exact E6.trans (congrArg nI (ht 0 (by decide) (by omega)).symm)
      · exact pk_us
      · show upd g (D.2.1 6) _ s = nI (nu _ _ _ (13 + s))
        by_cases es : s = D.2.1 6
        · rw [es, pk_us, nu_n (by omega), nu_s]
        · rw [pk_un es, ht (13 + s) (by omega) (by omega)]; exact Eg s hs
      · show D.2.1 6 + 1 ≤ 4; omega
  by_cases q7 : pHd D.1 = 7
  · rw [(pTk_k hC hR kx7 (by decide) (by decide)).mpr q7]
    refine aj.more (bc' := 0) (bs' := 0) (Nat.zero_le _) (Nat.zero_le _) ?_
    refine aj.swIn (tgt := 68) (off := 64) dX5_readLine_4 (by decide) (by decide) (by decide) rfl ?_
    refine aj.aload_n dX5_readLine_68 rfl ?_
    refine aj.uC0 (d' := 1) (As := []) (rest := []) hR dX5_readLine_69 v_X5_76 li_X5_step rfl rfl rfl (Nat.le_of_ble_eq_true rfl) (Nat.le_of_ble_eq_true rfl) (u_step hC (by omega) hR) (fun M hR => ?_)
    refine aj.aload_n dX5_readLine_72 rfl ?_
    refine aj.aload_n dX5_readLine_73 rfl ?_
    refine aj.iconst (v := 0) dX5_readLine_74 rfl ?_
    refine aj.bipush (v := 9) dX5_readLine_75 rfl ?_
    refine aj.uCX (d' := 2) (As := [.int 0, .int 9]) (rest := [.ref M0.2]) hR dX5_readLine_77 v_X5_56 li_X5_takeNumber rfl rfl rfl (Nat.le_of_ble_eq_true rfl) (Nat.le_of_ble_eq_true rfl) (u_takeNumber hC 0 9 (fun _ => ⟨rfl, by decide⟩) rfl (by decide) hR) (fun x M hR => ?_)
    obtain ⟨hx0, hR⟩ := hR
    obtain ⟨y0, hy0⟩ : ∃ z, z = x := ⟨_, rfl⟩
    rw [← hy0] at hx0
    rw [← hy0]
    refine aj.bP5 hK hR ha w220 dX5_readLine_80 (fun M1 M hK hR hrb0 => ?_)
    refine aj.goto (tgt := 115) dX5_readLine_83 rfl ?_
    refine aj.vret rfl dX5_readLine_115 ⟨rfl, ?_⟩
    rw [dLine_7 q7]
    refine ⟨M1, V1, _, g, l1, l2, hK, hR, fun z => ?_⟩
    obtain ⟨cs, ts, z⟩ := z
    have p1 := hx0 cs ts z
    rw [hrb0]
    refine ⟨⟨E0, E1, E2, E3, E4, p1, E6, E7, fun s hs => ?_, E64⟩, hl1, hl2⟩
    show g s = nI (nu D.2.1 26 _ (13 + s))
    rw [nu_n (by omega)]
    exact Eg s hs
  by_cases q8 : pHd D.1 = 8
  · rw [(pTk_k hC hR kx8 (by decide) (by decide)).mpr q8]
    rw [show lnC D = 2 from if_pos (by omega), show lnS D = 2 + lwK true D.1 from if_pos q8]
    refine aj.swIn (tgt := 86) (off := 82) dX5_readLine_4 (by decide) (by decide) (by decide) rfl ?_
    refine aj.aload_n dX5_readLine_86 rfl ?_
    refine aj.aload_n dX5_readLine_87 rfl ?_
    refine aj.iconst (v := 1) dX5_readLine_88 rfl ?_
    obtain ⟨fs, hb⟩ := hR.ob
    refine aj.more (bc' := 0 + 2) (bs' := 0 + (2 + lwK true D.1)) (by decide) (by show 0 + (2 + lwK _ D.1) ≤ 2 + lwK _ D.1; omega) ?_
    refine aj.callV (d' := 59) (kc := 2) (ks := 2 + lwK true D.1) (As := [.int 1]) (rest := [.ref M0.2]) dX5_readLine_89 v_X5_95 li_X5_readLaw hb rfl rfl rfl (Nat.le_of_ble_eq_true rfl) (Nat.le_of_ble_eq_true rfl) (u_readLaw hcl hC true rfl hN q8 (by decide) (by decide) (by omega) hsz hR) (fun r M hM => ?_)
    obtain ⟨V2, c1, c2, rfl, hR, hV2, hlaw⟩ := hM
    have hK := (hK.nw c1).nw c2
    have hK : bK M0 (z_nw (z_nw M1 c1) c2) V0 V2 F g l1 l2 := ⟨fun q hq => (hV2 q hq).trans (hK.1 q hq), hK.2⟩
    show aj G l kX5_readLine 60 _ _ (.ref M1.2 :: [.ref M0.2]) _ 0 0 _
    refine aj.bL9 hK hR ha w231 dX5_readLine_92 (fun N1 M hK hR hrb => ?_)
    refine aj.goto (tgt := 115) dX5_readLine_95 rfl ?_
    refine aj.vret rfl dX5_readLine_115 ⟨rfl, ?_⟩
    rw [dLine_8 q8]
    refine ⟨N1, V2, F, g, some M1.2, l2, hK, hR, fun z => ?_⟩
    obtain ⟨cs1, ts1, z⟩ := z
    obtain ⟨cs, hcs⟩ := pCl_in z
    obtain ⟨g', e1, e2, hg⟩ := hlaw cs ts1 hcs
    have hn : ∀ x, M1.2 ≤ x → M1.1 x = none := hKn
    have hn2 : ∀ x, (z_nw M1 c1).2 ≤ x → (z_nw M1 c1).1 x = none := fun x hx => by
      have hx2 : M1.2 + 1 ≤ x := hx
      exact (z_nw_n _ _ (by omega)).trans (hn x (by omega))
    have hlg := (dLw_G true hT rfl h98 h24).2.1
    rw [hcs] at hlg
    have hlg2 : cs.length + ts1.length + 1 ≤ pSz D.1 := hlg
    rw [hrb]
    refine ⟨⟨E0, E1, E2, E3, E4, E5, E6, E7, Eg, E64⟩, ?_, ?_⟩
    · show lW a _ (some M1.2) (some (pCs (dLw true D.1)))
      rw [hcs]
      exact lW_new (cs := cs) ha hM1 e1 e2 hg (by omega)
    · exact (hl2.nw hn _).nw hn2 _
  by_cases q9 : pHd D.1 = 9
  · rw [(pTk_k hC hR kx9 (by decide) (by decide)).mpr q9]
    rw [show lnC D = 2 from if_pos (by omega), show lnS D = 2 + lwK false D.1 from (if_neg q8).trans (if_pos q9)]
    refine aj.swIn (tgt := 98) (off := 94) dX5_readLine_4 (by decide) (by decide) (by decide) rfl ?_
    refine aj.aload_n dX5_readLine_98 rfl ?_
    refine aj.aload_n dX5_readLine_99 rfl ?_
    refine aj.iconst (v := 0) dX5_readLine_100 rfl ?_
    obtain ⟨fs, hb⟩ := hR.ob
    refine aj.more (bc' := 0 + 2) (bs' := 0 + (2 + lwK false D.1)) (by decide) (by show 0 + (2 + lwK _ D.1) ≤ 2 + lwK _ D.1; omega) ?_
    refine aj.callV (d' := 59) (kc := 2) (ks := 2 + lwK false D.1) (As := [.int 0]) (rest := [.ref M0.2]) dX5_readLine_101 v_X5_95 li_X5_readLaw hb rfl rfl rfl (Nat.le_of_ble_eq_true rfl) (Nat.le_of_ble_eq_true rfl) (u_readLaw hcl hC false rfl hN q9 (by decide) (by decide) (by omega) hsz hR) (fun r M hM => ?_)
    obtain ⟨V2, c1, c2, rfl, hR, hV2, hlaw⟩ := hM
    have hK := (hK.nw c1).nw c2
    have hK : bK M0 (z_nw (z_nw M1 c1) c2) V0 V2 F g l1 l2 := ⟨fun q hq => (hV2 q hq).trans (hK.1 q hq), hK.2⟩
    show aj G l kX5_readLine 60 _ _ (.ref M1.2 :: [.ref M0.2]) _ 0 0 _
    refine aj.bL10 hK hR ha w234 dX5_readLine_104 (fun N1 M hK hR hrb => ?_)
    refine aj.goto (tgt := 115) dX5_readLine_107 rfl ?_
    refine aj.vret rfl dX5_readLine_115 ⟨rfl, ?_⟩
    rw [dLine_9 q9]
    refine ⟨N1, V2, F, g, l1, some M1.2, hK, hR, fun z => ?_⟩
    obtain ⟨cs1, ts1, z⟩ := z
    obtain ⟨cs, hcs⟩ := pCl_in z
    obtain ⟨g', e1, e2, hg⟩ := hlaw cs ts1 hcs
    have hn : ∀ x, M1.2 ≤ x → M1.1 x = none := hKn
    have hn2 : ∀ x, (z_nw M1 c1).2 ≤ x → (z_nw M1 c1).1 x = none := fun x hx => by
      have hx2 : M1.2 + 1 ≤ x := hx
      exact (z_nw_n _ _ (by omega)).trans (hn x (by omega))
    have hlg := (dLw_G false hT rfl h98 h24).2.1
    rw [hcs] at hlg
    have hlg2 : cs.length + ts1.length + 1 ≤ pSz D.1 := hlg
    rw [hrb]
    refine ⟨⟨E0, E1, E2, E3, E4, E5, E6, E7, Eg, E64⟩, ?_, ?_⟩
    · exact (hl1.nw hn _).nw hn2 _
    · show lW a _ (some M1.2) (some (pCs (dLw false D.1)))
      rw [hcs]
      exact lW_new (cs := cs) ha hM1 e1 e2 hg (by omega)
  refine aj.more (bc' := 0) (bs' := 0) (Nat.zero_le _) (Nat.zero_le _) ?_
  rcases hrg.2 with hm1 | ⟨t, hv, ht, hpt⟩
  · rw [hm1]
    refine aj.swOut (tgt := 110) dX5_readLine_4 (by decide) rfl ?_
    refine aj.aload_n dX5_readLine_110 rfl ?_
    refine aj.iconst (v := 2) dX5_readLine_111 rfl ?_
    refine aj.uC0 (d' := 1) (As := [.int 2]) (rest := []) hR dX5_readLine_112 v_X5_79 li_X5_fail rfl rfl rfl (Nat.le_of_ble_eq_true rfl) (Nat.le_of_ble_eq_true rfl) (u_fail hC 2 rfl (by decide) hR) (fun M hR => ?_)
    refine aj.vret rfl dX5_readLine_115 ⟨rfl, ?_⟩
    rw [dLine_0 ⟨q2, q5, q7, q8, q9⟩]
    exact ⟨M1, V1, F, g, l1, l2, hK, hR, fun z => by obtain ⟨cs, ts, z⟩ := z; exact (pFail_no z).elim⟩
  · have hl := ctk_le hv
    have z2 : ctk t ≠ 1002 := fun z => q2 (ht.trans ((ctk_eq hv (k := 2) (by decide) (by decide)).mp (z.trans (by decide +kernel))))
    have z5 : ctk t ≠ 1005 := fun z => q5 (ht.trans ((ctk_eq hv (k := 5) (by decide) (by decide)).mp (z.trans (by decide +kernel))))
    have z7 : ctk t ≠ 1007 := fun z => q7 (ht.trans ((ctk_eq hv (k := 7) (by decide) (by decide)).mp (z.trans (by decide +kernel))))
    have z8 : ctk t ≠ 1008 := fun z => q8 (ht.trans ((ctk_eq hv (k := 8) (by decide) (by decide)).mp (z.trans (by decide +kernel))))
    have z9 : ctk t ≠ 1009 := fun z => q9 (ht.trans ((ctk_eq hv (k := 9) (by decide) (by decide)).mp (z.trans (by decide +kernel))))
    by_cases cr : ctk t < 1002 ∨ 1009 < ctk t
    · rw [hpt]
      refine aj.swOut (tgt := 110) dX5_readLine_4 (by rw [nI_toInt (by omega)]; omega) rfl ?_
      refine aj.aload_n dX5_readLine_110 rfl ?_
      refine aj.iconst (v := 2) dX5_readLine_111 rfl ?_
      refine aj.uC0 (d' := 1) (As := [.int 2]) (rest := []) hR dX5_readLine_112 v_X5_79 li_X5_fail rfl rfl rfl (Nat.le_of_ble_eq_true rfl) (Nat.le_of_ble_eq_true rfl) (u_fail hC 2 rfl (by decide) hR) (fun M hR => ?_)
      refine aj.vret rfl dX5_readLine_115 ⟨rfl, ?_⟩
      rw [dLine_0 ⟨q2, q5, q7, q8, q9⟩]
      exact ⟨M1, V1, F, g, l1, l2, hK, hR, fun z => by obtain ⟨cs, ts, z⟩ := z; exact (pFail_no z).elim⟩
    · rcases (show ctk t = 1003 ∨ ctk t = 1004 ∨ ctk t = 1006 by omega) with z | z | z
      · rw [hpt, z]
        refine aj.swIn (tgt := 110) (off := 106) dX5_readLine_4 (by decide) (by decide) (by decide) rfl ?_
        refine aj.aload_n dX5_readLine_110 rfl ?_
        refine aj.iconst (v := 2) dX5_readLine_111 rfl ?_
        refine aj.uC0 (d' := 1) (As := [.int 2]) (rest := []) hR dX5_readLine_112 v_X5_79 li_X5_fail rfl rfl rfl (Nat.le_of_ble_eq_true rfl) (Nat.le_of_ble_eq_true rfl) (u_fail hC 2 rfl (by decide) hR) (fun M hR => ?_)
        refine aj.vret rfl dX5_readLine_115 ⟨rfl, ?_⟩
        rw [dLine_0 ⟨q2, q5, q7, q8, q9⟩]
        exact ⟨M1, V1, F, g, l1, l2, hK, hR, fun z => by obtain ⟨cs, ts, z⟩ := z; exact (pFail_no z).elim⟩
      · rw [hpt, z]
        refine aj.swIn (tgt := 110) (off := 106) dX5_readLine_4 (by decide) (by decide) (by decide) rfl ?_
        refine aj.aload_n dX5_readLine_110 rfl ?_
        refine aj.iconst (v := 2) dX5_readLine_111 rfl ?_
        refine aj.uC0 (d' := 1) (As := [.int 2]) (rest := []) hR dX5_readLine_112 v_X5_79 li_X5_fail rfl rfl rfl (Nat.le_of_ble_eq_true rfl) (Nat.le_of_ble_eq_true rfl) (u_fail hC 2 rfl (by decide) hR) (fun M hR => ?_)
        refine aj.vret rfl dX5_readLine_115 ⟨rfl, ?_⟩
        rw [dLine_0 ⟨q2, q5, q7, q8, q9⟩]
        exact ⟨M1, V1, F, g, l1, l2, hK, hR, fun z => by obtain ⟨cs, ts, z⟩ := z; exact (pFail_no z).elim⟩
      · rw [hpt, z]
        refine aj.swIn (tgt := 110) (off := 106) dX5_readLine_4 (by decide) (by decide) (by decide) rfl ?_
        refine aj.aload_n dX5_readLine_110 rfl ?_
        refine aj.iconst (v := 2) dX5_readLine_111 rfl ?_
        refine aj.uC0 (d' := 1) (As := [.int 2]) (rest := []) hR dX5_readLine_112 v_X5_79 li_X5_fail rfl rfl rfl (Nat.le_of_ble_eq_true rfl) (Nat.le_of_ble_eq_true rfl) (u_fail hC 2 rfl (by decide) hR) (fun M hR => ?_)
        refine aj.vret rfl dX5_readLine_115 ⟨rfl, ?_⟩
        rw [dLine_0 ⟨q2, q5, q7, q8, q9⟩]
        exact ⟨M1, V1, F, g, l1, l2, hK, hR, fun z => by obtain ⟨cs, ts, z⟩ := z; exact (pFail_no z).elim⟩
