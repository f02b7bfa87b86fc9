theorem lw_cmp {Ls i : Nat} (hL : Ls < 2 ^ 31) (hi : i < 2 ^ 31) : (nI Ls - 6 < nI i) ↔ Ls < i + 6 := by
  rw [Int32.lt_iff_toInt_lt, Int32.toInt_sub, nI_toInt hL, nI_toInt hi, show (6 : Int32).toInt = 6 from rfl, Int.bmod_eq_of_le (by omega) (by omega)]
  omega
theorem lS.next {a b k : Nat} {M : zM} (h : lS a b M k) (hkT : 100 * (k + 1) < 2 ^ 24) : lS a b M (k + 1) := by
  obtain ⟨t, n, V0, W0, R, I, A, L, hg, hs⟩ := h
  exact ⟨t, n, V0, W0, R, I, A, L, hg, hs.more (by omega) hkT⟩
/-- one call -/
theorem law_sw {G : zG} {l : Launch} {nm : String} {a b bS Ls : Nat} {xs : Nat → Int32} {Q : Option Value → zM → Prop} {av : Nat → Nat} {fm : Nat} (hG : zSt G av fm) (hcl : zCl G) {k bc bs : Nat} {M : zM} (hX : zX G bS Ls xs) (hL : Ls < 2 ^ 31) (hk6 : 6 * k + 6 ≤ Ls) (hkT : 100 * (k + 1) < 2 ^ 24) (hSt : lS a b M k) (hn : ∀ M', lS a b M' (k + 1) → aj G l (kL nm) 84 1694 [(3, .int (nI (6 * k))), (0, .ref bS), (1, .ref a), (2, .ref b)] [] M' bc bs Q) : aj G l (kL nm) 84 33 [(3, .int (nI (6 * k))), (0, .ref bS), (1, .ref a), (2, .ref b)] [.int (xs (6 * k) &&& 63)] M (bc + 905) (bs + 3620) Q := by
  obtain ⟨j, hj, e⟩ := pk_andE (xs (6 * k)) (m := 63) 6 (by decide)
  rw [e]
  by_cases h46 : 46 ≤ j
  · refine aj.swOut (tgt := 1694) dL_law_33 (Or.inr (by rw [nI_toInt (by omega)]; omega)) rfl ?_
    exact aj.more (Nat.le_add_right _ _) (Nat.le_add_right _ _) (hn M (hSt.next hkT))
  rcases (show j = 0 ∨ j = 1 ∨ j = 2 ∨ j = 3 ∨ j = 4 ∨ j = 5 ∨ j = 6 ∨ j = 7 ∨ j = 8 ∨ j = 9 ∨ j = 10 ∨ j = 11 ∨ j = 12 ∨ j = 13 ∨ j = 14 ∨ j = 15 ∨ j = 16 ∨ j = 17 ∨ j = 18 ∨ j = 19 ∨ j = 20 ∨ j = 21 ∨ j = 22 ∨ j = 23 ∨ j = 24 ∨ j = 25 ∨ j = 26 ∨ j = 27 ∨ j = 28 ∨ j = 29 ∨ j = 30 ∨ j = 31 ∨ j = 32 ∨ j = 33 ∨ j = 34 ∨ j = 35 ∨ j = 36 ∨ j = 37 ∨ j = 38 ∨ j = 39 ∨ j = 40 ∨ j = 41 ∨ j = 42 ∨ j = 43 ∨ j = 44 ∨ j = 45 by omega) with rfl | rfl | rfl | rfl | rfl | rfl | rfl | rfl | rfl | rfl | rfl | rfl | rfl | rfl | rfl | rfl | rfl | rfl | rfl | rfl | rfl | rfl | rfl | rfl | rfl | rfl | rfl | rfl | rfl | rfl | rfl | rfl | rfl | rfl | rfl | rfl | rfl | rfl | rfl | rfl | rfl | rfl | rfl | rfl | rfl | rfl
  · refine aj.swIn (tgt := 232) (off := 199) dL_law_33 (by decide) (by decide) (by decide) rfl ?_
    exact aj.more (Nat.le_add_right _ _) (Nat.le_add_right _ _) (lc_feed hX hL hk6 hkT hSt hn)
  · refine aj.swIn (tgt := 295) (off := 262) dL_law_33 (by decide) (by decide) (by decide) rfl ?_
    exact lc_butt hG hcl hX hL hk6 hkT hSt hn
  · refine aj.swIn (tgt := 318) (off := 285) dL_law_33 (by decide) (by decide) (by decide) rfl ?_
    exact aj.more (Nat.le_add_right _ _) (Nat.le_add_right _ _) (lc_fault hX hL hk6 hkT hSt hn)
  · refine aj.swIn (tgt := 341) (off := 308) dL_law_33 (by decide) (by decide) (by decide) rfl ?_
    exact aj.more (Nat.le_add_right _ _) (Nat.le_add_right _ _) (lc_shooter hX hL hk6 hkT hSt hn)
  · refine aj.swIn (tgt := 374) (off := 341) dL_law_33 (by decide) (by decide) (by decide) rfl ?_
    exact aj.more (Nat.le_add_right _ _) (Nat.le_add_right _ _) (lc_points hX hL hk6 hkT hSt hn)
  · refine aj.swIn (tgt := 397) (off := 364) dL_law_33 (by decide) (by decide) (by decide) rfl ?_
    exact aj.more (Nat.le_add_right _ _) (Nat.le_add_right _ _) (lc_lands hX hL hk6 hkT hSt hn)
  · refine aj.swIn (tgt := 440) (off := 407) dL_law_33 (by decide) (by decide) (by decide) rfl ?_
    exact aj.more (Nat.le_add_right _ _) (Nat.le_add_right _ _) (lc_far hX hL hk6 hkT hSt hn)
  · refine aj.swIn (tgt := 463) (off := 430) dL_law_33 (by decide) (by decide) (by decide) rfl ?_
    exact aj.more (Nat.le_add_right _ _) (Nat.le_add_right _ _) (lc_scores hX hL hk6 hkT hSt hn)
  · refine aj.swIn (tgt := 486) (off := 453) dL_law_33 (by decide) (by decide) (by decide) rfl ?_
    exact aj.more (Nat.le_add_right _ _) (Nat.le_add_right _ _) (lc_open hX hL hk6 hkT hSt hn)
  · refine aj.swIn (tgt := 509) (off := 476) dL_law_33 (by decide) (by decide) (by decide) rfl ?_
    exact aj.more (Nat.le_add_right _ _) (Nat.le_add_right _ _) (lc_opens hX hL hk6 hkT hSt hn)
  · refine aj.swIn (tgt := 532) (off := 499) dL_law_33 (by decide) (by decide) (by decide) rfl ?_
    exact aj.more (Nat.le_add_right _ _) (Nat.le_add_right _ _) (lc_shoot hX hL hk6 hkT hSt hn)
  · refine aj.swIn (tgt := 575) (off := 542) dL_law_33 (by decide) (by decide) (by decide) rfl ?_
    exact aj.more (Nat.le_add_right _ _) (Nat.le_add_right _ _) (lc_waits hX hL hk6 hkT hSt hn)
  · refine aj.swIn (tgt := 598) (off := 565) dL_law_33 (by decide) (by decide) (by decide) rfl ?_
    exact aj.more (Nat.le_add_right _ _) (Nat.le_add_right _ _) (lc_heal hX hL hk6 hkT hSt hn)
  · refine aj.swIn (tgt := 611) (off := 578) dL_law_33 (by decide) (by decide) (by decide) rfl ?_
    exact aj.more (Nat.le_add_right _ _) (Nat.le_add_right _ _) (lc_wind hX hL hk6 hkT hSt hn)
  · refine aj.swIn (tgt := 634) (off := 601) dL_law_33 (by decide) (by decide) (by decide) rfl ?_
    exact aj.more (Nat.le_add_right _ _) (Nat.le_add_right _ _) (lc_undo hX hL hk6 hkT hSt hn)
  · refine aj.swIn (tgt := 657) (off := 624) dL_law_33 (by decide) (by decide) (by decide) rfl ?_
    exact aj.more (Nat.le_add_right _ _) (Nat.le_add_right _ _) (lc_judge hX hL hk6 hkT hSt hn)
  · refine aj.swIn (tgt := 690) (off := 657) dL_law_33 (by decide) (by decide) (by decide) rfl ?_
    exact aj.more (Nat.le_add_right _ _) (Nat.le_add_right _ _) (lc_perform hX hL hk6 hkT hSt hn)
  · refine aj.swIn (tgt := 713) (off := 680) dL_law_33 (by decide) (by decide) (by decide) rfl ?_
    exact aj.more (Nat.le_add_right _ _) (Nat.le_add_right _ _) (lc_day hX hL hk6 hkT hSt hn)
  · refine aj.swIn (tgt := 746) (off := 713) dL_law_33 (by decide) (by decide) (by decide) rfl ?_
    exact aj.more (Nat.le_add_right _ _) (Nat.le_add_right _ _) (lc_leads hX hL hk6 hkT hSt hn)
  · refine aj.swIn (tgt := 759) (off := 726) dL_law_33 (by decide) (by decide) (by decide) rfl ?_
    exact aj.more (Nat.le_add_right _ _) (Nat.le_add_right _ _) (lc_touches hX hL hk6 hkT hSt hn)
  · refine aj.swIn (tgt := 792) (off := 759) dL_law_33 (by decide) (by decide) (by decide) rfl ?_
    exact aj.more (Nat.le_add_right _ _) (Nat.le_add_right _ _) (lc_mean hX hL hk6 hkT hSt hn)
  · refine aj.swIn (tgt := 835) (off := 802) dL_law_33 (by decide) (by decide) (by decide) rfl ?_
    exact aj.more (Nat.le_add_right _ _) (Nat.le_add_right _ _) (lc_bestAim hX hL hk6 hkT hSt hn)
  · refine aj.swIn (tgt := 858) (off := 825) dL_law_33 (by decide) (by decide) (by decide) rfl ?_
    exact aj.more (Nat.le_add_right _ _) (Nat.le_add_right _ _) (lc_careful hX hL hk6 hkT hSt hn)
  · refine aj.swIn (tgt := 881) (off := 848) dL_law_33 (by decide) (by decide) (by decide) rfl ?_
    exact aj.more (Nat.le_add_right _ _) (Nat.le_add_right _ _) (lc_edge hX hL hk6 hkT hSt hn)
  · refine aj.swIn (tgt := 904) (off := 871) dL_law_33 (by decide) (by decide) (by decide) rfl ?_
    exact aj.more (Nat.le_add_right _ _) (Nat.le_add_right _ _) (lc_dares hX hL hk6 hkT hSt hn)
  · refine aj.swIn (tgt := 927) (off := 894) dL_law_33 (by decide) (by decide) (by decide) rfl ?_
    exact aj.more (Nat.le_add_right _ _) (Nat.le_add_right _ _) (lc_likeliest hX hL hk6 hkT hSt hn)
  · refine aj.swIn (tgt := 960) (off := 927) dL_law_33 (by decide) (by decide) (by decide) rfl ?_
    exact aj.more (Nat.le_add_right _ _) (Nat.le_add_right _ _) (lc_leaves hX hL hk6 hkT hSt hn)
  · refine aj.swIn (tgt := 993) (off := 960) dL_law_33 (by decide) (by decide) (by decide) rfl ?_
    exact aj.more (Nat.le_add_right _ _) (Nat.le_add_right _ _) (lc_greedy hX hL hk6 hkT hSt hn)
  · refine aj.swIn (tgt := 1006) (off := 973) dL_law_33 (by decide) (by decide) (by decide) rfl ?_
    exact aj.more (bc' := bc + 4) (bs' := bs + 2392) (by omega) (by omega) (lc_beats hX hL hk6 hkT hSt hn)
  · refine aj.swIn (tgt := 1060) (off := 1027) dL_law_33 (by decide) (by decide) (by decide) rfl ?_
    exact aj.more (Nat.le_add_right _ _) (Nat.le_add_right _ _) (lc_round hX hL hk6 hkT hSt hn)
  · refine aj.swIn (tgt := 1104) (off := 1071) dL_law_33 (by decide) (by decide) (by decide) rfl ?_
    exact aj.more (Nat.le_add_right _ _) (Nat.le_add_right _ _) (lc_begins hX hL hk6 hkT hSt hn)
  · refine aj.swIn (tgt := 1137) (off := 1104) dL_law_33 (by decide) (by decide) (by decide) rfl ?_
    exact aj.more (Nat.le_add_right _ _) (Nat.le_add_right _ _) (lc_shooters hX hL hk6 hkT hSt hn)
  · refine aj.swIn (tgt := 1170) (off := 1137) dL_law_33 (by decide) (by decide) (by decide) rfl ?_
    exact aj.more (Nat.le_add_right _ _) (Nat.le_add_right _ _) (lc_odds hX hL hk6 hkT hSt hn)
  · refine aj.swIn (tgt := 1224) (off := 1191) dL_law_33 (by decide) (by decide) (by decide) rfl ?_
    exact aj.more (Nat.le_add_right _ _) (Nat.le_add_right _ _) (lc_tells hX hL hk6 hkT hSt hn)
  · refine aj.swIn (tgt := 1257) (off := 1224) dL_law_33 (by decide) (by decide) (by decide) rfl ?_
    exact aj.more (Nat.le_add_right _ _) (Nat.le_add_right _ _) (lc_winds hX hL hk6 hkT hSt hn)
  · refine aj.swIn (tgt := 1300) (off := 1267) dL_law_33 (by decide) (by decide) (by decide) rfl ?_
    exact aj.more (Nat.le_add_right _ _) (Nat.le_add_right _ _) (lc_attempt hX hL hk6 hkT hSt hn)
  · refine aj.swIn (tgt := 1343) (off := 1310) dL_law_33 (by decide) (by decide) (by decide) rfl ?_
    exact aj.more (Nat.le_add_right _ _) (Nat.le_add_right _ _) (lc_order hX hL hk6 hkT hSt hn)
  · refine aj.swIn (tgt := 1366) (off := 1333) dL_law_33 (by decide) (by decide) (by decide) rfl ?_
    exact aj.more (Nat.le_add_right _ _) (Nat.le_add_right _ _) (lc_expects hX hL hk6 hkT hSt hn)
  · refine aj.swIn (tgt := 1409) (off := 1376) dL_law_33 (by decide) (by decide) (by decide) rfl ?_
    exact aj.more (Nat.le_add_right _ _) (Nat.le_add_right _ _) (lc_rests hX hL hk6 hkT hSt hn)
  · refine aj.swIn (tgt := 1442) (off := 1409) dL_law_33 (by decide) (by decide) (by decide) rfl ?_
    exact aj.more (Nat.le_add_right _ _) (Nat.le_add_right _ _) (lc_guards hX hL hk6 hkT hSt hn)
  · refine aj.swIn (tgt := 1465) (off := 1432) dL_law_33 (by decide) (by decide) (by decide) rfl ?_
    exact aj.more (Nat.le_add_right _ _) (Nat.le_add_right _ _) (lc_numbers hX hL hk6 hkT hSt hn)
  · refine aj.swIn (tgt := 1508) (off := 1475) dL_law_33 (by decide) (by decide) (by decide) rfl ?_
    exact aj.more (Nat.le_add_right _ _) (Nat.le_add_right _ _) (lc_write hX hL hk6 hkT hSt hn)
  · refine aj.swIn (tgt := 1582) (off := 1549) dL_law_33 (by decide) (by decide) (by decide) rfl ?_
    exact aj.more (Nat.le_add_right _ _) (Nat.le_add_right _ _) (lc_lists hX hL hk6 hkT hSt hn)
  · refine aj.swIn (tgt := 1625) (off := 1592) dL_law_33 (by decide) (by decide) (by decide) rfl ?_
    exact aj.more (Nat.le_add_right _ _) (Nat.le_add_right _ _) (lc_image hX hL hk6 hkT hSt hn)
  · refine aj.swIn (tgt := 1648) (off := 1615) dL_law_33 (by decide) (by decide) (by decide) rfl ?_
    exact aj.more (Nat.le_add_right _ _) (Nat.le_add_right _ _) (lc_restore hX hL hk6 hkT hSt hn)
  · refine aj.swIn (tgt := 1671) (off := 1638) dL_law_33 (by decide) (by decide) (by decide) rfl ?_
    exact aj.more (Nat.le_add_right _ _) (Nat.le_add_right _ _) (lc_count hX hL hk6 hkT hSt hn)
/-- all calls -/
theorem law_loop {G : zG} {l : Launch} {nm : String} {a b bS Ls : Nat} {xs : Nat → Int32} {Q : Option Value → zM → Prop} {av : Nat → Nat} {fm : Nat} (hG : zSt G av fm) (hcl : zCl G) (hX : zX G bS Ls xs) (hL : Ls < 2 ^ 30) (hQ : ∀ M' : zM, Q (some (.int 1)) M') : ∀ (m k : Nat) (M : zM), Ls < 6 * (k + m) + 6 → 100 * (k + m + 1) < 2 ^ 24 → lS a b M k → aj G l (kL nm) 84 18 [(3, .int (nI (6 * k))), (0, .ref bS), (1, .ref a), (2, .ref b)] [] M (905 * m) (3620 * m) Q := by
  have hL1 : Ls < 2 ^ 31 := by omega
  intro m
  induction m with
  | zero =>
    intro k M h1 h2 hSt
    refine aj.iload_n dL_law_18 rfl ?_
    refine aj.aload_n dL_law_19 rfl ?_
    refine aj.scl hX dL_law_20 ?_
    refine aj.bipush (v := 6) dL_law_21 rfl ?_
    refine aj.isub dL_law_23 ?_
    refine aj.icmp_gt (tgt := 1700) dL_law_24 rfl (fun c => ?_) (fun c => ?_)
    · refine aj.iconst (v := 1) dL_law_1700 rfl ?_
      exact aj.zret (ty := .boolean) rfl rfl dL_law_1701 (hQ M)
    · exact absurd ((lw_cmp hL1 (by omega)).mpr (by omega)) c
  | succ m ih =>
    intro k M h1 h2 hSt
    refine aj.iload_n dL_law_18 rfl ?_
    refine aj.aload_n dL_law_19 rfl ?_
    refine aj.scl hX dL_law_20 ?_
    refine aj.bipush (v := 6) dL_law_21 rfl ?_
    refine aj.isub dL_law_23 ?_
    refine aj.icmp_gt (tgt := 1700) dL_law_24 rfl (fun c => ?_) (fun c => ?_)
    · refine aj.iconst (v := 1) dL_law_1700 rfl ?_
      exact aj.zret (ty := .boolean) rfl rfl dL_law_1701 (hQ M)
    · have hk6 : 6 * k + 6 ≤ Ls := by
        exact Nat.le_of_not_lt (fun q => c ((lw_cmp hL1 (i := 6 * k) (by omega)).mpr q))
      refine aj.aload_n dL_law_27 rfl ?_
      refine aj.iload_n dL_law_28 rfl ?_
      refine aj.sci hX (j := 6 * k) rfl (by omega) hL1 dL_law_29 ?_
      refine aj.bipush (v := 63) dL_law_30 rfl ?_
      refine aj.iand dL_law_32 ?_
      refine aj.more (bc' := 905 * m + 905) (bs' := 3620 * m + 3620) (by omega) (by omega) (law_sw hG hcl hX hL1 hk6 (by omega) hSt (fun M1 h => ?_))
      refine aj.iincN (a := 6 * k) (c := 6) (lv' := [(3, .int (nI (6 * (k + 1)))), (0, .ref bS), (1, .ref a), (2, .ref b)]) dL_law_1694 rfl (Nat.le_of_ble_eq_true rfl) rfl rfl rfl ?_
      refine aj.goto (tgt := 18) dL_law_1697 rfl ?_
      exact ih (k + 1) M1 (by omega) (by omega) h
