theorem spread_lp {G : zG} {l : Launch} {M0 : zM} {t p q : Nat} {f s : Nat → Int32} {w : Int64} (k : Nat) {x_k : Int32} (e_k : x_k = nI k) {x : Int32} {sc : Nat → Int} {gs : List (Nat → Int)} (hs : ∀ j, j < 10 → (s j).toInt = sc j) (hb : ∀ j, j < 10 → -99 ≤ sc j ∧ sc j ≤ 99) (hx : x = nI (hW gs k)) (hk : k < 1189) : ∀ (n j : Nat) (M : zM) (g : Nat → Int32), j + n = 10 → (∀ i, i < 1189 → g i = nI (hT sc gs k j i)) → mt M0 M t p q p q f g s w → aj G l kX3_spread 0 2 [(3, .int (nI j)), (0, .ref t), (1, .int x_k), (2, .int x)] [] M 0 0 (zv (fun M' => ∃ g', mt M0 M' t p q p q f g' s w ∧ ∀ i, i < 1189 → g' i = nI (hT sc gs k 10 i))) := by
  intro n
  induction n with
  | zero =>
    intro j M g hjn hg hA
    have hj : j = 10 := by omega
    refine aj.iload_n dX3_spread_2 rfl ?_
    refine aj.bipush (v := 10) dX3_spread_3 rfl ?_
    refine aj.icmp_geN (a := j) (b := 10) (tgt := 50) dX3_spread_5 rfl rfl (by omega) (by omega) rfl (fun c5 => ?_) (fun c5 => ?_)
    · exact aj.vret rfl dX3_spread_50 ⟨rfl, g, hA, fun i hi => by rw [← hj]; exact hg i hi⟩
    · exact absurd c5 (by omega)
  | succ n ih =>
    intro j M g hjn hg hA
    have hj : j < 10 := by omega
    have hbj := hb j hj
    have hto : (x_k + s j).toInt = (k : Int) + sc j := by
      rw [e_k, Int32.toInt_add, nI_toInt (by omega), hs j hj]
      exact Int.bmod_eq_of_le (by omega) (by omega)
    refine aj.iload_n dX3_spread_2 rfl ?_
    refine aj.bipush (v := 10) dX3_spread_3 rfl ?_
    refine aj.icmp_geN (a := j) (b := 10) (tgt := 50) dX3_spread_5 rfl rfl (by omega) (by omega) rfl (fun c5 => ?_) (fun c5 => ?_)
    · exact absurd c5 (by omega)
    · refine aj.iload_n dX3_spread_8 rfl ?_
      refine aj.aload_n dX3_spread_9 rfl ?_
      refine mt.gT hA w1014 dX3_spread_10 ?_
      refine aj.iload_n dX3_spread_13 rfl ?_
      refine mt.lS (j := j) hA dX3_spread_14 rfl (by omega) ?_
      refine aj.iadd dX3_spread_15 ?_
      refine aj.istore (lv' := [(4, .int (x_k + (s j))), (3, .int (nI j)), (0, .ref t), (1, .int x_k), (2, .int x)]) dX3_spread_16 (Nat.le_of_ble_eq_true rfl) rfl ?_
      refine aj.iload dX3_spread_18 rfl ?_
      refine aj.if_lt (tgt := 44) dX3_spread_20 rfl (fun c20 => ?_) (fun c20 => ?_)
      · refine aj.iincN (a := j) (c := 1) (lv' := [(3, .int (nI (j + 1))), (4, .int (x_k + (s j))), (0, .ref t), (1, .int x_k), (2, .int x)]) dX3_spread_44 rfl (Nat.le_of_ble_eq_true rfl) rfl rfl rfl ?_
        refine aj.goto (tgt := 2) dX3_spread_47 rfl ?_
        refine aj.pick [0, 2, 3, 4] rfl ?_
        refine ih (j + 1) M g (by omega) (fun i hi => ?_) hA
        rw [hT_lot, if_neg (by simp only [Int32.lt_iff_toInt_lt, Int32.le_iff_toInt_le] at *; have e0 : (0 : Int32).toInt = 0 := rfl; have e9 : (nI 1189).toInt = 1189 := rfl; omega), Nat.add_zero]
        exact hg i hi
      · refine aj.iload dX3_spread_23 rfl ?_
        refine aj.aload_n dX3_spread_25 rfl ?_
        refine mt.gS hA w1013 dX3_spread_26 ?_
        refine mt.nQ hA dX3_spread_29 ?_
        refine aj.icmp_ge (tgt := 44) dX3_spread_30 rfl (fun c30 => ?_) (fun c30 => ?_)
        · refine aj.iincN (a := j) (c := 1) (lv' := [(3, .int (nI (j + 1))), (4, .int (x_k + (s j))), (0, .ref t), (1, .int x_k), (2, .int x)]) dX3_spread_44 rfl (Nat.le_of_ble_eq_true rfl) rfl rfl rfl ?_
          refine aj.goto (tgt := 2) dX3_spread_47 rfl ?_
          refine aj.pick [0, 2, 3, 4] rfl ?_
          refine ih (j + 1) M g (by omega) (fun i hi => ?_) hA
          rw [hT_lot, if_neg (by simp only [Int32.lt_iff_toInt_lt, Int32.le_iff_toInt_le] at *; have e0 : (0 : Int32).toInt = 0 := rfl; have e9 : (nI 1189).toInt = 1189 := rfl; omega), Nat.add_zero]
          exact hg i hi
        · obtain ⟨T2, hT2k⟩ : ∃ T2 : Nat, (T2 : Int) = (k : Int) + sc j := ⟨((k : Int) + sc j).toNat, by simp only [Int32.lt_iff_toInt_lt, Int32.le_iff_toInt_le] at *; have e0 : (0 : Int32).toInt = 0 := rfl; have e9 : (nI 1189).toInt = 1189 := rfl; omega⟩
          have hT2 : T2 < 1189 := by simp only [Int32.lt_iff_toInt_lt, Int32.le_iff_toInt_le] at *; have e0 : (0 : Int32).toInt = 0 := rfl; have e9 : (nI 1189).toInt = 1189 := rfl; omega
          have eT2 : x_k + s j = nI T2 := Int32.toInt_inj.mp (by rw [hto, nI_toInt (by omega)]; omega)
          refine aj.aload_n dX3_spread_33 rfl ?_
          refine mt.gS hA w1013 dX3_spread_34 ?_
          refine aj.iload dX3_spread_37 rfl ?_
          refine aj.dup2 dX3_spread_39 rfl rfl ?_
          refine mt.lQ (j := T2) hA dX3_spread_40 eT2 (by omega) ?_
          refine aj.iload_n dX3_spread_41 rfl ?_
          refine aj.iadd dX3_spread_42 ?_
          refine mt.sQ (j := T2) hA dX3_spread_43 eT2 (by omega) (fun M hA => ?_)
          refine aj.iincN (a := j) (c := 1) (lv' := [(3, .int (nI (j + 1))), (4, .int (x_k + (s j))), (0, .ref t), (1, .int x_k), (2, .int x)]) dX3_spread_44 rfl (Nat.le_of_ble_eq_true rfl) rfl rfl rfl ?_
          refine aj.goto (tgt := 2) dX3_spread_47 rfl ?_
          refine aj.pick [0, 2, 3, 4] rfl ?_
          refine ih (j + 1) M _ (by omega) (fun i hi => ?_) hA
          rw [hT_lot]
          by_cases e : i = T2
          · rw [e, pk_us, if_pos hT2k.symm, hg T2 hT2, hx]; exact nI_add _ _
          · rw [pk_un e, if_neg (by omega), Nat.add_zero]; exact hg i hi
theorem k_spread {G : zG} {l : Launch} {M0 M : zM} {t p q : Nat} {f g s : Nat → Int32} {w : Int64} (k : Nat) {x_k : Int32} (e_k : x_k = nI k) {x : Int32} {sc : Nat → Int} {gs : List (Nat → Int)} (hs : ∀ j, j < 10 → (s j).toInt = sc j) (hb : ∀ j, j < 10 → -99 ≤ sc j ∧ sc j ≤ 99) (hx : x = nI (hW gs k)) (hk : k < 1189) (hg : ∀ i, i < 1189 → g i = nI (hT sc gs k 0 i)) (hA : mt M0 M t p q p q f g s w) : am G l kX3_spread 0 [.ref t, .int x_k, .int x] M 0 0 (zv (fun M' => ∃ g', mt M0 M' t p q p q f g' s w ∧ ∀ i, i < 1189 → g' i = nI (hT sc gs k 10 i))) := by
  refine am.of (by decide) (Nat.le_of_ble_eq_true rfl) ?_
  refine aj.iconst (v := 0) dX3_spread_0 rfl ?_
  refine aj.istore_n (lv' := [(3, .int 0), (0, .ref t), (1, .int x_k), (2, .int x)]) dX3_spread_1 (Nat.le_of_ble_eq_true rfl) rfl ?_
  refine aj.pick [0, 1, 2, 3] rfl ?_
  exact spread_lp k e_k hs hb hx hk 10 0 M g (by omega) hg hA
theorem hW_lt {gs : List (Nat → Int)} (h : gs.length ≤ 6) (k : Nat) : hW gs k ≤ 1000000 := Nat.le_trans (hW_le gs k) (Nat.le_trans (Nat.pow_le_pow_right (by decide) h) (by decide))
theorem add_lp {G : zG} {l : Launch} {M0 : zM} {t p q : Nat} {f s : Nat → Int32} {w : Int64} {sc : Nat → Int} {gs : List (Nat → Int)} (hs : ∀ j, j < 10 → (s j).toInt = sc j) (hb : ∀ j, j < 10 → -99 ≤ sc j ∧ sc j ≤ 99) (hlen : gs.length ≤ 5) (hf : ∀ j, j < 1189 → f j = nI (hW gs j)) {Q : Option Value → zM → Prop} (hk : ∀ M g i, i = 1189 → (∀ x, x < 1189 → g x = nI (hT sc gs i 0 x)) → mt M0 M t p q p q f g s w → aj G l kX3_addShot 1 45 [(0, .ref t)] [] M 0 0 Q) : ∀ (n i : Nat) (M : zM) (g : Nat → Int32), i + n = 1189 → (∀ x, x < 1189 → g x = nI (hT sc gs i 0 x)) → mt M0 M t p q p q f g s w → aj G l kX3_addShot 1 10 [(1, .int (nI i)), (0, .ref t)] [] M 0 0 Q := by
  intro n
  induction n with
  | zero =>
    intro i M g hin hg hA
    refine aj.iload_n dX3_addShot_10 rfl ?_
    refine aj.aload_n dX3_addShot_11 rfl ?_
    refine mt.gA hA w1012 dX3_addShot_12 ?_
    refine mt.nP hA dX3_addShot_15 ?_
    refine aj.icmp_geN (a := i) (b := 1189) (tgt := 45) dX3_addShot_16 rfl rfl (by omega) (by omega) rfl (fun c16 => ?_) (fun c16 => ?_)
    · refine aj.pick [1] rfl ?_
      exact hk M g i (by omega) hg hA
    · exact absurd c16 (by omega)
  | succ n ih =>
    intro i M g hin hg hA
    have hwi := hW_lt (gs := gs) (by omega) i
    refine aj.iload_n dX3_addShot_10 rfl ?_
    refine aj.aload_n dX3_addShot_11 rfl ?_
    refine mt.gA hA w1012 dX3_addShot_12 ?_
    refine mt.nP hA dX3_addShot_15 ?_
    refine aj.icmp_geN (a := i) (b := 1189) (tgt := 45) dX3_addShot_16 rfl rfl (by omega) (by omega) rfl (fun c16 => ?_) (fun c16 => ?_)
    · exact absurd c16 (by omega)
    · refine aj.aload_n dX3_addShot_19 rfl ?_
      refine mt.gA hA w1012 dX3_addShot_20 ?_
      refine aj.iload_n dX3_addShot_23 rfl ?_
      refine mt.lP (j := i) hA dX3_addShot_24 rfl (by omega) ?_
      refine aj.if_eqN (a := hW gs i) (tgt := 39) dX3_addShot_25 (hf i (by omega)) (by omega) rfl (fun c25 => ?_) (fun c25 => ?_)
      · refine aj.iincN (a := i) (c := 1) (lv' := [(1, .int (nI (i + 1))), (0, .ref t)]) dX3_addShot_39 rfl (Nat.le_of_ble_eq_true rfl) rfl rfl rfl ?_
        refine aj.goto (tgt := 10) dX3_addShot_42 rfl ?_
        refine aj.pick [0, 1] rfl ?_
        exact ih (i + 1) M g (by omega) (fun x hx => by rw [hT_next, hT_skip c25]; exact hg x hx) hA
      · refine aj.aload_n dX3_addShot_28 rfl ?_
        refine aj.iload_n dX3_addShot_29 rfl ?_
        refine aj.aload_n dX3_addShot_30 rfl ?_
        refine mt.gA hA w1012 dX3_addShot_31 ?_
        refine aj.iload_n dX3_addShot_34 rfl ?_
        refine mt.lP (j := i) hA dX3_addShot_35 rfl (by omega) ?_
        refine aj.callE0 (d' := 0) (As := [.int (nI i), .int (f i)]) (rest := []) dX3_addShot_36 v_X3_35 li_X3_spread hA.ob rfl rfl rfl (Nat.le_of_ble_eq_true rfl) (Nat.le_of_ble_eq_true rfl) (k_spread i rfl hs hb ((hf i (by omega))) (by omega) hg hA) (fun M hM => ?_)
        obtain ⟨g2, hA, hg2⟩ := hM
        refine aj.iincN (a := i) (c := 1) (lv' := [(1, .int (nI (i + 1))), (0, .ref t)]) dX3_addShot_39 rfl (Nat.le_of_ble_eq_true rfl) rfl rfl rfl ?_
        refine aj.goto (tgt := 10) dX3_addShot_42 rfl ?_
        refine aj.pick [0, 1] rfl ?_
        exact ih (i + 1) M g2 (by omega) (fun x hx => by rw [hT_next]; exact hg2 x hx) hA
theorem k_addShotM {G : zG} {l : Launch} {M0 M : zM} {t p q : Nat} {f g s : Nat → Int32} {w : Int64} {sc : Nat → Int} {gs : List (Nat → Int)} (hs : ∀ j, j < 10 → (s j).toInt = sc j) (hb : ∀ j, j < 10 → -99 ≤ sc j ∧ sc j ≤ 99) (hlen : gs.length ≤ 5) (hB : eB (sc :: gs)) (hf : ∀ j, j < 1189 → f j = nI (hW gs j)) (hA : mt M0 M t p q p q f g s w) : am G l kX3_addShot 1 [.ref t] M 0 0 (zv (fun M' => ∃ p q g', mt M0 M' t p q p q (fun k => nI (hW (sc :: gs) k)) g' s (w * 10))) := by
  refine am.of (by decide) (Nat.le_of_ble_eq_true rfl) ?_
  refine aj.aload_n dX3_addShot_0 rfl ?_
  refine mt.gS hA w1013 dX3_addShot_1 ?_
  refine aj.iconst (v := 0) dX3_addShot_4 rfl ?_
  refine aj.callS0 (d' := 0) (As := [.ref q, .int 0]) (rest := []) dX3_addShot_5 v_X3_25 w701 rfl rfl (Nat.le_of_ble_eq_true rfl) (Nat.le_of_ble_eq_true rfl) (mt_fillQ 0 hA) (fun M hM => ?_)
  have hA := hM
  refine aj.iconst (v := 0) dX3_addShot_8 rfl ?_
  refine aj.istore_n (lv' := [(1, .int 0), (0, .ref t)]) dX3_addShot_9 (Nat.le_of_ble_eq_true rfl) rfl ?_
  refine aj.pick [0, 1] rfl ?_
  refine add_lp hs hb hlen hf (fun M g i hi hg hA => ?_) 1189 0 M _ (by omega) (fun x hx => rfl) hA
  refine aj.aload_n dX3_addShot_45 rfl ?_
  refine mt.gA hA w1012 dX3_addShot_46 ?_
  refine aj.astore_n (lv' := [(1, .ref p), (0, .ref t)]) dX3_addShot_49 (Nat.le_of_ble_eq_true rfl) rfl ?_
  refine aj.aload_n dX3_addShot_50 rfl ?_
  refine aj.aload_n dX3_addShot_51 rfl ?_
  refine mt.gS hA w1013 dX3_addShot_52 ?_
  refine mt.pA hA w1012 dX3_addShot_55 (fun M hA => ?_)
  refine aj.aload_n dX3_addShot_58 rfl ?_
  refine aj.aload_n dX3_addShot_59 rfl ?_
  refine mt.pS hA w1013 dX3_addShot_60 (fun M hA => ?_)
  refine aj.aload_n dX3_addShot_63 rfl ?_
  refine aj.dup dX3_addShot_64 rfl ?_
  refine mt.gW hA w1015 dX3_addShot_65 ?_
  refine aj.ldc2 dX3_addShot_68 w1053 ?_
  refine aj.lmul dX3_addShot_71 ?_
  refine mt.pW hA w1015 dX3_addShot_72 (fun M hA => ?_)
  have hb2 : ∀ x, x < 1189 → g x = nI (hW (sc :: gs) x) := fun x hx => by
    rw [hg x hx, hT_end hB hlen hi]
  exact aj.vret rfl dX3_addShot_75 ⟨rfl, q, p, _, hA.flip.cg hb2 (fun _ _ => rfl) (fun _ _ => rfl)⟩
theorem won_lp {G : zG} {l : Launch} {M0 M : zM} {t p q : Nat} {f g s : Nat → Int32} {w : Int64} {gs : List (Nat → Int)} (hlen : gs.length ≤ 6) (hf : ∀ j, j < 1189 → f j = nI (hW gs j)) (hA : mt M0 M t p q p q f g s w) : ∀ (n i : Nat), i + n = 594 → aj G l kX3_won 0 6 [(3, .int (nI (595 + i))), (1, .long (lN (nsum (fun k => hW gs (595 + k)) i))), (0, .ref t)] [] M 0 0 (zr (.long (lN (nsum (fun k => hW gs (595 + k)) 594))) (fun M' => M' = M)) := by
  intro n
  induction n with
  | zero =>
    intro i hin
    have hi : i = 594 := by omega
    refine aj.iload_n dX3_won_6 rfl ?_
    refine aj.aload_n dX3_won_7 rfl ?_
    refine mt.gA hA w1012 dX3_won_8 ?_
    refine mt.nP hA dX3_won_11 ?_
    refine aj.icmp_geN (a := 595 + i) (b := 1189) (tgt := 31) dX3_won_12 rfl rfl (by omega) (by omega) rfl (fun c12 => ?_) (fun c12 => ?_)
    · refine aj.lload_n dX3_won_31 rfl ?_
      exact aj.lret rfl dX3_won_32 ⟨by rw [hi], rfl⟩
    · exact absurd c12 (by omega)
  | succ n ih =>
    intro i hin
    have hwi := hW_lt (gs := gs) hlen (595 + i)
    refine aj.iload_n dX3_won_6 rfl ?_
    refine aj.aload_n dX3_won_7 rfl ?_
    refine mt.gA hA w1012 dX3_won_8 ?_
    refine mt.nP hA dX3_won_11 ?_
    refine aj.icmp_geN (a := 595 + i) (b := 1189) (tgt := 31) dX3_won_12 rfl rfl (by omega) (by omega) rfl (fun c12 => ?_) (fun c12 => ?_)
    · exact absurd c12 (by omega)
    · refine aj.lload_n dX3_won_15 rfl ?_
      refine aj.aload_n dX3_won_16 rfl ?_
      refine mt.gA hA w1012 dX3_won_17 ?_
      refine aj.iload_n dX3_won_20 rfl ?_
      refine mt.lP (j := 595 + i) hA dX3_won_21 rfl (by omega) ?_
      refine aj.i2lN (a := hW gs (595 + i)) dX3_won_22 (hf (595 + i) (by omega)) (by omega) ?_
      refine aj.ladd dX3_won_23 ?_
      refine aj.lstore_n (lv' := [(1, .long ((lN (nsum (fun k => hW gs (595 + k)) i)) + (lN (hW gs (595 + i))))), (3, .int (nI (595 + i))), (0, .ref t)]) dX3_won_24 (Nat.le_of_ble_eq_true rfl) rfl ?_
      refine aj.iincN (a := 595 + i) (c := 1) (lv' := [(3, .int (nI (595 + i + 1))), (1, .long ((lN (nsum (fun k => hW gs (595 + k)) i)) + (lN (hW gs (595 + i))))), (0, .ref t)]) dX3_won_25 rfl (Nat.le_of_ble_eq_true rfl) rfl rfl rfl ?_
      refine aj.goto (tgt := 6) dX3_won_28 rfl ?_
      refine aj.pick [0, 1, 2] rfl ?_
      have e := ih (i + 1) (by omega)
      rw [nsum_s, ← lN_add] at e
      exact e
theorem k_won {G : zG} {l : Launch} {M0 M : zM} {t p q : Nat} {f g s : Nat → Int32} {w : Int64} {gs : List (Nat → Int)} (hlen : gs.length ≤ 6) (hf : ∀ j, j < 1189 → f j = nI (hW gs j)) (hA : mt M0 M t p q p q f g s w) : am G l kX3_won 0 [.ref t] M 0 0 (zr (.long (lN (nsum (fun k => hW gs (595 + k)) 594))) (fun M' => M' = M)) := by
  refine am.of (by decide) (Nat.le_of_ble_eq_true rfl) ?_
  refine aj.lconst (v := 0) dX3_won_0 rfl ?_
  refine aj.lstore_n (lv' := [(1, .long 0), (0, .ref t)]) dX3_won_1 (Nat.le_of_ble_eq_true rfl) rfl ?_
  refine aj.sipush (v := 595) dX3_won_2 rfl ?_
  refine aj.istore_n (lv' := [(3, .int 595), (1, .long 0), (0, .ref t)]) dX3_won_5 (Nat.le_of_ble_eq_true rfl) rfl ?_
  refine aj.pick [0, 1, 2] rfl ?_
  exact won_lp hlen hf hA 594 0 (by omega)
