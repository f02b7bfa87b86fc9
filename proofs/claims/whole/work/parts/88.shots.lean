theorem spread_lp {G : zG} {l : Launch} {M0 : zM} {t p q : Nat} {f s : Nat → Int32} {w : Int64} (k : Nat) {x_k : Int32} (e_k : x_k = nI k) {x : Int32} {sc : Nat → Int} {gs : List (Nat → Int)} (hs : ∀ j, j < 10 → (s j).toInt = sc j) (hb : ∀ j, j < 10 → -99 ≤ sc j ∧ sc j ≤ 99) (hx : x = nI (hW gs k)) (hk : k < 1189) : ∀ (n j : Nat) (M : zM) (g : Nat → Int32), j + n = 10 → (∀ i, i < 1189 → g i = nI (hT sc gs k j i)) → mt M0 M t p q p q f g s w → aj G l kX3_spread 0 2 [(3, .int (nI j)), (0, .ref t), (1, .int x_k), (2, .int x)] [] M 0 0 (zv (fun M' => ∃ g', mt M0 M' t p q p q f g' s w ∧ ∀ i, i < 1189 → g' i = nI (hT sc gs k 10 i))) := by
  intro n
  induction n with
  | zero =>
    intro j M g hjn hg hA
    have hj : j = 10 := by omega
    refine aj.iload_n dX3_spread_2 rfl ?_
    refine aj.bipush (v := 10) dX3_spread_3 rfl ?_
    refine aj.icmp_geN (a := j) (b := 10) (tgt := 50) dX3_spread_5 rfl rfl (by omega) (by omega) rfl (fun c5 => ?_) (fun c5 => ?_)
    · exact aj.vret rfl dX3_spread_50 ⟨rfl, g, hA, fun i hi => by rw [← hj]; exact hg i hi⟩
    · exact absurd c5 (by omega)
  | succ n ih =>
    intro j M g hjn hg hA
    have hj : j < 10 := by omega
    have hbj := hb j hj
    have hto : (x_k + s j).toInt = (k : Int) + sc j := by
      rw [e_k, Int32.toInt_add, nI_toInt (by omega), hs j hj]
      exact Int.bmod_eq_of_le (by omega) (by omega)
    refine aj.iload_n dX3_spread_2 rfl ?_
    refine aj.bipush (v := 10) dX3_spread_3 rfl ?_
    refine aj.icmp_geN (a := j) (b := 10) (tgt := 50) dX3_spread_5 rfl rfl (by omega) (by omega) rfl (fun c5 => ?_) (fun c5 => ?_)
    · exact absurd c5 (by omega)
    · refine aj.iload_n dX3_spread_8 rfl ?_
      refine aj.aload_n dX3_spread_9 rfl ?_
      refine mt.gT hA w1014 dX3_spread_10 ?_
      refine aj.iload_n dX3_spread_13 rfl ?_
      refine mt.lS (j := j) hA dX3_spread_14 rfl (by omega) ?_
      refine aj.iadd dX3_spread_15 ?_
      refine aj.istore (lv' := [(4, .int (x_k + (s j))), (3, .int (nI j)), (0, .ref t), (1, .int x_k), (2, .int x)]) dX3_spread_16 (Nat.le_of_ble_eq_true rfl) rfl ?_
      refine aj.iload dX3_spread_18 rfl ?_
      refine aj.if_lt (tgt := 44) dX3_spread_20 rfl (fun c20 => ?_) (fun c20 => ?_)
      · refine aj.iincN (a := j) (c := 1) (lv' := [(3, .int (nI (j + 1))), (4, .int (x_k + (s j))), (0, .ref t), (1, .int x_k), (2, .int x)]) dX3_spread_44 rfl (Nat.le_of_ble_eq_true rfl) rfl rfl rfl ?_
        refine aj.goto (tgt := 2) dX3_spread_47 rfl ?_
        refine aj.pick [0, 2, 3, 4] rfl ?_
        refine ih (j + 1) M g (by omega) (fun i hi => ?_) hA
        rw [hT_lot, if_neg (by simp only [Int32.lt_iff_toInt_lt, Int32.le_iff_toInt_le] at *; have e0 : (0 : Int32).toInt = 0 := rfl; have e9 : (nI 1189).toInt = 1189 := rfl; omega), Nat.add_zero]
        exact hg i hi
      · refine aj.iload dX3_spread_23 rfl ?_
        refine aj.aload_n dX3_spread_25 rfl ?_
        refine mt.gS hA w1013 dX3_spread_26 ?_
        refine mt.nQ hA dX3_spread_29 ?_
        refine aj.icmp_ge (tgt := 44) dX3_spread_30 rfl (fun c30 => ?_) (fun c30 => ?_)
        · refine aj.iincN (a := j) (c := 1) (lv' := [(3, .int (nI (j + 1))), (4, .int (x_k + (s j))), (0, .ref t), (1, .int x_k), (2, .int x)]) dX3_spread_44 rfl (Nat.le_of_ble_eq_true rfl) rfl rfl rfl ?_
          refine aj.goto (tgt := 2) dX3_spread_47 rfl ?_
          refine aj.pick [0, 2, 3, 4] rfl ?_
          refine ih (j + 1) M g (by omega) (fun i hi => ?_) hA
          rw [hT_lot, if_neg (by simp only [Int32.lt_iff_toInt_lt, Int32.le_iff_toInt_le] at *; have e0 : (0 : Int32).toInt = 0 := rfl; have e9 : (nI 1189).toInt = 1189 := rfl; omega), Nat.add_zero]
          exact hg i hi
        · obtain ⟨T2, hT2k⟩ : ∃ T2 : Nat, (T2 : Int) = (k : Int) + sc j := ⟨((k : Int) + sc j).toNat, by simp only [Int32.lt_iff_toInt_lt, Int32.le_iff_toInt_le] at *; have e0 : (0 : Int32).toInt = 0 := rfl; have e9 : (nI 1189).toInt = 1189 := rfl; omega⟩
          have hT2 : T2 < 1189 := by simp only [Int32.lt_iff_toInt_lt, Int32.le_iff_toInt_le] at *; have e0 : (0 : Int32).toInt = 0 := rfl; have e9 : (nI 1189).toInt = 1189 := rfl; omega
          have eT2 : x_k + s j = nI T2 := Int32.toInt_inj.mp (by rw [hto, nI_toInt (by omega)]; omega)
          refine aj.aload_n dX3_spread_33 rfl ?_
          refine mt.gS hA w1013 dX3_spread_34 ?_
          refine aj.iload dX3_spread_37 rfl ?_
          refine aj.dup2 dX3_spread_39 rfl rfl ?_
          refine mt.lQ (j := T2) hA dX3_spread_40 eT2 (by omega) ?_
          refine aj.iload_n dX3_spread_41 rfl ?_
          refine aj.iadd dX3_spread_42 ?_
          refine mt.sQ (j := T2) hA dX3_spread_43 eT2 (by omega) (fun M hA => ?_)
          refine aj.iincN (a := j) (c := 1) (lv' := [(3, .int (nI (j + 1))), (4, .int (x_k + (s j))), (0, .ref t), (1, .int x_k), (2, .int x)]) dX3_spread_44 rfl (Nat.le_of_ble_eq_true rfl) rfl rfl rfl ?_
          refine aj.goto (tgt := 2) dX3_spread_47 rfl ?_
          refine aj.pick [0, 2, 3, 4] rfl ?_
          refine ih (j + 1) M _ (by omega) (fun i hi => ?_) hA
          rw [hT_lot]
          by_cases e : i = T2
          · rw [e, pk_us, if_pos hT2k.symm, hg T2 hT2, hx]; exact nI_add _ _
          · rw [pk_un e, if_neg (by omega), Nat.add_zero]; exact hg i hi
theorem k_spread {G : zG} {l : Launch} {M0 M : zM} {t p q : Nat} {f g s : Nat → Int32} {w : Int64} (k : Nat) {x_k : Int32} (e_k : x_k = nI k) {x : Int32} {sc : Nat → Int} {gs : List (Nat → Int)} (hs : ∀ j, j < 10 → (s j).toInt = sc j) (hb : ∀ j, j < 10 → -99 ≤ sc j ∧ sc j ≤ 99) (hx : x = nI (hW gs k)) (hk : k < 1189) (hg : ∀ i, i < 1189 → g i = nI (hT sc gs k 0 i)) (hA : mt M0 M t p q p q f g s w) : am G l kX3_spread 0 [.ref t, .int x_k, .int x] M 0 0 (zv (fun M' => ∃ g', mt M0 M' t p q p q f g' s w ∧ ∀ i, i < 1189 → g' i = nI (hT sc gs k 10 i))) := by
  refine am.of (by decide) (Nat.le_of_ble_eq_true rfl) ?_
  refine aj.iconst (v := 0) dX3_spread_0 rfl ?_
  refine aj.istore_n (lv' := [(3, .int 0), (0, .ref t), (1, .int x_k), (2, .int x)]) dX3_spread_1 (Nat.le_of_ble_eq_true rfl) rfl ?_
  refine aj.pick [0, 1, 2, 3] rfl ?_
  exact spread_lp k e_k hs hb hx hk 10 0 M g (by omega) hg hA
