theorem numb_lp {G : zG} {l : Launch} {a : Nat} {M0 M : zM} {V : Nat → Nat → Int32} {W : Nat → Nat → Int64} {R : Nat → Nat → Option Nat} {tx : Nat → Nat} (st : Nat) {x_st : Int32} (e_st : x_st = nI st) (be : Nat) {x_be : Int32} (e_be : x_be = nI be) (hb9 : be ≤ 900) (hsb : st ≤ be) (hd : ∀ j, st ≤ j → j < be → V 1 j = nI (tx j) ∧ 48 ≤ tx j ∧ tx j ≤ 57) (h3 : be - st ≤ 3) (hA : kA a M0 M V W R) : ∀ (n i : Nat), st + i + n = be → aj G l kX9_numberOf 1 20 [(4, .int (nI (st + i))), (3, .int (nI (numL tx st i))), (0, .ref (a + 1)), (1, .int x_st), (2, .int x_be)] [] M 0 0 (zr (.int (nI (numL tx st (be - st)))) (fun M' => M' = M)) := by
  intro n
  induction n with
  | zero =>
    intro i hi
    have hi2 : be - st = i := by omega
    refine aj.iload dX9_numberOf_20 rfl ?_
    refine aj.iload_n dX9_numberOf_22 rfl ?_
    refine aj.icmp_geN (a := st + i) (b := be) (tgt := 52) dX9_numberOf_23 rfl e_be (by omega) (by omega) rfl (fun c23 => ?_) (fun c23 => ?_)
    · refine aj.iload_n dX9_numberOf_52 rfl ?_
      exact aj.iret rfl dX9_numberOf_53 ⟨by rw [hi2], rfl⟩
    · exact absurd c23 (by omega)
  | succ n ih =>
    intro i hi
    have hdi := hd (st + i) (by omega) (by omega)
    have hd48 := hdi.2.1
    have hnum : numL tx st (i + 1) = numL tx st i * 10 + tx (st + i) - 48 := by
      show 10 * numL tx st i + (tx (st + i) - 48) = _
      omega
    refine aj.iload dX9_numberOf_20 rfl ?_
    refine aj.iload_n dX9_numberOf_22 rfl ?_
    refine aj.icmp_geN (a := st + i) (b := be) (tgt := 52) dX9_numberOf_23 rfl e_be (by omega) (by omega) rfl (fun c23 => ?_) (fun c23 => ?_)
    · exact absurd c23 (by omega)
    · refine aj.iload dX9_numberOf_26 rfl ?_
      refine aj.aload_n dX9_numberOf_28 rfl ?_
      refine aj.kN (i := 1) (n := 900) (v := nI 900) rfl (by decide) (by decide) dX9_numberOf_29 hA rfl ?_
      refine aj.icmp_geN (a := st + i) (b := 900) (tgt := 52) dX9_numberOf_30 rfl rfl (by omega) (by omega) rfl (fun c30 => ?_) (fun c30 => ?_)
      · exact absurd c30 (by omega)
      · refine aj.iload_n dX9_numberOf_33 rfl ?_
        refine aj.bipush (v := 10) dX9_numberOf_34 rfl ?_
        refine aj.imulN (a := numL tx st i) (b := 10) dX9_numberOf_36 rfl rfl ?_
        refine aj.aload_n dX9_numberOf_37 rfl ?_
        refine aj.iload dX9_numberOf_38 rfl ?_
        refine aj.kLb (i := 1) (j := st + i) rfl dX9_numberOf_40 hA rfl (by omega) (by decide) ?_
        refine aj.iaddN (a := (numL tx st i) * 10) (b := tx (st + i)) dX9_numberOf_41 rfl hdi.1 ?_
        refine aj.bipush (v := 48) dX9_numberOf_42 rfl ?_
        refine aj.isubN (a := ((numL tx st i) * 10) + (tx (st + i))) (b := 48) dX9_numberOf_44 rfl rfl (by omega) ?_
        refine aj.istore_n (lv' := [(3, .int (nI ((((numL tx st i) * 10) + (tx (st + i))) - 48))), (4, .int (nI (st + i))), (0, .ref (a + 1)), (1, .int x_st), (2, .int x_be)]) dX9_numberOf_45 (Nat.le_of_ble_eq_true rfl) rfl ?_
        refine aj.iincN (a := st + i) (c := 1) (lv' := [(4, .int (nI (st + i + 1))), (3, .int (nI ((((numL tx st i) * 10) + (tx (st + i))) - 48))), (0, .ref (a + 1)), (1, .int x_st), (2, .int x_be)]) dX9_numberOf_46 rfl (Nat.le_of_ble_eq_true rfl) rfl rfl rfl ?_
        refine aj.goto (tgt := 20) dX9_numberOf_49 rfl ?_
        refine aj.pick [0, 1, 2, 3, 4] rfl ?_
        have e := ih (i + 1) (by omega)
        rw [hnum] at e
        exact e
theorem k_numberOf {G : zG} {l : Launch} {a : Nat} {M0 M : zM} {V : Nat → Nat → Int32} {W : Nat → Nat → Int64} {R : Nat → Nat → Option Nat} {tx : Nat → Nat} (st : Nat) {x_st : Int32} (e_st : x_st = nI st) (be : Nat) {x_be : Int32} (e_be : x_be = nI be) (hb9 : be ≤ 900) (hsb : st ≤ be) (hd : ∀ j, st ≤ j → j < be → V 1 j = nI (tx j) ∧ 48 ≤ tx j ∧ tx j ≤ 57) (hA : kA a M0 M V W R) : am G l kX9_numberOf 1 [.ref (a + 1), .int x_st, .int x_be] M 0 0 (zr (.int (nI (if 3 < be - st then 3000 else numL tx st (be - st)))) (fun M' => M' = M)) := by
  have hmx : iMax 0 x_st = nI st := by rw [e_st, show (0 : Int32) = nI 0 from rfl, iMax_N (by decide) (by omega), show max 0 st = st by omega]
  refine am.of (by decide) (Nat.le_of_ble_eq_true rfl) ?_
  refine aj.iload_n dX9_numberOf_0 rfl ?_
  refine aj.iload_n dX9_numberOf_1 rfl ?_
  refine aj.isubN (a := be) (b := st) dX9_numberOf_2 e_be e_st (by omega) ?_
  refine aj.iconst (v := 3) dX9_numberOf_3 rfl ?_
  refine aj.icmp_leN (a := be - st) (b := 3) (tgt := 11) dX9_numberOf_4 rfl rfl (by omega) (by omega) rfl (fun c4 => ?_) (fun c4 => ?_)
  · refine aj.iconst (v := 0) dX9_numberOf_11 rfl ?_
    refine aj.istore_n (lv' := [(3, .int 0), (0, .ref (a + 1)), (1, .int x_st), (2, .int x_be)]) dX9_numberOf_12 (Nat.le_of_ble_eq_true rfl) rfl ?_
    refine aj.iconst (v := 0) dX9_numberOf_13 rfl ?_
    refine aj.iload_n dX9_numberOf_14 rfl ?_
    refine aj.mmax dX9_numberOf_15 w450 (Nat.le_of_ble_eq_true rfl) (Nat.le_of_ble_eq_true rfl) ?_
    refine aj.istore (lv' := [(4, .int (iMax 0 x_st)), (3, .int 0), (0, .ref (a + 1)), (1, .int x_st), (2, .int x_be)]) dX9_numberOf_18 (Nat.le_of_ble_eq_true rfl) rfl ?_
    rw [hmx, if_neg (by omega)]
    refine aj.pick [0, 1, 2, 3, 4] rfl ?_
    exact numb_lp st e_st be e_be hb9 hsb hd (by omega) hA (be - st) 0 (by omega)
  · refine aj.sipush (v := 3000) dX9_numberOf_7 rfl ?_
    exact aj.iret rfl dX9_numberOf_10 ⟨by rw [if_pos (by omega)]; rfl, rfl⟩
