theorem ch_c : ∀ x : Nat, x < 128 → ((nI x).toUInt32 % 65536).toInt32 = nI x := by decide
theorem ch_b : ∀ x : Nat, x < 128 → ((nI x).toInt8).toInt32 = nI x := by decide
def sgI (c : Nat) : Int32 := if c ∈ sgs then nI (sgs.idxOf c) else -1
theorem sgs_1 : ∀ k, k < 12 → sgs.idxOf (sgs.getD k 0) = k ∧ zc 1 k = sgs.getD k 0 ∧ sgs.getD k 0 ∈ sgs := by decide
theorem sgs_no {c : Nat} (h : ∀ j, j < 12 → zc 1 j ≠ c) : c ∉ sgs := fun z => by
  have h1 := List.idxOf_lt_length_of_mem z
  have e1 : sgs.length = 12 := rfl
  rw [e1] at h1
  refine h _ h1 ?_
  rw [(sgs_1 _ h1).2.1]
  simp only [List.getD]
  rw [List.getElem?_eq_getElem (by omega), List.getElem_idxOf (by omega)]
  rfl
theorem s_canEnc {G : zG} {l : Launch} (M : zM) (c : Nat) {x_c : Int32} (e_c : x_c = nI c) (hc : c < 128) : am G l kJ1_canEncode_9a6ad 0 [.int x_c] M 0 0 (zr (.int 1) (fun M' => M' = M)) := by
  refine am.of (by decide) (Nat.le_of_ble_eq_true rfl) ?_
  refine aj.iload_n dJ1_canEncode_9a6ad_0 rfl ?_
  refine aj.if_ltN (a := c) (tgt := 15) dJ1_canEncode_9a6ad_1 e_c (by omega) rfl ?_
  refine aj.iload_n dJ1_canEncode_9a6ad_4 rfl ?_
  refine aj.sipush (v := 255) dJ1_canEncode_9a6ad_5 rfl ?_
  refine aj.icmp_gtN (a := c) (b := 255) (tgt := 15) dJ1_canEncode_9a6ad_8 e_c rfl (by omega) (by omega) rfl (fun c8 => ?_) (fun c8 => ?_)
  · exact absurd c8 (by omega)
  · refine aj.iconst (v := 1) dJ1_canEncode_9a6ad_11 rfl ?_
    refine aj.goto (tgt := 16) dJ1_canEncode_9a6ad_12 rfl ?_
    exact aj.zret (ty := .boolean) rfl rfl dJ1_canEncode_9a6ad_16 ⟨rfl, rfl⟩
theorem idx_lp {G : zG} {l : Launch} {av : Nat → Nat} {fm : Nat} (hG : zSt G av fm) (M : zM) {y z : Int32} {c : Nat} (hc : c < 128) : ∀ (n j : Nat), j + n = 12 → (∀ i, i < j → zc 1 i ≠ c) → aj G l kJ1_indexOfChar_4cfef 0 7 [(5, .int (nI j)), (4, .int (nI c)), (0, .ref (av 1)), (1, .int y), (2, .int z), (3, .int (nI 12))] [] M 0 0 (zr (.int (sgI c)) (fun M' => M' = M)) := by
  have h12 : (zch.getD 1 []).length = 12 := by decide
  intro n
  induction n with
  | zero =>
    intro j hj hno
    refine aj.iload dJ1_indexOfChar_4cfef_7 rfl ?_
    refine aj.iload_n dJ1_indexOfChar_4cfef_9 rfl ?_
    refine aj.icmp_geN (a := j) (b := 12) (tgt := 31) dJ1_indexOfChar_4cfef_10 rfl rfl (by omega) (by omega) rfl (fun c10 => ?_) (fun c10 => ?_)
    · refine aj.iconst (v := (-1)) dJ1_indexOfChar_4cfef_31 rfl ?_
      exact aj.iret rfl dJ1_indexOfChar_4cfef_32 ⟨by unfold sgI; rw [if_neg (sgs_no (fun i hi => hno i (by omega)))], rfl⟩
    · exact absurd c10 (by omega)
  | succ n ih =>
    intro j hj hno
    have hz8 : zc 1 j < 128 := zc_l (by decide)
    refine aj.iload dJ1_indexOfChar_4cfef_7 rfl ?_
    refine aj.iload_n dJ1_indexOfChar_4cfef_9 rfl ?_
    refine aj.icmp_geN (a := j) (b := 12) (tgt := 31) dJ1_indexOfChar_4cfef_10 rfl rfl (by omega) (by omega) rfl (fun c10 => ?_) (fun c10 => ?_)
    · exact absurd c10 (by omega)
    · refine aj.aload_n dJ1_indexOfChar_4cfef_13 rfl ?_
      refine aj.iload dJ1_indexOfChar_4cfef_14 rfl ?_
      refine aj.sbyt hG (j := j) (by decide) rfl (by omega) dJ1_indexOfChar_4cfef_16 ?_
      refine aj.iload dJ1_indexOfChar_4cfef_17 rfl ?_
      refine aj.icmp_neN (a := zc 1 j) (b := c) (tgt := 25) dJ1_indexOfChar_4cfef_19 rfl rfl (by omega) (by omega) rfl (fun c19 => ?_) (fun c19 => ?_)
      · refine aj.iincN (a := j) (c := 1) (lv' := [(5, .int (nI (j + 1))), (4, .int (nI c)), (0, .ref (av 1)), (1, .int y), (2, .int z), (3, .int (nI 12))]) dJ1_indexOfChar_4cfef_25 rfl (Nat.le_of_ble_eq_true rfl) rfl rfl rfl ?_
        refine aj.goto (tgt := 7) dJ1_indexOfChar_4cfef_28 rfl ?_
        refine aj.pick [0, 1, 2, 3, 4, 5] rfl ?_
        exact ih (j + 1) (by omega) (fun i hi => if q : i = j then (by rw [q]; exact c19) else hno i (by omega))
      · refine aj.iload dJ1_indexOfChar_4cfef_22 rfl ?_
        have h1 := sgs_1 j (by omega)
        exact aj.iret rfl dJ1_indexOfChar_4cfef_24 ⟨by unfold sgI; rw [← c19, h1.2.1, if_pos h1.2.2, h1.1], rfl⟩
theorem s_idxChar {G : zG} {l : Launch} {av : Nat → Nat} {fm : Nat} (hG : zSt G av fm) (M : zM) {y z : Int32} {c : Nat} (hc : c < 128) (hy : y = nI c) (hz : z = nI 0) : am G l kJ1_indexOfChar_4cfef 0 [.ref (av 1), .int y, .int z, .int (nI 12)] M 0 0 (zr (.int (sgI c)) (fun M' => M' = M)) := by
  refine am.of (by decide) (Nat.le_of_ble_eq_true rfl) ?_
  have hy8 : (Int32.toInt8 y).toInt32 = nI c := by rw [hy]; exact ch_b c hc
  refine aj.iload_n dJ1_indexOfChar_4cfef_0 rfl ?_
  refine aj.i2b dJ1_indexOfChar_4cfef_1 ?_
  refine aj.istore (lv' := [(4, .int ((Int32.toInt8 y).toInt32)), (0, .ref (av 1)), (1, .int y), (2, .int z), (3, .int (nI 12))]) dJ1_indexOfChar_4cfef_2 (Nat.le_of_ble_eq_true rfl) rfl ?_
  refine aj.iload_n dJ1_indexOfChar_4cfef_4 rfl ?_
  refine aj.istore (lv' := [(5, .int z), (4, .int ((Int32.toInt8 y).toInt32)), (0, .ref (av 1)), (1, .int y), (2, .int z), (3, .int (nI 12))]) dJ1_indexOfChar_4cfef_5 (Nat.le_of_ble_eq_true rfl) rfl ?_
  refine aj.pick [0, 1, 2, 3, 4, 5] rfl ?_
  rw [hy8]
  have e := idx_lp (l := l) hG M (y := y) (z := z) hc 12 0 (by omega) (fun i hi => absurd hi (by omega))
  rw [← hz] at e
  exact e
theorem s_idx1 {G : zG} {l : Launch} {av : Nat → Nat} {fm : Nat} (hG : zSt G av fm) (M : zM) {y : Int32} {c : Nat} (hc : c < 128) (hy : y = nI c) : am G l kJ1_indexOf_4cfef 1 [.ref (av 1), .int y, .int 0, .int (nI (zch.getD 1 []).length)] M 0 0 (zr (.int (sgI c)) (fun M' => M' = M)) := by
  have h12 : (zch.getD 1 []).length = 12 := by decide
  have hmx : iMax (0 : Int32) 0 = nI 0 := rfl
  have hmn : iMin (nI (zch.getD 1 []).length) (nI (zch.getD 1 []).length) = nI 12 := by rw [h12]; rfl
  refine am.of (by decide) (Nat.le_of_ble_eq_true rfl) ?_
  refine aj.iload_n dJ1_indexOf_4cfef_0 rfl ?_
  refine aj.callS1 (d' := 0) (As := [.int y]) (rest := []) dJ1_indexOf_4cfef_1 v_J1_88 w532 rfl rfl (Nat.le_of_ble_eq_true rfl) (Nat.le_of_ble_eq_true rfl) (s_canEnc _ c hy hc) (fun M hM => ?_)
  subst hM
  refine aj.if_neN (a := 1) (tgt := 9) dJ1_indexOf_4cfef_4 rfl (by omega) rfl (fun c4 => ?_) (fun c4 => ?_)
  · refine aj.iload_n dJ1_indexOf_4cfef_9 rfl ?_
    refine aj.iconst (v := 0) dJ1_indexOf_4cfef_10 rfl ?_
    refine aj.mmax dJ1_indexOf_4cfef_11 w534 (Nat.le_of_ble_eq_true rfl) (Nat.le_of_ble_eq_true rfl) ?_
    refine aj.istore_n (lv' := [(2, .int (iMax 0 0)), (0, .ref (av 1)), (1, .int y), (3, .int (nI ((zch.getD 1 []).length)))]) dJ1_indexOf_4cfef_14 (Nat.le_of_ble_eq_true rfl) rfl ?_
    refine aj.iload_n dJ1_indexOf_4cfef_15 rfl ?_
    refine aj.aload_n dJ1_indexOf_4cfef_16 rfl ?_
    refine aj.slen hG (by decide) dJ1_indexOf_4cfef_17 ?_
    refine aj.mmin dJ1_indexOf_4cfef_18 w535 (Nat.le_of_ble_eq_true rfl) (Nat.le_of_ble_eq_true rfl) ?_
    refine aj.istore_n (lv' := [(3, .int (iMin (nI ((zch.getD 1 []).length)) (nI ((zch.getD 1 []).length)))), (2, .int (iMax 0 0)), (0, .ref (av 1)), (1, .int y)]) dJ1_indexOf_4cfef_21 (Nat.le_of_ble_eq_true rfl) rfl ?_
    refine aj.iload_n dJ1_indexOf_4cfef_22 rfl ?_
    refine aj.iload_n dJ1_indexOf_4cfef_23 rfl ?_
    refine aj.icmp_ltN (a := 0) (b := 12) (tgt := 29) dJ1_indexOf_4cfef_24 hmx hmn (by omega) (by omega) rfl (fun c24 => ?_) (fun c24 => ?_)
    · rw [hmn]
      refine aj.aload_n dJ1_indexOf_4cfef_29 rfl ?_
      refine aj.iload_n dJ1_indexOf_4cfef_30 rfl ?_
      refine aj.iload_n dJ1_indexOf_4cfef_31 rfl ?_
      refine aj.iload_n dJ1_indexOf_4cfef_32 rfl ?_
      refine aj.callS1 (d' := 0) (As := [.ref (av 1), .int y, .int (iMax 0 0), .int (nI 12)]) (rest := []) dJ1_indexOf_4cfef_33 v_J1_95 w537 rfl rfl (Nat.le_of_ble_eq_true rfl) (Nat.le_of_ble_eq_true rfl) (s_idxChar hG _ hc hy hmx) (fun M hM => ?_)
      subst hM
      exact aj.iret rfl dJ1_indexOf_4cfef_36 ⟨rfl, rfl⟩
    · exact absurd c24 (by decide)
  · exact absurd c4 (by decide)
theorem s_idx2 {G : zG} {l : Launch} {av : Nat → Nat} {fm : Nat} (hG : zSt G av fm) (M : zM) {y : Int32} {c : Nat} (hc : c < 128) (hy : y = nI c) : am G l kJ0_indexOf_7cf53 2 [.ref (G.2.2.2.2.1 1), .int y, .int 0] M 0 0 (zr (.int (sgI c)) (fun M' => M' = M)) := by
  refine am.of (by decide) (Nat.le_of_ble_eq_true rfl) ?_
  refine aj.aload_n dJ0_indexOf_7cf53_0 rfl ?_
  refine aj.callT hG (d' := 0) (As := []) (rest := []) (by decide) dJ0_indexOf_7cf53_1 v_J0_492 ⟨w475, w476⟩ rfl rfl rfl (Nat.le_of_ble_eq_true rfl) (Nat.le_of_ble_eq_true rfl) (s_isLatin1 hG _ 1 (by decide)) ?_
  refine aj.if_eqN (a := 1) (tgt := 23) dJ0_indexOf_7cf53_4 rfl (by omega) rfl (fun c4 => ?_) (fun c4 => ?_)
  · exact absurd c4 (by decide)
  · refine aj.aload_n dJ0_indexOf_7cf53_7 rfl ?_
    refine aj.sval hG (by decide) w1873 dJ0_indexOf_7cf53_8 ?_
    refine aj.iload_n dJ0_indexOf_7cf53_11 rfl ?_
    refine aj.iload_n dJ0_indexOf_7cf53_12 rfl ?_
    refine aj.aload_n dJ0_indexOf_7cf53_13 rfl ?_
    refine aj.callT hG (d' := 1) (As := []) (rest := [.int 0, .int y, .ref (av 1)]) (by decide) dJ0_indexOf_7cf53_14 v_J0_505 ⟨w461, w462⟩ rfl rfl rfl (Nat.le_of_ble_eq_true rfl) (Nat.le_of_ble_eq_true rfl) (s_length hG _ 1 (by decide)) ?_
    refine aj.callS1 (d' := 1) (As := [.ref (av 1), .int y, .int 0, .int (nI ((zch.getD 1 []).length))]) (rest := []) dJ0_indexOf_7cf53_17 v_J0_637 w529 rfl rfl (Nat.le_of_ble_eq_true rfl) (Nat.le_of_ble_eq_true rfl) (s_idx1 hG _ hc hy) (fun M hM => ?_)
    subst hM
    refine aj.goto (tgt := 36) dJ0_indexOf_7cf53_20 rfl ?_
    exact aj.iret rfl dJ0_indexOf_7cf53_36 ⟨rfl, rfl⟩
theorem s_idx {G : zG} {l : Launch} {av : Nat → Nat} {fm : Nat} (hG : zSt G av fm) (M : zM) {y : Int32} {c : Nat} (hc : c < 128) (hy : y = nI c) : am G l kJ0_indexOf_0f7a4 3 [.ref (G.2.2.2.2.1 1), .int y] M 0 0 (zr (.int (sgI c)) (fun M' => M' = M)) := by
  refine am.of (by decide) (Nat.le_of_ble_eq_true rfl) ?_
  refine aj.aload_n dJ0_indexOf_0f7a4_0 rfl ?_
  refine aj.iload_n dJ0_indexOf_0f7a4_1 rfl ?_
  refine aj.iconst (v := 0) dJ0_indexOf_0f7a4_2 rfl ?_
  refine aj.callT hG (d' := 2) (As := [.int y, .int 0]) (rest := []) (by decide) dJ0_indexOf_0f7a4_3 v_J0_633 ⟨w524, w525⟩ rfl rfl rfl (Nat.le_of_ble_eq_true rfl) (Nat.le_of_ble_eq_true rfl) (s_idx2 hG _ hc hy) ?_
  exact aj.iret rfl dJ0_indexOf_0f7a4_6 ⟨rfl, rfl⟩
