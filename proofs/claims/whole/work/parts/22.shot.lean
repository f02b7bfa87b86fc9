/-- what a shot scores, and the row behind it -/
def shotS (B : Nat → Int32) (sl ol : Option (List Nat)) (s aim lot : Nat) : Int32 := mScore B (nI (mLn B sl s aim lot)) (mOpen ol (mN (B 26)) (mN (B 27)) (mN (B 25)) = true)
def shot1 (B : Nat → Int32) (sl ol : Option (List Nat)) (s aim lot : Nat) : Nat → Int32 := upd B (17 + s) (B (17 + s) + shotS B sl ol s aim lot)
def shot2 (B : Nat → Int32) (sl ol : Option (List Nat)) (s aim lot : Nat) : Nat → Int32 := if mOpen ol (mN (B 26)) (mN (B 27)) (mN (B 25)) = true ∧ mFar B (nI (mLn B sl s aim lot)) = 0 then upd (shot1 B sl ol s aim lot) 25 (nI (mN (B 25) + 1)) else shot1 B sl ol s aim lot
def shot3 (B : Nat → Int32) (sl ol : Option (List Nat)) (s aim lot : Nat) : Nat → Int32 := if mN (B (21 + s)) < 9 then upd (shot2 B sl ol s aim lot) (21 + s) (nI (mN (B (21 + s)) + 1)) else shot2 B sl ol s aim lot
def shotB (B : Nat → Int32) (sl ol : Option (List Nat)) (s aim lot : Nat) : Nat → Int32 := upd (shot3 B sl ol s aim lot) 27 (nI (mN (B 27) + 1))
theorem shot1_o {B : Nat → Int32} {sl ol : Option (List Nat)} {s aim lot k : Nat} (h : k ≠ 17 + s) : shot1 B sl ol s aim lot k = B k := pk_un h
theorem shot2_o {B : Nat → Int32} {sl ol : Option (List Nat)} {s aim lot k : Nat} (h : k ≠ 17 + s) (h2 : k ≠ 25) : shot2 B sl ol s aim lot k = B k := by
  unfold shot2
  split
  · rw [pk_un h2]; exact shot1_o h
  · exact shot1_o h
theorem shot3_o {B : Nat → Int32} {sl ol : Option (List Nat)} {s aim lot k : Nat} (h : k ≠ 17 + s) (h2 : k ≠ 25) (h3 : k ≠ 21 + s) : shot3 B sl ol s aim lot k = B k := by
  unfold shot3
  split
  · rw [pk_un h3]; exact shot2_o h h2
  · exact shot2_o h h2
theorem mFar_cong {B C : Nat → Int32} (h1 : B 1 = C 1) (h2 : B 2 = C 2) (p : Int32) : mFar B p = mFar C p := by
  unfold mFar
  rw [h1, h2]
theorem goesShot_3 {G : zG} {l : Launch} {b : Nat} {M0 : zM} {I : Nat → Int32} {A : Nat → Nat → Int32} {L : Nat → Nat → Int64} {sl ol : Option (List Nat)} {T : Nat} (s : Nat) {x_s : Int32} (e_s : x_s = nI s) (aim lot : Nat) (hB : mOK (A 1) sl ol T) (hs : s < 4) (haim : aim ≤ 20) (hlot : lot ≤ 9) (M : zM) (hM : mW b M0 M I (va_up A 1 (shot3 (A 1) sl ol s aim lot)) L) : aj G l kX12_goesShot 4 91 [(6, .int (shotS (A 1) sl ol s aim lot)), (0, .ref b), (1, .int x_s)] [] M 0 0 (zr (.int (shotS (A 1) sl ol s aim lot)) (fun M' => mW b M0 M' I (va_up A 1 (shotB (A 1) sl ol s aim lot)) L)) := by
  obtain ⟨u, v, w, hA⟩ := hM
  have hT := hB.2.2.2.2.2.2.2.2.1
  have hN6 := hB.2.2.1.2
  have hN25 := hB.2.2.2.2.2.1.2
  have hN26 := hB.2.2.2.2.2.2.1.2
  have hN27 := hB.2.2.2.2.2.2.2.1.2
  have hN1 := hB.1.1.2
  have hN2 := hB.1.2.1.2
  have hag := (hB.2.2.2.2.1 s hs).2
  have h27 : shot3 (A 1) sl ol s aim lot 27 = nI (mN (A 1 27)) := by rw [shot3_o (by omega) (by omega) (by omega)]; exact hB.2.2.2.2.2.2.2.1.1
  refine aj.aload_n dX12_goesShot_91 rfl ?_
  refine gM1 rfl dX12_goesShot_92 hA ?_
  refine aj.bipush (v := 27) dX12_goesShot_95 rfl ?_
  refine aj.dup2 dX12_goesShot_97 rfl rfl ?_
  refine aM1N (i := 27) dX12_goesShot_98 hA rfl (by omega) ?_
  refine aj.iconst (v := 1) dX12_goesShot_99 rfl ?_
  refine aj.iaddN (a := mN (A 1 27)) (b := 1) dX12_goesShot_100 h27 rfl ?_
  refine sM1N (i := 27) dX12_goesShot_101 hA rfl (by omega) (fun M hA => ?_)
  refine aj.iload dX12_goesShot_102 rfl ?_
  exact aj.iret rfl dX12_goesShot_104 ⟨rfl, _, _, _, by rw [bx_uu] at hA; exact hA⟩
theorem goesShot_2 {G : zG} {l : Launch} {b : Nat} {M0 : zM} {I : Nat → Int32} {A : Nat → Nat → Int32} {L : Nat → Nat → Int64} {sl ol : Option (List Nat)} {T : Nat} (s : Nat) {x_s : Int32} (e_s : x_s = nI s) (aim lot : Nat) (hB : mOK (A 1) sl ol T) (hs : s < 4) (haim : aim ≤ 20) (hlot : lot ≤ 9) (M : zM) (hM : mW b M0 M I (va_up A 1 (shot2 (A 1) sl ol s aim lot)) L) : aj G l kX12_goesShot 4 64 [(6, .int (shotS (A 1) sl ol s aim lot)), (0, .ref b), (1, .int x_s)] [] M 0 0 (zr (.int (shotS (A 1) sl ol s aim lot)) (fun M' => mW b M0 M' I (va_up A 1 (shotB (A 1) sl ol s aim lot)) L)) := by
  obtain ⟨u, v, w, hA⟩ := hM
  have hT := hB.2.2.2.2.2.2.2.2.1
  have hN6 := hB.2.2.1.2
  have hN25 := hB.2.2.2.2.2.1.2
  have hN26 := hB.2.2.2.2.2.2.1.2
  have hN27 := hB.2.2.2.2.2.2.2.1.2
  have hN1 := hB.1.1.2
  have hN2 := hB.1.2.1.2
  have hag := (hB.2.2.2.2.1 s hs).2
  have h21 : shot2 (A 1) sl ol s aim lot (21 + s) = nI (mN (A 1 (21 + s))) := by rw [shot2_o (by omega) (by omega)]; exact (hB.2.2.2.2.1 s hs).1
  refine aj.aload_n dX12_goesShot_64 rfl ?_
  refine gM1 rfl dX12_goesShot_65 hA ?_
  refine aj.bipush (v := 21) dX12_goesShot_68 rfl ?_
  refine aj.iload_n dX12_goesShot_70 rfl ?_
  refine aj.iaddN (a := 21) (b := s) dX12_goesShot_71 rfl e_s ?_
  refine aM1N (i := 21 + s) dX12_goesShot_72 hA rfl (by omega) ?_
  refine aj.bipush (v := 9) dX12_goesShot_73 rfl ?_
  refine aj.icmp_geN (a := mN (A 1 (21 + s))) (b := 9) (tgt := 91) dX12_goesShot_75 h21 rfl (by omega) (by omega) rfl (fun c75 => ?_) (fun c75 => ?_)
  · exact goesShot_3 s e_s aim lot hB hs haim hlot M ⟨_, _, _, by unfold shot3; rw [if_neg (by omega)]; exact hA⟩
  · refine aj.aload_n dX12_goesShot_78 rfl ?_
    refine gM1 rfl dX12_goesShot_79 hA ?_
    refine aj.bipush (v := 21) dX12_goesShot_82 rfl ?_
    refine aj.iload_n dX12_goesShot_84 rfl ?_
    refine aj.iaddN (a := 21) (b := s) dX12_goesShot_85 rfl e_s ?_
    refine aj.dup2 dX12_goesShot_86 rfl rfl ?_
    refine aM1N (i := 21 + s) dX12_goesShot_87 hA rfl (by omega) ?_
    refine aj.iconst (v := 1) dX12_goesShot_88 rfl ?_
    refine aj.iaddN (a := mN (A 1 (21 + s))) (b := 1) dX12_goesShot_89 h21 rfl ?_
    refine sM1N (i := 21 + s) dX12_goesShot_90 hA rfl (by omega) (fun M hA => ?_)
    exact goesShot_3 s e_s aim lot hB hs haim hlot M ⟨_, _, _, by unfold shot3; rw [if_pos (by omega)]; rw [bx_uu] at hA; exact hA⟩
theorem goesShot_1 {G : zG} {l : Launch} {b : Nat} {M0 : zM} {I : Nat → Int32} {A : Nat → Nat → Int32} {L : Nat → Nat → Int64} {sl ol : Option (List Nat)} {T : Nat} (s : Nat) {x_s : Int32} (e_s : x_s = nI s) (aim lot : Nat) (hB : mOK (A 1) sl ol T) (hs : s < 4) (haim : aim ≤ 20) (hlot : lot ≤ 9) (M : zM) (hM : mW b M0 M I (va_up A 1 (shot1 (A 1) sl ol s aim lot)) L) : aj G l kX12_goesShot 4 39 [(6, .int (shotS (A 1) sl ol s aim lot)), (5, .int (zb (mOpen ol (mN (A 1 26)) (mN (A 1 27)) (mN (A 1 25)) = true))), (4, .int (nI (mLn (A 1) sl s aim lot))), (0, .ref b), (1, .int x_s)] [] M 0 0 (zr (.int (shotS (A 1) sl ol s aim lot)) (fun M' => mW b M0 M' I (va_up A 1 (shotB (A 1) sl ol s aim lot)) L)) := by
  obtain ⟨u, v, w, hA⟩ := hM
  have hT := hB.2.2.2.2.2.2.2.2.1
  have hN6 := hB.2.2.1.2
  have hN25 := hB.2.2.2.2.2.1.2
  have hN26 := hB.2.2.2.2.2.2.1.2
  have hN27 := hB.2.2.2.2.2.2.2.1.2
  have hN1 := hB.1.1.2
  have hN2 := hB.1.2.1.2
  have hag := (hB.2.2.2.2.1 s hs).2
  have h25 : shot1 (A 1) sl ol s aim lot 25 = nI (mN (A 1 25)) := by rw [shot1_o (by omega)]; exact hB.2.2.2.2.2.1.1
  have hfr : mFar (shot1 (A 1) sl ol s aim lot) (nI (mLn (A 1) sl s aim lot)) = mFar (A 1) (nI (mLn (A 1) sl s aim lot)) := mFar_cong (shot1_o (by omega)) (shot1_o (by omega)) _
  refine aj.iload dX12_goesShot_39 rfl ?_
  refine aj.if_eqB (tgt := 64) dX12_goesShot_41 rfl (fun c41 => ?_) (fun c41 => ?_)
  · refine aj.pick [0, 3, 4] rfl ?_
    exact goesShot_2 s e_s aim lot hB hs haim hlot M ⟨_, _, _, by unfold shot2; rw [if_neg (fun z => c41 z.1)]; exact hA⟩
  · refine aj.aload_n dX12_goesShot_44 rfl ?_
    refine aj.iload dX12_goesShot_45 rfl ?_
    refine aj.callV1 (d' := 0) (As := [.int (nI (mLn (A 1) sl s aim lot))]) (rest := []) dX12_goesShot_47 v_X12_233 li_X12_farOf hA.1 rfl rfl rfl (Nat.le_of_ble_eq_true rfl) (Nat.le_of_ble_eq_true rfl) (c_farOf (nI (mLn (A 1) sl s aim lot)) ⟨_, _, _, hA⟩) (fun M hM => ?_)
    obtain ⟨u, v, w, hA⟩ := hM
    refine aj.if_ne (tgt := 64) dX12_goesShot_50 rfl (fun c50 => ?_) (fun c50 => ?_)
    · refine aj.pick [0, 3, 4] rfl ?_
      exact goesShot_2 s e_s aim lot hB hs haim hlot M ⟨_, _, _, by unfold shot2; rw [if_neg (fun z => c50 (hfr.trans z.2))]; exact hA⟩
    · refine aj.aload_n dX12_goesShot_53 rfl ?_
      refine gM1 rfl dX12_goesShot_54 hA ?_
      refine aj.bipush (v := 25) dX12_goesShot_57 rfl ?_
      refine aj.dup2 dX12_goesShot_59 rfl rfl ?_
      refine aM1N (i := 25) dX12_goesShot_60 hA rfl (by omega) ?_
      refine aj.iconst (v := 1) dX12_goesShot_61 rfl ?_
      refine aj.iaddN (a := mN (A 1 25)) (b := 1) dX12_goesShot_62 h25 rfl ?_
      refine sM1N (i := 25) dX12_goesShot_63 hA rfl (by omega) (fun M hA => ?_)
      refine aj.pick [0, 3, 4] rfl ?_
      exact goesShot_2 s e_s aim lot hB hs haim hlot M ⟨_, _, _, by unfold shot2; rw [if_pos ⟨c41, hfr.symm.trans c50⟩]; rw [bx_uu] at hA; exact hA⟩
theorem c_goesShot {G : zG} {l : Launch} {b : Nat} {M0 M : zM} {I : Nat → Int32} {A : Nat → Nat → Int32} {L : Nat → Nat → Int64} (s : Nat) {x_s : Int32} (e_s : x_s = nI s) (aim : Nat) {x_aim : Int32} (e_aim : x_aim = nI aim) (lot : Nat) {x_lot : Int32} (e_lot : x_lot = nI lot) {sl ol : Option (List Nat)} {T : Nat} (hM : mW b M0 M I A L) (hB : mOK (A 1) sl ol T) (hs : s < 4) (haim : aim ≤ 20) (hlot : lot ≤ 9) : am G l kX12_goesShot 4 [.ref b, .int x_s, .int x_aim, .int x_lot] M 0 0 (zr (.int (shotS (A 1) sl ol s aim lot)) (fun M' => mW b M0 M' I (va_up A 1 (shotB (A 1) sl ol s aim lot)) L)) := by
  obtain ⟨u, v, w, hA⟩ := hM
  have hT := hB.2.2.2.2.2.2.2.2.1
  have hN6 := hB.2.2.1.2
  have hN25 := hB.2.2.2.2.2.1.2
  have hN26 := hB.2.2.2.2.2.2.1.2
  have hN27 := hB.2.2.2.2.2.2.2.1.2
  have hN1 := hB.1.1.2
  have hN2 := hB.1.2.1.2
  have hag := (hB.2.2.2.2.1 s hs).2
  refine am.of (by decide) (Nat.le_of_ble_eq_true rfl) ?_
  refine aj.aload_n dX12_goesShot_0 rfl ?_
  refine aj.iload_n dX12_goesShot_1 rfl ?_
  refine aj.iload_n dX12_goesShot_2 rfl ?_
  refine aj.iload_n dX12_goesShot_3 rfl ?_
  refine aj.callV1 (d' := 3) (As := [.int x_s, .int x_aim, .int x_lot]) (rest := []) dX12_goesShot_4 v_X12_247 li_X12_landsNow hA.1 rfl rfl rfl (Nat.le_of_ble_eq_true rfl) (Nat.le_of_ble_eq_true rfl) (c_landsNow s e_s aim e_aim lot e_lot ⟨_, _, _, hA⟩ hB (by omega) (by omega) (by omega)) (fun M hM => ?_)
  obtain ⟨u, v, w, hA⟩ := hM
  refine aj.istore (lv' := [(4, .int (nI (mLand sl (A 1 (13 + s)) (mN (A 1 (21 + s))) (mN (A 1 26)) aim lot))), (0, .ref b), (1, .int x_s), (2, .int x_aim), (3, .int x_lot)]) dX12_goesShot_7 (Nat.le_of_ble_eq_true rfl) rfl ?_
  refine aj.aload_n dX12_goesShot_9 rfl ?_
  refine aj.callV1 (d' := 3) (As := []) (rest := []) dX12_goesShot_10 v_X12_250 li_X12_isOpenNow hA.1 rfl rfl rfl (Nat.le_of_ble_eq_true rfl) (Nat.le_of_ble_eq_true rfl) (c_isOpenNow ⟨_, _, _, hA⟩ hB) (fun M hM => ?_)
  obtain ⟨u, v, w, hA⟩ := hM
  refine aj.istore (lv' := [(5, .int (zb (mOpen ol (mN (A 1 26)) (mN (A 1 27)) (mN (A 1 25)) = true))), (4, .int (nI (mLand sl (A 1 (13 + s)) (mN (A 1 (21 + s))) (mN (A 1 26)) aim lot))), (0, .ref b), (1, .int x_s), (2, .int x_aim), (3, .int x_lot)]) dX12_goesShot_13 (Nat.le_of_ble_eq_true rfl) rfl ?_
  refine aj.aload_n dX12_goesShot_15 rfl ?_
  refine aj.iload dX12_goesShot_16 rfl ?_
  refine aj.iload dX12_goesShot_18 rfl ?_
  refine aj.callV1 (d' := 1) (As := [.int (nI (mLand sl (A 1 (13 + s)) (mN (A 1 (21 + s))) (mN (A 1 26)) aim lot)), .int (zb (mOpen ol (mN (A 1 26)) (mN (A 1 27)) (mN (A 1 25)) = true))]) (rest := []) dX12_goesShot_20 v_X12_254 li_X12_scoresAt hA.1 rfl rfl rfl (Nat.le_of_ble_eq_true rfl) (Nat.le_of_ble_eq_true rfl) (c_scoresAt (nI (mLand sl (A 1 (13 + s)) (mN (A 1 (21 + s))) (mN (A 1 26)) aim lot)) (mOpen ol (mN (A 1 26)) (mN (A 1 27)) (mN (A 1 25)) = true) ⟨_, _, _, hA⟩) (fun M hM => ?_)
  obtain ⟨u, v, w, hA⟩ := hM
  refine aj.istore (lv' := [(6, .int (mScore (A 1) (nI (mLand sl (A 1 (13 + s)) (mN (A 1 (21 + s))) (mN (A 1 26)) aim lot)) (mOpen ol (mN (A 1 26)) (mN (A 1 27)) (mN (A 1 25)) = true))), (5, .int (zb (mOpen ol (mN (A 1 26)) (mN (A 1 27)) (mN (A 1 25)) = true))), (4, .int (nI (mLand sl (A 1 (13 + s)) (mN (A 1 (21 + s))) (mN (A 1 26)) aim lot))), (0, .ref b), (1, .int x_s), (2, .int x_aim), (3, .int x_lot)]) dX12_goesShot_23 (Nat.le_of_ble_eq_true rfl) rfl ?_
  refine aj.aload_n dX12_goesShot_25 rfl ?_
  refine gM1 rfl dX12_goesShot_26 hA ?_
  refine aj.bipush (v := 17) dX12_goesShot_29 rfl ?_
  refine aj.iload_n dX12_goesShot_31 rfl ?_
  refine aj.iaddN (a := 17) (b := s) dX12_goesShot_32 rfl e_s ?_
  refine aj.dup2 dX12_goesShot_33 rfl rfl ?_
  refine aM1N (i := 17 + s) dX12_goesShot_34 hA rfl (by omega) ?_
  refine aj.iload dX12_goesShot_35 rfl ?_
  refine aj.iadd dX12_goesShot_37 ?_
  refine sM1N (i := 17 + s) dX12_goesShot_38 hA rfl (by omega) (fun M hA => ?_)
  refine aj.pick [0, 1, 2, 3, 4] rfl ?_
  exact goesShot_1 s e_s aim lot hB hs haim hlot M ⟨_, _, _, hA⟩
