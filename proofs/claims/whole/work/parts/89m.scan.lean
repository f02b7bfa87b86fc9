theorem sb_sm {c : Nat} (h : c < 256) : (97 ≤ sb c ∧ sb c ≤ 122) ↔ cSm c := sb_rg h (lo := 97) (hi := 122) (by decide) (by decide)
theorem sb_dgt {c : Nat} (h : c < 256) : (48 ≤ sb c ∧ sb c ≤ 57) ↔ cDg c := sb_rg h (lo := 48) (hi := 57) (by decide) (by decide)
theorem scan_sm {G : zG} {l : Launch} {a : Nat} {M0 M : zM} {V : Nat → Nat → Int32} {W : Nat → Nat → Int64} {R : Nat → Nat → Option Nat} {Q : Option Value → zM → Prop} {tx : Nat → Nat} {n : Nat} (hn : n ≤ 900) (hTx : ∀ j, j < n → V 1 j = sb (tx j)) (hb : ∀ k, tx k < 256) {p E : Nat} {x bb : Int32} (hA : kA a M0 M V W R) (hk : aj G l kX9_scan 5 67 [(6, .int (nI E)), (5, .int bb), (4, .int (nI p)), (3, .int (nI n)), (0, .ref (a + 3)), (1, .ref (a + 1)), (2, .int x)] [] M 0 0 Q) : ∀ (m e : Nat), e + m = n → advTo cSm tx n e = E → aj G l kX9_scan 5 45 [(6, .int (nI e)), (5, .int bb), (4, .int (nI p)), (3, .int (nI n)), (0, .ref (a + 3)), (1, .ref (a + 1)), (2, .int x)] [] M 0 0 Q := by
  intro m
  induction m with
  | zero =>
    intro e he hE
    refine aj.iload dX9_scan_45 rfl ?_
    refine aj.iload_n dX9_scan_47 rfl ?_
    refine aj.icmp_geN (a := e) (b := n) (tgt := 67) dX9_scan_48 rfl rfl (by omega) (by omega) rfl (fun c48 => ?_) (fun c48 => ?_)
    · have e1 : e = E := by rw [← hE]; exact (advTo_n (fun z => absurd z.1 (by omega))).symm
      refine aj.pick [0, 1, 2, 3, 4, 5, 6] rfl ?_
      rw [e1]
      exact hk
    · exact absurd c48 (by omega)
  | succ m ih =>
    intro e he hE
    refine aj.iload dX9_scan_45 rfl ?_
    refine aj.iload_n dX9_scan_47 rfl ?_
    refine aj.icmp_geN (a := e) (b := n) (tgt := 67) dX9_scan_48 rfl rfl (by omega) (by omega) rfl (fun c48 => ?_) (fun c48 => ?_)
    · exact absurd c48 (by omega)
    · refine aj.aload_n dX9_scan_51 rfl ?_
      refine aj.iload dX9_scan_52 rfl ?_
      refine aj.kLb (i := 1) (j := e) rfl dX9_scan_54 hA rfl (by omega) (by decide) ?_
      refine aj.callS1 (d' := 0) (As := [.int (V 1 e)]) (rest := []) dX9_scan_55 v_X9_28 w454 rfl rfl (Nat.le_of_ble_eq_true rfl) (Nat.le_of_ble_eq_true rfl) (k_isSmall _ (V 1 e)) (fun M hM => ?_)
      subst hM
      refine aj.if_eqB (tgt := 67) dX9_scan_58 rfl (fun c58 => ?_) (fun c58 => ?_)
      · have e1 : e = E := by rw [← hE]; exact (advTo_n (fun z => c58 (by rw [hTx e (by omega)]; exact (sb_sm (hb e)).mpr z.2))).symm
        refine aj.pick [0, 1, 2, 3, 4, 5, 6] rfl ?_
        rw [e1]
        exact hk
      · refine aj.iincN (a := e) (c := 1) (lv' := [(6, .int (nI (e + 1))), (5, .int bb), (4, .int (nI p)), (3, .int (nI n)), (0, .ref (a + 3)), (1, .ref (a + 1)), (2, .int x)]) dX9_scan_61 rfl (Nat.le_of_ble_eq_true rfl) rfl rfl rfl ?_
        refine aj.goto (tgt := 45) dX9_scan_64 rfl ?_
        refine aj.pick [0, 1, 2, 3, 4, 5, 6] rfl ?_
        exact ih (e + 1) (by omega) (by rw [← hE]; exact (advTo_y ⟨by omega, (sb_sm (hb e)).mp (by rw [← hTx e (by omega)]; exact c58)⟩).symm)
theorem scan_dg {G : zG} {l : Launch} {a : Nat} {M0 M : zM} {V : Nat → Nat → Int32} {W : Nat → Nat → Int64} {R : Nat → Nat → Option Nat} {Q : Option Value → zM → Prop} {tx : Nat → Nat} {n : Nat} (hn : n ≤ 900) (hTx : ∀ j, j < n → V 1 j = sb (tx j)) (hb : ∀ k, tx k < 256) {p E : Nat} {x bb : Int32} (hA : kA a M0 M V W R) (hk : aj G l kX9_scan 5 114 [(6, .int (nI E)), (5, .int bb), (4, .int (nI p)), (3, .int (nI n)), (0, .ref (a + 3)), (1, .ref (a + 1)), (2, .int x)] [] M 0 0 Q) : ∀ (m e : Nat), e + m = n → advTo cDg tx n e = E → aj G l kX9_scan 5 92 [(6, .int (nI e)), (5, .int bb), (4, .int (nI p)), (3, .int (nI n)), (0, .ref (a + 3)), (1, .ref (a + 1)), (2, .int x)] [] M 0 0 Q := by
  intro m
  induction m with
  | zero =>
    intro e he hE
    refine aj.iload dX9_scan_92 rfl ?_
    refine aj.iload_n dX9_scan_94 rfl ?_
    refine aj.icmp_geN (a := e) (b := n) (tgt := 114) dX9_scan_95 rfl rfl (by omega) (by omega) rfl (fun c95 => ?_) (fun c95 => ?_)
    · have e1 : e = E := by rw [← hE]; exact (advTo_n (fun z => absurd z.1 (by omega))).symm
      refine aj.pick [0, 1, 2, 3, 4, 5, 6] rfl ?_
      rw [e1]
      exact hk
    · exact absurd c95 (by omega)
  | succ m ih =>
    intro e he hE
    refine aj.iload dX9_scan_92 rfl ?_
    refine aj.iload_n dX9_scan_94 rfl ?_
    refine aj.icmp_geN (a := e) (b := n) (tgt := 114) dX9_scan_95 rfl rfl (by omega) (by omega) rfl (fun c95 => ?_) (fun c95 => ?_)
    · exact absurd c95 (by omega)
    · refine aj.aload_n dX9_scan_98 rfl ?_
      refine aj.iload dX9_scan_99 rfl ?_
      refine aj.kLb (i := 1) (j := e) rfl dX9_scan_101 hA rfl (by omega) (by decide) ?_
      refine aj.callS1 (d' := 0) (As := [.int (V 1 e)]) (rest := []) dX9_scan_102 v_X9_40 w513 rfl rfl (Nat.le_of_ble_eq_true rfl) (Nat.le_of_ble_eq_true rfl) (k_isDigit _ (V 1 e)) (fun M hM => ?_)
      subst hM
      refine aj.if_eqB (tgt := 114) dX9_scan_105 rfl (fun c105 => ?_) (fun c105 => ?_)
      · have e1 : e = E := by rw [← hE]; exact (advTo_n (fun z => c105 (by rw [hTx e (by omega)]; exact (sb_dgt (hb e)).mpr z.2))).symm
        refine aj.pick [0, 1, 2, 3, 4, 5, 6] rfl ?_
        rw [e1]
        exact hk
      · refine aj.iincN (a := e) (c := 1) (lv' := [(6, .int (nI (e + 1))), (5, .int bb), (4, .int (nI p)), (3, .int (nI n)), (0, .ref (a + 3)), (1, .ref (a + 1)), (2, .int x)]) dX9_scan_108 rfl (Nat.le_of_ble_eq_true rfl) rfl rfl rfl ?_
        refine aj.goto (tgt := 92) dX9_scan_111 rfl ?_
        refine aj.pick [0, 1, 2, 3, 4, 5, 6] rfl ?_
        exact ih (e + 1) (by omega) (by rw [← hE]; exact (advTo_y ⟨by omega, (sb_dgt (hb e)).mp (by rw [← hTx e (by omega)]; exact c105)⟩).symm)
theorem scan_lp {G : zG} {l : Launch} {a : Nat} {M0 : zM} {V0 : Nat → Nat → Int32} {W : Nat → Nat → Int64} {R : Nat → Nat → Option Nat} {av : Nat → Nat} {fm : Nat} (hG : zSt G av fm) {tx : Nat → Nat} {n : Nat} (hn : n ≤ 900) (hTx0 : ∀ j, j < n → V0 1 j = sb (tx j)) (hb : ∀ k, tx k < 256) {x : Int32} {T : List tkT} (hTl : T.length ≤ 901) : ∀ (m p : Nat) (T0 : List tkT) (V : Nat → Nat → Int32) (M : zM), n - p ≤ m → p ≤ n → T0 ++ lx tx n p = T → scI V0 V T0 → kA a M0 M V W R → aj G l kX9_scan 5 19 [(4, .int (nI p)), (3, .int (nI n)), (0, .ref (a + 3)), (1, .ref (a + 1)), (2, .int x)] [] M 0 0 (zv (fun M' => ∃ V1, kA a M0 M' V1 W R ∧ scI V0 V1 T)) := by
  intro m
  induction m with
  | zero =>
    intro p T0 V M hm hp hT hI hA
    have hz := hI.2.1
    have hT0 : T0.length ≤ 900 := by
      have e1 := congrArg List.length hT
      rw [List.length_append] at e1
      obtain ⟨t, r, h1, -⟩ := lx_ne tx n p
      rw [h1] at e1
      have e2 : T0.length + (r.length + 1) = T.length := e1
      omega
    refine aj.iload dX9_scan_19 rfl ?_
    refine aj.iload_n dX9_scan_21 rfl ?_
    refine aj.icmp_geN (a := p) (b := n) (tgt := 186) dX9_scan_22 rfl rfl (by omega) (by omega) rfl (fun c22 => ?_) (fun c22 => ?_)
    · refine aj.aload_n dX9_scan_186 rfl ?_
      refine aj.sipush (v := 4000) dX9_scan_187 rfl ?_
      refine aj.iload_n dX9_scan_190 rfl ?_
      refine aj.callE0 (d' := 0) (As := [.int 4000, .int (nI n)]) (rest := []) dX9_scan_191 v_X9_36 li_X9_add ⟨_, hA.ob (i := 3) rfl (by decide)⟩ rfl rfl rfl (Nat.le_of_ble_eq_true rfl) (Nat.le_of_ble_eq_true rfl) (k_tkAdd hz hT0 4000 rfl n rfl (by omega) (by omega) hA) (fun M hM => ?_)
      obtain ⟨V1, hA, h4, h3, hq⟩ := hM
      refine aj.vret rfl dX9_scan_194 ⟨rfl, V1, hA, ?_⟩
      have ep : p = n := by omega
      rw [ep, lx_end] at hT
      rw [← hT]
      exact hI.add h4 h3 hq rfl rfl
    · exact absurd c22 (by omega)
  | succ m ih =>
    intro p T0 V M hm hp hT hI hA
    have hz := hI.2.1
    have hT0 : T0.length ≤ 900 := by
      have e1 := congrArg List.length hT
      rw [List.length_append] at e1
      obtain ⟨t, r, h1, -⟩ := lx_ne tx n p
      rw [h1] at e1
      have e2 : T0.length + (r.length + 1) = T.length := e1
      omega
    have hTx : ∀ j, j < n → V 1 j = sb (tx j) := fun j hj => by rw [hI.1 1 (by decide) (by decide)]; exact hTx0 j hj
    have hbp := hb p
    refine aj.iload dX9_scan_19 rfl ?_
    refine aj.iload_n dX9_scan_21 rfl ?_
    refine aj.icmp_geN (a := p) (b := n) (tgt := 186) dX9_scan_22 rfl rfl (by omega) (by omega) rfl (fun c22 => ?_) (fun c22 => ?_)
    · refine aj.aload_n dX9_scan_186 rfl ?_
      refine aj.sipush (v := 4000) dX9_scan_187 rfl ?_
      refine aj.iload_n dX9_scan_190 rfl ?_
      refine aj.callE0 (d' := 0) (As := [.int 4000, .int (nI n)]) (rest := []) dX9_scan_191 v_X9_36 li_X9_add ⟨_, hA.ob (i := 3) rfl (by decide)⟩ rfl rfl rfl (Nat.le_of_ble_eq_true rfl) (Nat.le_of_ble_eq_true rfl) (k_tkAdd hz hT0 4000 rfl n rfl (by omega) (by omega) hA) (fun M hM => ?_)
      obtain ⟨V1, hA, h4, h3, hq⟩ := hM
      refine aj.vret rfl dX9_scan_194 ⟨rfl, V1, hA, ?_⟩
      have ep : p = n := by omega
      rw [ep, lx_end] at hT
      rw [← hT]
      exact hI.add h4 h3 hq rfl rfl
    · have hV := hTx p (by omega)
      refine aj.aload_n dX9_scan_25 rfl ?_
      refine aj.iload dX9_scan_26 rfl ?_
      refine aj.kLb (i := 1) (j := p) rfl dX9_scan_28 hA rfl (by omega) (by decide) ?_
      refine aj.istore (lv' := [(5, .int (V 1 p)), (4, .int (nI p)), (3, .int (nI n)), (0, .ref (a + 3)), (1, .ref (a + 1)), (2, .int x)]) dX9_scan_29 (Nat.le_of_ble_eq_true rfl) rfl ?_
      refine aj.iload dX9_scan_31 rfl ?_
      refine aj.iconst (v := 1) dX9_scan_33 rfl ?_
      refine aj.iaddN (a := p) (b := 1) dX9_scan_34 rfl rfl ?_
      refine aj.istore (lv' := [(6, .int (nI (p + 1))), (5, .int (V 1 p)), (4, .int (nI p)), (3, .int (nI n)), (0, .ref (a + 3)), (1, .ref (a + 1)), (2, .int x)]) dX9_scan_35 (Nat.le_of_ble_eq_true rfl) rfl ?_
      refine aj.iload dX9_scan_37 rfl ?_
      refine aj.callS1 (d' := 0) (As := [.int (V 1 p)]) (rest := []) dX9_scan_39 v_X9_28 w454 rfl rfl (Nat.le_of_ble_eq_true rfl) (Nat.le_of_ble_eq_true rfl) (k_isSmall _ (V 1 p)) (fun M hM => ?_)
      subst hM
      refine aj.if_eqB (tgt := 84) dX9_scan_42 rfl (fun c42 => ?_) (fun c42 => ?_)
      · rw [hV] at c42
        have hsm : ¬ cSm (tx p) := fun z => c42 ((sb_sm hbp).mpr z)
        refine aj.iload dX9_scan_84 rfl ?_
        refine aj.callS1 (d' := 0) (As := [.int (V 1 p)]) (rest := []) dX9_scan_86 v_X9_40 w513 rfl rfl (Nat.le_of_ble_eq_true rfl) (Nat.le_of_ble_eq_true rfl) (k_isDigit _ (V 1 p)) (fun M hM => ?_)
        subst hM
        refine aj.if_eqB (tgt := 131) dX9_scan_89 rfl (fun c89 => ?_) (fun c89 => ?_)
        · rw [hV] at c89
          have hdg : ¬ cDg (tx p) := fun z => c89 ((sb_dgt hbp).mpr z)
          refine aj.iload dX9_scan_131 rfl ?_
          refine aj.bipush (v := 10) dX9_scan_133 rfl ?_
          refine aj.icmp_eq (tgt := 179) dX9_scan_135 rfl (fun c135 => ?_) (fun c135 => ?_)
          · refine aj.iload dX9_scan_179 rfl ?_
            refine aj.istore (lv' := [(4, .int (nI (p + 1))), (6, .int (nI (p + 1))), (5, .int (V 1 p)), (3, .int (nI n)), (0, .ref (a + 3)), (1, .ref (a + 1)), (2, .int x)]) dX9_scan_181 (Nat.le_of_ble_eq_true rfl) rfl ?_
            refine aj.goto (tgt := 19) dX9_scan_183 rfl ?_
            refine aj.pick [0, 3, 4, 5, 6] rfl ?_
            rw [hV] at c135
            have hw : tx p = 10 := (sb_eq hbp (by decide)).mp c135
            refine ih (p + 1) T0 V M (by omega) (by omega) ?_ hI hA
            rw [← lx_wh (by omega) (show cWh (tx p) from by omega)]
            exact hT
          · refine aj.iload dX9_scan_138 rfl ?_
            refine aj.bipush (v := 32) dX9_scan_140 rfl ?_
            refine aj.icmp_eq (tgt := 179) dX9_scan_142 rfl (fun c142 => ?_) (fun c142 => ?_)
            · refine aj.iload dX9_scan_179 rfl ?_
              refine aj.istore (lv' := [(4, .int (nI (p + 1))), (6, .int (nI (p + 1))), (5, .int (V 1 p)), (3, .int (nI n)), (0, .ref (a + 3)), (1, .ref (a + 1)), (2, .int x)]) dX9_scan_181 (Nat.le_of_ble_eq_true rfl) rfl ?_
              refine aj.goto (tgt := 19) dX9_scan_183 rfl ?_
              refine aj.pick [0, 3, 4, 5, 6] rfl ?_
              rw [hV] at c142
              have hw : tx p = 32 := (sb_eq hbp (by decide)).mp c142
              refine ih (p + 1) T0 V M (by omega) (by omega) ?_ hI hA
              rw [← lx_wh (by omega) (show cWh (tx p) from by omega)]
              exact hT
            · refine aj.aload_n dX9_scan_145 rfl ?_
              refine aj.iload dX9_scan_146 rfl ?_
              refine aj.if_le (tgt := 171) dX9_scan_148 rfl (fun c148 => ?_) (fun c148 => ?_)
              · refine aj.sipush (v := 3000) dX9_scan_171 rfl ?_
                refine aj.iload dX9_scan_174 rfl ?_
                refine aj.callE0 (d' := 0) (As := [.int 3000, .int (nI p)]) (rest := []) dX9_scan_176 v_X9_36 li_X9_add ⟨_, hA.ob (i := 3) rfl (by decide)⟩ rfl rfl rfl (Nat.le_of_ble_eq_true rfl) (Nat.le_of_ble_eq_true rfl) (k_tkAdd hz hT0 3000 rfl p rfl (by omega) (by omega) hA) (fun M hM => ?_)
                obtain ⟨V1, hA, h4, h3, hq⟩ := hM
                refine aj.iload dX9_scan_179 rfl ?_
                refine aj.istore (lv' := [(4, .int (nI (p + 1))), (6, .int (nI (p + 1))), (5, .int (V 1 p)), (3, .int (nI n)), (0, .ref (a + 3)), (1, .ref (a + 1)), (2, .int x)]) dX9_scan_181 (Nat.le_of_ble_eq_true rfl) rfl ?_
                refine aj.goto (tgt := 19) dX9_scan_183 rfl ?_
                refine aj.pick [0, 3, 4, 5, 6] rfl ?_
                have hms : tx p ∉ sgs := by rw [hV] at c148; exact sb_np hbp c148
                rw [hV] at c135
                rw [hV] at c142
                have hw : ¬ cWh (tx p) := fun z => by
                  rcases z with z | z
                  · exact c135 ((sb_eq hbp (d := 10) (by decide)).mpr z)
                  · exact c142 ((sb_eq hbp (d := 32) (by decide)).mpr z)
                have hB := lx_nw (n := n) (by omega) hw
                rw [tokB_sg (by omega) hsm hdg, if_neg hms] at hB
                rw [hB] at hT
                refine ih (p + 1) (T0 ++ [(25, 0, p)]) V1 M (by omega) (by omega) ?_ (hI.add h4 h3 hq (rfl) rfl) hA
                rw [List.append_assoc]
                exact hT
              · have h128 : tx p < 128 ∧ 0 < tx p := by rw [hV] at c148; exact sb_pos hbp c148
                have hch : (Int32.toUInt32 (V 1 p) % 65536).toInt32 = nI (tx p) := by rw [hV, sb_lo _ h128.1]; exact ch_c _ h128.1
                refine aj.ldcS 1 rfl rfl dX9_scan_151 ?_
                refine aj.iload dX9_scan_153 rfl ?_
                refine aj.i2c dX9_scan_155 ?_
                refine aj.callT hG (d' := 3) (As := [.int ((Int32.toUInt32 (V 1 p) % 65536).toInt32)]) (rest := [.ref (a + 3)]) (by decide) dX9_scan_156 v_X9_48 ⟨w520, w521⟩ rfl rfl rfl (Nat.le_of_ble_eq_true rfl) (Nat.le_of_ble_eq_true rfl) (s_idx hG _ h128.1 hch) ?_
                refine aj.if_lt (tgt := 171) dX9_scan_159 rfl (fun c159 => ?_) (fun c159 => ?_)
                · refine aj.sipush (v := 3000) dX9_scan_171 rfl ?_
                  refine aj.iload dX9_scan_174 rfl ?_
                  refine aj.callE0 (d' := 0) (As := [.int 3000, .int (nI p)]) (rest := []) dX9_scan_176 v_X9_36 li_X9_add ⟨_, hA.ob (i := 3) rfl (by decide)⟩ rfl rfl rfl (Nat.le_of_ble_eq_true rfl) (Nat.le_of_ble_eq_true rfl) (k_tkAdd hz hT0 3000 rfl p rfl (by omega) (by omega) hA) (fun M hM => ?_)
                  obtain ⟨V1, hA, h4, h3, hq⟩ := hM
                  refine aj.iload dX9_scan_179 rfl ?_
                  refine aj.istore (lv' := [(4, .int (nI (p + 1))), (6, .int (nI (p + 1))), (5, .int (V 1 p)), (3, .int (nI n)), (0, .ref (a + 3)), (1, .ref (a + 1)), (2, .int x)]) dX9_scan_181 (Nat.le_of_ble_eq_true rfl) rfl ?_
                  refine aj.goto (tgt := 19) dX9_scan_183 rfl ?_
                  refine aj.pick [0, 3, 4, 5, 6] rfl ?_
                  have hms : tx p ∉ sgs := sgI_lt.mp c159
                  rw [hV] at c135
                  rw [hV] at c142
                  have hw : ¬ cWh (tx p) := fun z => by
                    rcases z with z | z
                    · exact c135 ((sb_eq hbp (d := 10) (by decide)).mpr z)
                    · exact c142 ((sb_eq hbp (d := 32) (by decide)).mpr z)
                  have hB := lx_nw (n := n) (by omega) hw
                  rw [tokB_sg (by omega) hsm hdg, if_neg hms] at hB
                  rw [hB] at hT
                  refine ih (p + 1) (T0 ++ [(25, 0, p)]) V1 M (by omega) (by omega) ?_ (hI.add h4 h3 hq (rfl) rfl) hA
                  rw [List.append_assoc]
                  exact hT
                · refine aj.sipush (v := 2000) dX9_scan_162 rfl ?_
                  refine aj.iload dX9_scan_165 rfl ?_
                  refine aj.iadd dX9_scan_167 ?_
                  refine aj.goto (tgt := 174) dX9_scan_168 rfl ?_
                  refine aj.iload dX9_scan_174 rfl ?_
                  refine aj.callE0 (d' := 0) (As := [.int (2000 + (V 1 p)), .int (nI p)]) (rest := []) dX9_scan_176 v_X9_36 li_X9_add ⟨_, hA.ob (i := 3) rfl (by decide)⟩ rfl rfl rfl (Nat.le_of_ble_eq_true rfl) (Nat.le_of_ble_eq_true rfl) (k_tkAdd hz hT0 (2000 + tx p) ((by rw [hV, sb_lo _ h128.1]; exact nI_add 2000 (tx p))) p rfl (by omega) (by omega) hA) (fun M hM => ?_)
                  obtain ⟨V1, hA, h4, h3, hq⟩ := hM
                  refine aj.iload dX9_scan_179 rfl ?_
                  refine aj.istore (lv' := [(4, .int (nI (p + 1))), (6, .int (nI (p + 1))), (5, .int (V 1 p)), (3, .int (nI n)), (0, .ref (a + 3)), (1, .ref (a + 1)), (2, .int x)]) dX9_scan_181 (Nat.le_of_ble_eq_true rfl) rfl ?_
                  refine aj.goto (tgt := 19) dX9_scan_183 rfl ?_
                  refine aj.pick [0, 3, 4, 5, 6] rfl ?_
                  have hms : tx p ∈ sgs := Decidable.byContradiction (fun z => c159 (sgI_lt.mpr z))
                  rw [hV] at c135
                  rw [hV] at c142
                  have hw : ¬ cWh (tx p) := fun z => by
                    rcases z with z | z
                    · exact c135 ((sb_eq hbp (d := 10) (by decide)).mpr z)
                    · exact c142 ((sb_eq hbp (d := 32) (by decide)).mpr z)
                  have hB := lx_nw (n := n) (by omega) hw
                  rw [tokB_sg (by omega) hsm hdg, if_pos hms] at hB
                  rw [hB] at hT
                  refine ih (p + 1) (T0 ++ [(30 + sgs.idxOf (tx p), 0, p)]) V1 M (by omega) (by omega) ?_ (hI.add h4 h3 hq (ctk_sg _ _ hms) rfl) hA
                  rw [List.append_assoc]
                  exact hT
        · rw [hV] at c89
          have hdg : cDg (tx p) := (sb_dgt hbp).mp c89
          have hE1 : advTo cDg tx n p = advTo cDg tx n (p + 1) := advTo_y ⟨by omega, hdg⟩
          obtain ⟨E, hE⟩ : ∃ z, z = advTo cDg tx n p := ⟨_, rfl⟩
          have hEn : E ≤ n := by rw [hE]; exact advTo_le cDg tx (by omega)
          have hEp : p + 1 ≤ E := by rw [hE, hE1]; exact advTo_ge cDg tx n (p + 1)
          have hin : ∀ j, p ≤ j → j < E → cDg (tx j) := fun j h1 h2 => adv_in cDg tx n _ p j h1 (by show j < advTo cDg tx n p; rw [← hE]; exact h2)
          have hnl : numL tx p (min 3 (E - p)) < 1000 := by
            have h := numL_lt tx p (min 3 (E - p)) (fun j hj => hin (p + j) (by omega) (by omega))
            have h3 : 10 ^ (min 3 (E - p)) ≤ 10 ^ 3 := Nat.pow_le_pow_right (by decide) (by omega)
            omega
          have hnv : (if 3 < E - p then 3000 else numL tx p (E - p)) ≤ 4000 := by
            split
            · decide
            · rw [show min 3 (E - p) = E - p by omega] at hnl
              omega
          refine aj.pick [0, 1, 2, 3, 4, 5, 6] rfl ?_
          refine scan_dg (E := E) hn hTx hb hA ?_ (n - (p + 1)) (p + 1) (by omega) (by rw [hE, hE1])
          refine aj.aload_n dX9_scan_114 rfl ?_
          refine aj.aload_n dX9_scan_115 rfl ?_
          refine aj.iload dX9_scan_116 rfl ?_
          refine aj.iload dX9_scan_118 rfl ?_
          refine aj.callS1 (d' := 1) (As := [.ref (a + 1), .int (nI p), .int (nI E)]) (rest := [.ref (a + 3)]) dX9_scan_120 v_X9_43 w516 rfl rfl (Nat.le_of_ble_eq_true rfl) (Nat.le_of_ble_eq_true rfl) (k_numberOf (tx := tx) p rfl E rfl (by omega) (by omega) (fun j h1 h2 => ⟨by rw [hTx j (by omega)]; exact sb_lo _ (by have := hin j h1 h2; unfold cDg at this; omega), hin j h1 h2⟩) hA) (fun M hM => ?_)
          subst hM
          refine aj.iload dX9_scan_123 rfl ?_
          refine aj.callE0 (d' := 0) (As := [.int (nI (if 3 < E - p then 3000 else numL tx p (E - p))), .int (nI p)]) (rest := []) dX9_scan_125 v_X9_36 li_X9_add ⟨_, hA.ob (i := 3) rfl (by decide)⟩ rfl rfl rfl (Nat.le_of_ble_eq_true rfl) (Nat.le_of_ble_eq_true rfl) (k_tkAdd hz hT0 (if 3 < E - p then 3000 else numL tx p (E - p)) rfl p rfl (hnv) (by omega) hA) (fun M hM => ?_)
          obtain ⟨V1, hA, h4, h3, hq⟩ := hM
          refine aj.goto (tgt := 179) dX9_scan_128 rfl ?_
          refine aj.iload dX9_scan_179 rfl ?_
          refine aj.istore (lv' := [(4, .int (nI E)), (6, .int (nI E)), (5, .int (V 1 p)), (3, .int (nI n)), (0, .ref (a + 3)), (1, .ref (a + 1)), (2, .int x)]) dX9_scan_181 (Nat.le_of_ble_eq_true rfl) rfl ?_
          refine aj.goto (tgt := 19) dX9_scan_183 rfl ?_
          refine aj.pick [0, 3, 4, 5, 6] rfl ?_
          have hw : ¬ cWh (tx p) := by unfold cWh; omega
          have hB := lx_nw (n := n) (by omega) hw
          rw [tokB_dg (by omega) hdg, ← hE] at hB
          rw [hB] at hT
          refine ih E (T0 ++ [((if 3 < E - p then 25 else 23), numL tx p (min 3 (E - p)), p)]) V1 M (by omega) hEn ?_ (hI.add h4 h3 hq ?_ rfl) hA
          · rw [List.append_assoc]
            exact hT
          · by_cases q3 : 3 < E - p
            · rw [if_pos q3, if_pos q3]
              rfl
            · rw [if_neg q3, if_neg q3, show min 3 (E - p) = E - p by omega]
              rfl
      · rw [hV] at c42
        have hsm : cSm (tx p) := (sb_sm hbp).mp c42
        have hE1 : advTo cSm tx n p = advTo cSm tx n (p + 1) := advTo_y ⟨by omega, hsm⟩
        obtain ⟨E, hE⟩ : ∃ z, z = advTo cSm tx n p := ⟨_, rfl⟩
        have hEn : E ≤ n := by rw [hE]; exact advTo_le cSm tx (by omega)
        have hEp : p + 1 ≤ E := by rw [hE, hE1]; exact advTo_ge cSm tx n (p + 1)
        have hin : ∀ j, p ≤ j → j < E → cSm (tx j) := fun j h1 h2 => adv_in cSm tx n _ p j h1 (by show j < advTo cSm tx n p; rw [← hE]; exact h2)
        refine aj.pick [0, 1, 2, 3, 4, 5, 6] rfl ?_
        refine scan_sm (E := E) hn hTx hb hA ?_ (n - (p + 1)) (p + 1) (by omega) (by rw [hE, hE1])
        refine aj.aload_n dX9_scan_67 rfl ?_
        refine aj.aload_n dX9_scan_68 rfl ?_
        refine aj.iload dX9_scan_69 rfl ?_
        refine aj.iload dX9_scan_71 rfl ?_
        refine aj.callS1 (d' := 4) (As := [.ref (a + 1), .int (nI p), .int (nI E)]) (rest := [.ref (a + 3)]) dX9_scan_73 v_X9_32 w457 rfl rfl (Nat.le_of_ble_eq_true rfl) (Nat.le_of_ble_eq_true rfl) (k_wordOf hG p rfl E rfl (by omega) (by omega) (fun j h1 h2 => by rw [hTx j (by omega)]; exact sb_lo _ (by have := hin j h1 h2; unfold cSm at this; omega)) hb hA) (fun M hM => ?_)
        subst hM
        refine aj.iload dX9_scan_76 rfl ?_
        refine aj.callE0 (d' := 0) (As := [.int (nI (1000 + cws.idxOf (wordL tx p (E - p)))), .int (nI p)]) (rest := []) dX9_scan_78 v_X9_36 li_X9_add ⟨_, hA.ob (i := 3) rfl (by decide)⟩ rfl rfl rfl (Nat.le_of_ble_eq_true rfl) (Nat.le_of_ble_eq_true rfl) (k_tkAdd hz hT0 (1000 + cws.idxOf (wordL tx p (E - p))) rfl p rfl (by have := List.idxOf_le_length (a := wordL tx p (E - p)) (l := cws); have e : cws.length = 22 := rfl; omega) (by omega) hA) (fun M hM => ?_)
        obtain ⟨V1, hA, h4, h3, hq⟩ := hM
        refine aj.goto (tgt := 179) dX9_scan_81 rfl ?_
        refine aj.iload dX9_scan_179 rfl ?_
        refine aj.istore (lv' := [(4, .int (nI E)), (6, .int (nI E)), (5, .int (V 1 p)), (3, .int (nI n)), (0, .ref (a + 3)), (1, .ref (a + 1)), (2, .int x)]) dX9_scan_181 (Nat.le_of_ble_eq_true rfl) rfl ?_
        refine aj.goto (tgt := 19) dX9_scan_183 rfl ?_
        refine aj.pick [0, 3, 4, 5, 6] rfl ?_
        have hw : ¬ cWh (tx p) := by unfold cWh; omega
        have hB := lx_nw (n := n) (by omega) hw
        rw [tokB_sm (by omega) hsm, ← hE] at hB
        rw [hB] at hT
        refine ih E (T0 ++ [(kws.idxOf (wordL tx p (E - p)), 0, p)]) V1 M (by omega) hEn ?_ (hI.add h4 h3 hq (ctk_sm _ _ _) rfl) hA
        rw [List.append_assoc]
        exact hT
theorem k_scan {G : zG} {l : Launch} {a : Nat} {M0 M : zM} {V : Nat → Nat → Int32} {W : Nat → Nat → Int64} {R : Nat → Nat → Option Nat} {av : Nat → Nat} {fm : Nat} (hG : zSt G av fm) (n : Nat) {x_n : Int32} (e_n : x_n = nI n) {tx : Nat → Nat} (hn : n ≤ 900) (hTx : ∀ j, j < n → V 1 j = sb (tx j)) (hb : ∀ k, tx k < 256) (hA : kA a M0 M V W R) : am G l kX9_scan 5 [.ref (a + 3), .ref (a + 1), .int x_n] M 0 0 (zv (fun M' => ∃ V1, kA a M0 M' V1 W R ∧ scI V V1 (lx tx n 0))) := by
  have hmn : iMin x_n (nI 900) = nI n := by rw [e_n, iMin_N (by omega) (by omega), show min n 900 = n by omega]
  have hmx : iMax 0 (iMin x_n (nI 900)) = nI n := by rw [hmn, show (0 : Int32) = nI 0 from rfl, iMax_N (by decide) (by omega), show max 0 n = n by omega]
  refine am.of (by decide) (Nat.le_of_ble_eq_true rfl) ?_
  refine aj.iconst (v := 0) dX9_scan_0 rfl ?_
  refine aj.iload_n dX9_scan_1 rfl ?_
  refine aj.aload_n dX9_scan_2 rfl ?_
  refine aj.kN (i := 1) (n := 900) (v := nI 900) rfl (by decide) (by decide) dX9_scan_3 hA rfl ?_
  refine aj.mmin dX9_scan_4 w447 (Nat.le_of_ble_eq_true rfl) (Nat.le_of_ble_eq_true rfl) ?_
  refine aj.mmax dX9_scan_7 w450 (Nat.le_of_ble_eq_true rfl) (Nat.le_of_ble_eq_true rfl) ?_
  refine aj.istore_n (lv' := [(3, .int (iMax 0 (iMin x_n (nI 900)))), (0, .ref (a + 3)), (1, .ref (a + 1)), (2, .int x_n)]) dX9_scan_10 (Nat.le_of_ble_eq_true rfl) rfl ?_
  refine aj.aload_n dX9_scan_11 rfl ?_
  refine aj.iconst (v := 0) dX9_scan_12 rfl ?_
  refine pX9_size (i := 3) rfl hA w162 dX9_scan_13 (fun M hA => ?_)
  obtain ⟨V1, h30, hq1, hA⟩ : ∃ z, z 3 0 = 0 ∧ (∀ q, q ≠ 3 → z q = V q) ∧ kA a M0 M z W R := ⟨_, by rw [va_up_self, pk_us], fun q h => va_up_ne _ _ h, hA⟩
  refine aj.iconst (v := 0) dX9_scan_16 rfl ?_
  refine aj.istore (lv' := [(4, .int 0), (3, .int (iMax 0 (iMin x_n (nI 900)))), (0, .ref (a + 3)), (1, .ref (a + 1)), (2, .int x_n)]) dX9_scan_17 (Nat.le_of_ble_eq_true rfl) rfl ?_
  rw [hmx]
  refine aj.pick [0, 1, 2, 3, 4] rfl ?_
  exact scan_lp (V0 := V) hG hn hTx hb (by have := lx_len tx n n 0 (Nat.zero_le n) rfl; omega) n 0 [] V1 M (by omega) (by omega) rfl ⟨fun q h3 _ => hq1 q h3, h30, fun i hi => absurd hi (Nat.not_lt_zero i)⟩ hA
