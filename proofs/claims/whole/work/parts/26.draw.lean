theorem again_told {B C W : Nat → Int32} (h : ∀ j, j < 17 ∨ 28 ≤ j → C j = B j) : againF C (wasF B W) = B := by
  funext k
  unfold againF
  by_cases h2 : 17 ≤ k ∧ k < 17 + 11
  · rw [pk_cpy_in h2.1 h2.2, was_st (by omega)]
    unfold stF
    congr 1
    omega
  · rw [pk_cpy_out (by omega)]
    exact h k (by omega)
theorem q_judge {G : zG} {l : Launch} {b : Nat} {M0 M : zM} {I : Nat → Int32} {A : Nat → Nat → Int32} {L : Nat → Nat → Int64} (t : Int32) (q : Int32) (hM : mW b M0 M I A L) {sl ol : Option (List Nat)} {T : Nat}  (hH : bd (A 1 28) 10) (hTr : ∀ j, j < 4 → bd (A 33 j) 40) (hT40 : T + 40 < 2 ^ 24) (hB : mOK (A 1) sl ol T) : am G l kX12_judge 7 [.ref b, .int t, .int q] M 0 0 (zr (.int (if inR q 0 3 ∧ inR t 0 3 then (if A 32 (mN t) = -1 then -6 else (if q = 0 then (if (toldR sl ol (fun k => L 34 (40 * mN t + k)) (mN (A 33 (mN t))) 0 (A 1)).1 ≠ mN (A 33 (mN t)) then nI (toldR sl ol (fun k => L 34 (40 * mN t + k)) (mN (A 33 (mN t))) 0 (A 1)).1 else -1) else if q = 1 then zb ((toldR sl ol (fun k => L 34 (40 * mN t + k)) (mN (A 33 (mN t))) 0 (A 1)).1 ≠ mN (A 33 (mN t))) else if q = 2 then (toldR sl ol (fun k => L 34 (40 * mN t + k)) (mN (A 33 (mN t))) 0 (A 1)).2 27 else (toldR sl ol (fun k => L 34 (40 * mN t + k)) (mN (A 33 (mN t))) 0 (A 1)).2 25)) else -2)) (fun M' => ∃ I' A', mW b M0 M' I' A' L ∧ (∀ j, j ≠ 19 → I' j = I j) ∧ A' 1 = A 1 ∧ ∀ j : Nat, j ≠ 1 → j ≠ 18 → A' j = A j)) := by
  obtain ⟨u, v, w, hA⟩ := hM
  have hT := hB.2.2.2.2.2.2.2.2.1
  have hN6 := hB.2.2.1.2
  have hN25 := hB.2.2.2.2.2.1.2
  have hN26 := hB.2.2.2.2.2.2.1.2
  have hN27 := hB.2.2.2.2.2.2.2.1.2
  have hN1 := hB.1.1.2
  have hN2 := hB.1.2.1.2
  refine am.of (by decide) (Nat.le_of_ble_eq_true rfl) ?_
  refine aj.aload_n dX12_judge_0 rfl ?_
  refine aj.iconst (v := 0) dX12_judge_1 rfl ?_
  refine pM0 rfl dX12_judge_2 hA (fun M hA => ?_)
  refine aj.iload_n dX12_judge_5 rfl ?_
  refine aj.i2l dX12_judge_6 ?_
  refine aj.lconst (v := 0) dX12_judge_7 rfl ?_
  refine aj.ldc2 dX12_judge_8 w1608 ?_
  refine aj.callS1 (d' := 0) (As := [.long (Int32.toInt64 q), .long 0, .long 3]) (rest := []) dX12_judge_11 v_X12_142 w1380 rfl rfl (Nat.le_of_ble_eq_true rfl) (Nat.le_of_ble_eq_true rfl) (c_withinI (a := 0) (c := 3) _ q 0 3 rfl rfl) (fun M hM => ?_)
  subst hM
  refine aj.if_neB (tgt := 20) dX12_judge_14 rfl (fun c14 => ?_) (fun c14 => ?_)
  · have h_q := inR_bd (n := 3) c14 (by decide)
    have h2_q := h_q.2
    refine aj.aload_n dX12_judge_20 rfl ?_
    refine aj.iload_n dX12_judge_21 rfl ?_
    refine aj.callV1 (d' := 1) (As := [.int t]) (rest := []) dX12_judge_22 v_X12_294 li_X12_noTray hA.1 rfl rfl rfl (Nat.le_of_ble_eq_true rfl) (Nat.le_of_ble_eq_true rfl) (q_noTray t ⟨_, _, _, hA⟩ hB) (fun M hM => ?_)
    obtain ⟨u, v, w, hA⟩ := hM
    refine aj.istore_n (lv' := [(3, .int (if inR t 0 3 then (if A 32 (mN t) = -1 then (-6 : Int32) else 0) else -2)), (0, .ref b), (1, .int t), (2, .int q)]) dX12_judge_25 (Nat.le_of_ble_eq_true rfl) rfl ?_
    refine aj.iload_n dX12_judge_26 rfl ?_
    refine aj.if_eq (tgt := 32) dX12_judge_27 rfl (fun c27 => ?_) (fun c27 => ?_)
    · have g1 : inR t 0 3 := Classical.byContradiction fun q => by rw [if_neg q] at c27; exact absurd c27 (by decide)
      have g2 : ¬ A 32 (mN t) = -1 := fun q => by rw [if_pos g1, if_pos q] at c27; exact absurd c27 (by decide)
      have h_t := inR_bd (n := 3) g1 (by decide)
      have h2_t := h_t.2
      have hle := (toldR_le (sl := sl) (ol := ol) (f := fun k => L 34 (40 * mN t + k)) (n := mN (A 33 (mN t))) (k := 0) (B := A 1)).2
      have hm40 := (hTr (mN t) (by omega)).2
      have hS4 := hB.2.2.1.2
      refine aj.aload_n dX12_judge_32 rfl ?_
      refine aj.callV0 (d' := 0) (As := []) (rest := []) dX12_judge_33 v_X12_265 li_X12_stores hA.1 rfl rfl rfl (Nat.le_of_ble_eq_true rfl) (Nat.le_of_ble_eq_true rfl) (c_stores ⟨_, _, _, hA⟩) (fun M hM => ?_)
      obtain ⟨u, v, w, hA⟩ := hM
      refine aj.aload_n dX12_judge_36 rfl ?_
      refine aj.iload_n dX12_judge_37 rfl ?_
      refine aj.callV1 (d' := 6) (As := [.int t]) (rest := []) dX12_judge_38 v_X12_297 li_X12_toldTill hA.1 rfl rfl rfl (Nat.le_of_ble_eq_true rfl) (Nat.le_of_ble_eq_true rfl) (c_toldTill (mN t) h_t.1 (mN (A 33 (mN t))) ⟨_, _, _, hA⟩ hB (by omega) (hTr (mN t) (by omega)).1 (hTr (mN t) (by omega)).2 hT40) (fun M hM => ?_)
      obtain ⟨u, v, w, hA⟩ := hM
      refine aj.istore (lv' := [(4, .int (nI ((toldR sl ol (fun k => L 34 (40 * mN t + k)) (mN (A 33 (mN t))) 0 (A 1)).1))), (3, .int (if inR t 0 3 then (if A 32 (mN t) = -1 then (-6 : Int32) else 0) else -2)), (0, .ref b), (1, .int t), (2, .int q)]) dX12_judge_41 (Nat.le_of_ble_eq_true rfl) rfl ?_
      refine aj.aload_n dX12_judge_43 rfl ?_
      refine gM1 rfl dX12_judge_44 hA ?_
      refine aj.bipush (v := 27) dX12_judge_47 rfl ?_
      refine aM1N (i := 27) dX12_judge_49 hA rfl (by omega) ?_
      refine aj.istore (lv' := [(5, .int (((toldR sl ol (fun k => L 34 (40 * mN t + k)) (mN (A 33 (mN t))) 0 (A 1)).2) 27)), (4, .int (nI ((toldR sl ol (fun k => L 34 (40 * mN t + k)) (mN (A 33 (mN t))) 0 (A 1)).1))), (3, .int (if inR t 0 3 then (if A 32 (mN t) = -1 then (-6 : Int32) else 0) else -2)), (0, .ref b), (1, .int t), (2, .int q)]) dX12_judge_50 (Nat.le_of_ble_eq_true rfl) rfl ?_
      refine aj.aload_n dX12_judge_52 rfl ?_
      refine gM1 rfl dX12_judge_53 hA ?_
      refine aj.bipush (v := 25) dX12_judge_56 rfl ?_
      refine aM1N (i := 25) dX12_judge_58 hA rfl (by omega) ?_
      refine aj.istore (lv' := [(6, .int (((toldR sl ol (fun k => L 34 (40 * mN t + k)) (mN (A 33 (mN t))) 0 (A 1)).2) 25)), (5, .int (((toldR sl ol (fun k => L 34 (40 * mN t + k)) (mN (A 33 (mN t))) 0 (A 1)).2) 27)), (4, .int (nI ((toldR sl ol (fun k => L 34 (40 * mN t + k)) (mN (A 33 (mN t))) 0 (A 1)).1))), (3, .int (if inR t 0 3 then (if A 32 (mN t) = -1 then (-6 : Int32) else 0) else -2)), (0, .ref b), (1, .int t), (2, .int q)]) dX12_judge_59 (Nat.le_of_ble_eq_true rfl) rfl ?_
      refine aj.aload_n dX12_judge_61 rfl ?_
      refine aj.callV0 (d' := 0) (As := []) (rest := []) dX12_judge_62 v_X12_300 li_X12_isAgain hA.1 rfl rfl rfl (Nat.le_of_ble_eq_true rfl) (Nat.le_of_ble_eq_true rfl) (c_isAgain ⟨_, _, _, hA⟩) (fun M hM => ?_)
      obtain ⟨u, v, w, hA⟩ := hM
      refine aj.iload_n dX12_judge_65 rfl ?_
      refine aj.if_ne (tgt := 85) dX12_judge_66 rfl (fun c66 => ?_) (fun c66 => ?_)
      · refine aj.iload_n dX12_judge_85 rfl ?_
        refine aj.iconst (v := 1) dX12_judge_86 rfl ?_
        refine aj.icmp_ne (tgt := 97) dX12_judge_87 rfl (fun c87 => ?_) (fun c87 => ?_)
        · refine aj.iload_n dX12_judge_97 rfl ?_
          refine aj.iconst (v := 2) dX12_judge_98 rfl ?_
          refine aj.icmp_ne (tgt := 107) dX12_judge_99 rfl (fun c99 => ?_) (fun c99 => ?_)
          · refine aj.iload dX12_judge_107 rfl ?_
            refine aj.iret rfl dX12_judge_109 ⟨by rw [if_pos ⟨c14, g1⟩, if_neg g2, if_neg c66, if_neg c87, if_neg c99], _, _, ⟨_, _, _, hA⟩, fun j h => va_up_ne _ _ h, ?_, fun j h1 h18 => ?_⟩
            · exact again_told (fun j hj => toldR_k hj hS4)
            · rw [va_up_ne _ _ h1, va_up_ne _ _ h1, va_up_ne _ _ h18]
          · refine aj.iload dX12_judge_102 rfl ?_
            refine aj.goto (tgt := 109) dX12_judge_104 rfl ?_
            refine aj.iret rfl dX12_judge_109 ⟨by rw [if_pos ⟨c14, g1⟩, if_neg g2, if_neg c66, if_neg c87, if_pos c99], _, _, ⟨_, _, _, hA⟩, fun j h => va_up_ne _ _ h, ?_, fun j h1 h18 => ?_⟩
            · exact again_told (fun j hj => toldR_k hj hS4)
            · rw [va_up_ne _ _ h1, va_up_ne _ _ h1, va_up_ne _ _ h18]
        · refine aj.aload_n dX12_judge_90 rfl ?_
          refine gM19 rfl dX12_judge_91 hA ?_
          refine aj.goto (tgt := 109) dX12_judge_94 rfl ?_
          refine aj.iret rfl dX12_judge_109 ⟨by rw [if_pos ⟨c14, g1⟩, if_neg g2, if_neg c66, if_pos c87]; exact (rfl : some (Value.int (zb ((toldR sl ol (fun k => L 34 (40 * mN t + k)) (mN (A 33 (mN t))) 0 (A 1)).1 ≠ mN (A 33 (mN t))))) = _), _, _, ⟨_, _, _, hA⟩, fun j h => va_up_ne _ _ h, ?_, fun j h1 h18 => ?_⟩
          · exact again_told (fun j hj => toldR_k hj hS4)
          · rw [va_up_ne _ _ h1, va_up_ne _ _ h1, va_up_ne _ _ h18]
      · refine aj.aload_n dX12_judge_69 rfl ?_
        refine gM19 rfl dX12_judge_70 hA ?_
        refine aj.if_neB (tgt := 80) dX12_judge_73 rfl (fun c73 => ?_) (fun c73 => ?_)
        · have c73 : (toldR sl ol (fun k => L 34 (40 * mN t + k)) (mN (A 33 (mN t))) 0 (A 1)).1 ≠ mN (A 33 (mN t)) := c73
          refine aj.iload dX12_judge_80 rfl ?_
          refine aj.goto (tgt := 109) dX12_judge_82 rfl ?_
          refine aj.iret rfl dX12_judge_109 ⟨by rw [if_pos ⟨c14, g1⟩, if_neg g2, if_pos c66, if_pos c73], _, _, ⟨_, _, _, hA⟩, fun j h => va_up_ne _ _ h, ?_, fun j h1 h18 => ?_⟩
          · exact again_told (fun j hj => toldR_k hj hS4)
          · rw [va_up_ne _ _ h1, va_up_ne _ _ h1, va_up_ne _ _ h18]
        · have c73 : ¬ (toldR sl ol (fun k => L 34 (40 * mN t + k)) (mN (A 33 (mN t))) 0 (A 1)).1 ≠ mN (A 33 (mN t)) := c73
          refine aj.iconst (v := (-1)) dX12_judge_76 rfl ?_
          refine aj.goto (tgt := 109) dX12_judge_77 rfl ?_
          refine aj.iret rfl dX12_judge_109 ⟨by rw [if_pos ⟨c14, g1⟩, if_neg g2, if_pos c66, if_neg c73], _, _, ⟨_, _, _, hA⟩, fun j h => va_up_ne _ _ h, ?_, fun j h1 h18 => ?_⟩
          · exact again_told (fun j hj => toldR_k hj hS4)
          · rw [va_up_ne _ _ h1, va_up_ne _ _ h1, va_up_ne _ _ h18]
    · refine aj.iload_n dX12_judge_30 rfl ?_
      exact aj.iret rfl dX12_judge_31 ⟨by by_cases c1 : inR t 0 3; (by_cases c2 : A 32 (mN t) = -1; (rw [if_pos c1, if_pos c2, if_pos ⟨c14, c1⟩, if_pos c2]); exact absurd (by rw [if_pos c1, if_neg c2]) c27); (rw [if_neg c1, if_neg (fun z => c1 z.2)]), _, _, ⟨_, _, _, hA⟩, fun _ _ => rfl, rfl, fun _ _ _ => rfl⟩
  · refine aj.bipush (v := (-2)) dX12_judge_17 rfl ?_
    exact aj.iret rfl dX12_judge_19 ⟨by rw [if_neg (fun z => c14 z.1)], _, _, ⟨_, _, _, hA⟩, fun _ _ => rfl, rfl, fun _ _ _ => rfl⟩
def drw (x : Int32) : Nat := x.toBitVec.toNat / 65536
def dx (x : Int32) : Int32 := 1103515245 * x + 12345
theorem drw_lt (x : Int32) : drw x < 65536 := by
  have := x.toBitVec.isLt
  unfold drw
  omega
theorem z_ushr16 (x : Int32) : (x.toUInt32 >>> (Int32.toUInt32 16 &&& Int32.toUInt32 31)).toInt32 = nI (drw x) := by
  have h := pk_ushr x 16 16 (by decide)
  have h2 := drw_lt x
  apply Int32.toBitVec_inj.mp
  apply BitVec.eq_of_toNat_eq
  rw [h, pk_tn (by omega)]
  rfl
section Rules26
variable {G : zG} {l : Launch} {k : zY} {d pc bc bs : Nat} {lv : List (Nat × Value)} {st : List Value} {M : zM} {Q : Option Value → zM → Prop}
theorem aj.iushr16 {x : Int32} (hd : decode k.2.1 pc = .ok (.iushr, 1)) (h : aj G l k d (pc + 1) lv (.int (nI (drw x)) :: st) M bc bs Q) : aj G l k d pc lv (.int 16 :: .int x :: st) M bc bs Q := aj.iushr hd (by rw [z_ushr16]; exact h)
end Rules26
/-- the deed that a day draws, and the number behind it -/
def drV (x : Int32) : Nat := if drw (dx x) % 6 < 3 then (if drw (dx x) % 6 < 2 then drw (dx x) % 6 else 10 + drw (dx (dx x)) % 10) else 10000 * (drw (dx (dx x)) % 4 + 1) + 100 * (drw (dx (dx (dx x))) % 21) + drw (dx (dx (dx (dx x)))) % 10
def drX (x : Int32) : Int32 := if drw (dx x) % 6 < 3 then (if drw (dx x) % 6 < 2 then dx x else dx (dx x)) else dx (dx (dx (dx x)))
theorem c_draw {G : zG} {l : Launch} {b : Nat} {M0 M : zM} {I : Nat → Int32} {A : Nat → Nat → Int32} {L : Nat → Nat → Int64} (n : Nat) {x_n : Int32} (e_n : x_n = nI n) (hM : mW b M0 M I A L) (h0 : 0 < n) (hn : n < 100) : am G l kX12_draw 0 [.ref b, .int x_n] M 0 0 (zr (.int (nI (drw (dx (I 20)) % n))) (fun M' => mW b M0 M' (va_up I 20 (dx (I 20))) A L)) := by
  subst e_n
  obtain ⟨u, v, w, hA⟩ := hM
  have hlt := drw_lt (dx (I 20))
  refine am.of (by decide) (Nat.le_of_ble_eq_true rfl) ?_
  refine aj.aload_n dX12_draw_0 rfl ?_
  refine aj.ldcw dX12_draw_1 w1649 ?_
  refine aj.aload_n dX12_draw_4 rfl ?_
  refine gM20 rfl dX12_draw_5 hA ?_
  refine aj.imul dX12_draw_8 ?_
  refine aj.sipush (v := 12345) dX12_draw_9 rfl ?_
  refine aj.iadd dX12_draw_12 ?_
  refine pM20 rfl dX12_draw_13 hA (fun M hA => ?_)
  refine aj.aload_n dX12_draw_16 rfl ?_
  refine gM20 rfl dX12_draw_17 hA ?_
  refine aj.bipush (v := 16) dX12_draw_20 rfl ?_
  refine aj.iushr16 dX12_draw_22 ?_
  refine aj.iload_n dX12_draw_23 rfl ?_
  refine aj.iremN (a := drw (dx (I 20))) (b := n) dX12_draw_24 rfl rfl (by omega) (by omega) (by omega) ?_
  exact aj.iret rfl dX12_draw_25 ⟨rfl, _, _, _, hA⟩
theorem c_drawn {G : zG} {l : Launch} {b : Nat} {M0 M : zM} {I : Nat → Int32} {A : Nat → Nat → Int32} {L : Nat → Nat → Int64} (hM : mW b M0 M I A L) : am G l kX12_drawn 1 [.ref b] M 0 0 (zr (.int (nI (drV (I 20)))) (fun M' => mW b M0 M' (va_up I 20 (drX (I 20))) A L)) := by
  obtain ⟨u, v, w, hA⟩ := hM
  refine am.of (by decide) (Nat.le_of_ble_eq_true rfl) ?_
  refine aj.aload_n dX12_drawn_0 rfl ?_
  refine aj.bipush (v := 6) dX12_drawn_1 rfl ?_
  refine aj.callV1 (d' := 0) (As := [.int 6]) (rest := []) dX12_drawn_3 v_X12_307 li_X12_draw hA.1 rfl rfl rfl (Nat.le_of_ble_eq_true rfl) (Nat.le_of_ble_eq_true rfl) (c_draw 6 rfl ⟨_, _, _, hA⟩ (by decide) (by decide)) (fun M hM => ?_)
  obtain ⟨u, v, w, hA⟩ := hM
  have hlt3 := drw_lt (dx (I 20))
  refine aj.istore_n (lv' := [(1, .int (nI (drw (dx (I 20)) % 6))), (0, .ref b)]) dX12_drawn_6 (Nat.le_of_ble_eq_true rfl) rfl ?_
  refine aj.iload_n dX12_drawn_7 rfl ?_
  refine aj.iconst (v := 3) dX12_drawn_8 rfl ?_
  refine aj.icmp_geN (a := drw (dx (I 20)) % 6) (b := 3) (tgt := 31) dX12_drawn_9 rfl rfl (by omega) (by omega) rfl (fun c9 => ?_) (fun c9 => ?_)
  · refine aj.aload_n dX12_drawn_31 rfl ?_
    refine aj.iconst (v := 4) dX12_drawn_32 rfl ?_
    refine aj.callV1 (d' := 0) (As := [.int 4]) (rest := []) dX12_drawn_33 v_X12_307 li_X12_draw hA.1 rfl rfl rfl (Nat.le_of_ble_eq_true rfl) (Nat.le_of_ble_eq_true rfl) (c_draw 4 rfl ⟨_, _, _, hA⟩ (by decide) (by decide)) (fun M hM => ?_)
    obtain ⟨u, v, w, hA⟩ := hM
    have hlt33 := drw_lt (dx (dx (I 20)))
    refine aj.istore_n (lv' := [(2, .int (nI (drw (dx (dx (I 20))) % 4))), (1, .int (nI (drw (dx (I 20)) % 6))), (0, .ref b)]) dX12_drawn_36 (Nat.le_of_ble_eq_true rfl) rfl ?_
    refine aj.aload_n dX12_drawn_37 rfl ?_
    refine aj.bipush (v := 21) dX12_drawn_38 rfl ?_
    refine aj.callV1 (d' := 0) (As := [.int 21]) (rest := []) dX12_drawn_40 v_X12_307 li_X12_draw hA.1 rfl rfl rfl (Nat.le_of_ble_eq_true rfl) (Nat.le_of_ble_eq_true rfl) (c_draw 21 rfl ⟨_, _, _, hA⟩ (by decide) (by decide)) (fun M hM => ?_)
    obtain ⟨u, v, w, hA⟩ := hM
    have hlt40 := drw_lt (dx (dx (dx (I 20))))
    refine aj.istore_n (lv' := [(3, .int (nI (drw (dx (dx (dx (I 20)))) % 21))), (2, .int (nI (drw (dx (dx (I 20))) % 4))), (1, .int (nI (drw (dx (I 20)) % 6))), (0, .ref b)]) dX12_drawn_43 (Nat.le_of_ble_eq_true rfl) rfl ?_
    refine aj.sipush (v := 10000) dX12_drawn_44 rfl ?_
    refine aj.iload_n dX12_drawn_47 rfl ?_
    refine aj.iconst (v := 1) dX12_drawn_48 rfl ?_
    refine aj.iaddN (a := drw (dx (dx (I 20))) % 4) (b := 1) dX12_drawn_49 rfl rfl ?_
    refine aj.imulN (a := 10000) (b := (drw (dx (dx (I 20))) % 4) + 1) dX12_drawn_50 rfl rfl ?_
    refine aj.bipush (v := 100) dX12_drawn_51 rfl ?_
    refine aj.iload_n dX12_drawn_53 rfl ?_
    refine aj.imulN (a := 100) (b := drw (dx (dx (dx (I 20)))) % 21) dX12_drawn_54 rfl rfl ?_
    refine aj.iaddN (a := 10000 * ((drw (dx (dx (I 20))) % 4) + 1)) (b := 100 * (drw (dx (dx (dx (I 20)))) % 21)) dX12_drawn_55 rfl rfl ?_
    refine aj.aload_n dX12_drawn_56 rfl ?_
    refine aj.bipush (v := 10) dX12_drawn_57 rfl ?_
    refine aj.callV1 (d' := 0) (As := [.int 10]) (rest := [.int (nI ((10000 * ((drw (dx (dx (I 20))) % 4) + 1)) + (100 * (drw (dx (dx (dx (I 20)))) % 21))))]) dX12_drawn_59 v_X12_307 li_X12_draw hA.1 rfl rfl rfl (Nat.le_of_ble_eq_true rfl) (Nat.le_of_ble_eq_true rfl) (c_draw 10 rfl ⟨_, _, _, hA⟩ (by decide) (by decide)) (fun M hM => ?_)
    obtain ⟨u, v, w, hA⟩ := hM
    have hlt59 := drw_lt (dx (dx (dx (dx (I 20)))))
    refine aj.iaddN (a := (10000 * ((drw (dx (dx (I 20))) % 4) + 1)) + (100 * (drw (dx (dx (dx (I 20)))) % 21))) (b := drw (dx (dx (dx (dx (I 20))))) % 10) dX12_drawn_62 rfl rfl ?_
    exact aj.iret rfl dX12_drawn_63 ⟨by unfold drV; rw [if_neg (by omega)], _, _, _, by unfold drX; rw [if_neg (by omega)]; (try simp only [bx_uu, va_up_self] at hA); exact hA⟩
  · refine aj.iload_n dX12_drawn_12 rfl ?_
    refine aj.iconst (v := 2) dX12_drawn_13 rfl ?_
    refine aj.icmp_geN (a := drw (dx (I 20)) % 6) (b := 2) (tgt := 21) dX12_drawn_14 rfl rfl (by omega) (by omega) rfl (fun c14 => ?_) (fun c14 => ?_)
    · refine aj.bipush (v := 10) dX12_drawn_21 rfl ?_
      refine aj.aload_n dX12_drawn_23 rfl ?_
      refine aj.bipush (v := 10) dX12_drawn_24 rfl ?_
      refine aj.callV1 (d' := 0) (As := [.int 10]) (rest := [.int 10]) dX12_drawn_26 v_X12_307 li_X12_draw hA.1 rfl rfl rfl (Nat.le_of_ble_eq_true rfl) (Nat.le_of_ble_eq_true rfl) (c_draw 10 rfl ⟨_, _, _, hA⟩ (by decide) (by decide)) (fun M hM => ?_)
      obtain ⟨u, v, w, hA⟩ := hM
      have hlt26 := drw_lt (dx (dx (I 20)))
      refine aj.iaddN (a := 10) (b := drw (dx (dx (I 20))) % 10) dX12_drawn_29 rfl rfl ?_
      exact aj.iret rfl dX12_drawn_30 ⟨by unfold drV; rw [if_pos (by omega), if_neg (by omega)], _, _, _, by unfold drX; rw [if_pos (by omega), if_neg (by omega)]; (try simp only [bx_uu, va_up_self] at hA); exact hA⟩
    · refine aj.iload_n dX12_drawn_17 rfl ?_
      refine aj.goto (tgt := 30) dX12_drawn_18 rfl ?_
      exact aj.iret rfl dX12_drawn_30 ⟨by unfold drV; rw [if_pos (by omega), if_pos (by omega)], _, _, _, by unfold drX; rw [if_pos (by omega), if_pos (by omega)]; (try simp only [bx_uu, va_up_self] at hA); exact hA⟩
/-- drawn deeds: those that can be are done; how many, and the row behind them -/
def dayR (sl ol : Option (List Nat)) : Nat → Int32 → (Nat → Int32) → Nat → Nat × (Nat → Int32)
  | 0, _, B, k => (k, B)
  | n + 1, x, B, k => if dOK (mN (B 6)) (drV x) then dayR sl ol n (drX x) (doB B sl ol (drV x)) (k + 1) else dayR sl ol n (drX x) B k
theorem dayR_s (sl ol : Option (List Nat)) (n : Nat) (x : Int32) (B : Nat → Int32) (k : Nat) : dayR sl ol (n + 1) x B k = if dOK (mN (B 6)) (drV x) then dayR sl ol n (drX x) (doB B sl ol (drV x)) (k + 1) else dayR sl ol n (drX x) B k := rfl
theorem dayR_le {sl ol : Option (List Nat)} : ∀ {n : Nat} {x : Int32} {B : Nat → Int32} {k : Nat}, k ≤ (dayR sl ol n x B k).1 ∧ (dayR sl ol n x B k).1 ≤ k + n
  | 0, x, B, k => ⟨Nat.le_refl _, Nat.le_refl _⟩
  | n + 1, x, B, k => by
    rw [dayR_s]
    split
    · have := dayR_le (sl := sl) (ol := ol) (n := n) (x := drX x) (B := doB B sl ol (drV x)) (k := k + 1)
      omega
    · have := dayR_le (sl := sl) (ol := ol) (n := n) (x := drX x) (B := B) (k := k)
      omega
theorem dayR_0 {sl ol : Option (List Nat)} : ∀ {n : Nat} {x : Int32} {B : Nat → Int32} {k : Nat}, (dayR sl ol n x B k).1 = k → (dayR sl ol n x B k).2 = B
  | 0, x, B, k, _ => rfl
  | n + 1, x, B, k, h => by
    rw [dayR_s] at h ⊢
    split at h
    · have := dayR_le (sl := sl) (ol := ol) (n := n) (x := drX x) (B := doB B sl ol (drV x)) (k := k + 1)
      omega
    · rename_i q
      rw [if_neg q]
      exact dayR_0 h
theorem mOK_more {B : Nat → Int32} {sl ol : Option (List Nat)} {T T' : Nat} (h : mOK B sl ol T) (hT : T ≤ T') (hT' : T' < 2 ^ 24) : mOK B sl ol T' := mOK_st h (fun _ _ => rfl) h.2.2.2.2.1 (bd_mono h.2.2.2.2.2.1 hT) h.2.2.2.2.2.2.1 (bd_mono h.2.2.2.2.2.2.2.1 hT) hT'
theorem mOK_day {sl ol : Option (List Nat)} : ∀ {n : Nat} {x : Int32} {B : Nat → Int32} {k T : Nat}, mOK B sl ol T → T + n < 2 ^ 24 → mOK (dayR sl ol n x B k).2 sl ol (T + n)
  | 0, x, B, k, T, h, _ => h
  | n + 1, x, B, k, T, h, hT => by
    rw [dayR_s, show T + (n + 1) = T + 1 + n by omega]
    split
    · rename_i q
      exact mOK_day (mOK_do h q (by omega)) (by omega)
    · exact mOK_day (mOK_more h (by omega) (by omega)) (by omega)
theorem dayR_k {sl ol : Option (List Nat)} {j : Nat} (hj : j < 17 ∨ 28 ≤ j) : ∀ {n : Nat} {x : Int32} {B : Nat → Int32} {k : Nat}, mN (B 6) ≤ 4 → (dayR sl ol n x B k).2 j = B j
  | 0, x, B, k, _ => rfl
  | n + 1, x, B, k, h => by
    rw [dayR_s]
    split
    · rename_i q
      rw [dayR_k hj (by rw [doB_k q h (by omega)]; exact h), doB_k q h hj]
    · exact dayR_k hj h
theorem drV_lt (x : Int32) : drV x < 50000 := by
  unfold drV
  split
  · split <;> omega
  · omega
theorem day_loop {G : zG} {l : Launch} {b : Nat} {M0 : zM} {I : Nat → Int32} {A : Nat → Nat → Int32} {L : Nat → Nat → Int64} {sl ol : Option (List Nat)} {Q : Option Value → zM → Prop} (n0 : Nat) {x_n0 : Int32} (e_n0 : x_n0 = nI n0) (seed : Int32) (h40 : n0 ≤ 40) (R : Nat × (Nat → Int32)) (hk : ∀ (x : Int32) (M : zM), mW b M0 M (va_up I 20 x) (va_up A 1 R.2) L → aj G l kX12_day 6 74 [(3, .int (nI R.1)), (0, .ref b)] [] M 0 0 Q) : ∀ (n i : Nat) (x : Int32) (B : Nat → Int32) (k T : Nat) (M : zM), i + n = n0 → k ≤ i → mOK B sl ol T → T + n < 2 ^ 24 → dayR sl ol n x B k = R → mW b M0 M (va_up I 20 x) (va_up A 1 B) L → aj G l kX12_day 6 34 [(4, .int (nI i)), (3, .int (nI k)), (0, .ref b), (2, .int x_n0)] [] M 0 0 Q := by
  intro n
  induction n with
  | zero =>
    intro i x B k T M hin hki hB hT hR hM
    obtain ⟨u, v, w, hA⟩ := hM
    have hT := hB.2.2.2.2.2.2.2.2.1
    have hN6 := hB.2.2.1.2
    have hN25 := hB.2.2.2.2.2.1.2
    have hN26 := hB.2.2.2.2.2.2.1.2
    have hN27 := hB.2.2.2.2.2.2.2.1.2
    have hN1 := hB.1.1.2
    have hN2 := hB.1.2.1.2
    refine aj.iload dX12_day_34 rfl ?_
    refine aj.iload_n dX12_day_36 rfl ?_
    refine aj.icmp_geN (a := i) (b := n0) (tgt := 74) dX12_day_37 rfl e_n0 (by omega) (by omega) rfl (fun c37 => ?_) (fun c37 => ?_)
    · refine aj.pick [1, 2] rfl ?_
      have e : (k, B) = R := hR
      subst e
      exact hk x M ⟨_, _, _, hA⟩
    · exact absurd c37 (by omega)
  | succ n ih =>
    intro i x B k T M hin hki hB hT hR hM
    obtain ⟨u, v, w, hA⟩ := hM
    have hT := hB.2.2.2.2.2.2.2.2.1
    have hN6 := hB.2.2.1.2
    have hN25 := hB.2.2.2.2.2.1.2
    have hN26 := hB.2.2.2.2.2.2.1.2
    have hN27 := hB.2.2.2.2.2.2.2.1.2
    have hN1 := hB.1.1.2
    have hN2 := hB.1.2.1.2
    refine aj.iload dX12_day_34 rfl ?_
    refine aj.iload_n dX12_day_36 rfl ?_
    refine aj.icmp_geN (a := i) (b := n0) (tgt := 74) dX12_day_37 rfl e_n0 (by omega) (by omega) rfl (fun c37 => ?_) (fun c37 => ?_)
    · exact absurd c37 (by omega)
    · refine aj.aload_n dX12_day_40 rfl ?_
      refine aj.callV1 (d' := 1) (As := []) (rest := []) dX12_day_41 v_X12_312 li_X12_drawn hA.1 rfl rfl rfl (Nat.le_of_ble_eq_true rfl) (Nat.le_of_ble_eq_true rfl) (c_drawn ⟨_, _, _, hA⟩) (fun M hM => ?_)
      obtain ⟨u, v, w, hA⟩ := hM
      simp only [bx_uu, va_up_self] at hA
      have hdl := drV_lt x
      refine aj.istore (lv' := [(5, .int (nI (drV x))), (4, .int (nI i)), (3, .int (nI k)), (0, .ref b), (2, .int x_n0)]) dX12_day_44 (Nat.le_of_ble_eq_true rfl) rfl ?_
      refine aj.aload_n dX12_day_46 rfl ?_
      refine aj.iload dX12_day_47 rfl ?_
      refine aj.i2lN (a := drV x) dX12_day_49 rfl (by omega) ?_
      refine aj.callV1 (d' := 3) (As := [.long (lN (drV x))]) (rest := []) dX12_day_50 v_X12_285 li_X12_whyNot hA.1 rfl rfl rfl (Nat.le_of_ble_eq_true rfl) (Nat.le_of_ble_eq_true rfl) (c_whyNot (lN (drV x)) ⟨_, _, _, hA⟩ hB) (fun M hM => ?_)
      obtain ⟨u, v, w, hA⟩ := hM
      refine aj.if_eqB (tgt := 59) dX12_day_53 rfl (fun c53 => ?_) (fun c53 => ?_)
      · have c53 : ¬ ¬ dOK (mN (B 6)) (lN (drV x)).toInt := c53
        rw [pk_lT (by omega)] at c53
        have hn : dOK (mN (B 6)) ((drV x : Nat) : Int) := Classical.not_not.mp c53
        refine aj.aload_n dX12_day_59 rfl ?_
        refine aj.iload dX12_day_60 rfl ?_
        refine aj.callV0 (d' := 5) (As := [.int (nI (drV x))]) (rest := []) dX12_day_62 v_X12_289 li_X12_does hA.1 rfl rfl rfl (Nat.le_of_ble_eq_true rfl) (Nat.le_of_ble_eq_true rfl) (c_does (drV x) rfl ⟨_, _, _, hA⟩ hB hn) (fun M hM => ?_)
        obtain ⟨u, v, w, hA⟩ := hM
        refine aj.iincN (a := k) (c := 1) (lv' := [(3, .int (nI (k + 1))), (5, .int (nI (drV x))), (4, .int (nI i)), (0, .ref b), (2, .int x_n0)]) dX12_day_65 rfl (Nat.le_of_ble_eq_true rfl) rfl rfl rfl ?_
        refine aj.iincN (a := i) (c := 1) (lv' := [(4, .int (nI (i + 1))), (3, .int (nI (k + 1))), (5, .int (nI (drV x))), (0, .ref b), (2, .int x_n0)]) dX12_day_68 rfl (Nat.le_of_ble_eq_true rfl) rfl rfl rfl ?_
        refine aj.goto (tgt := 34) dX12_day_71 rfl ?_
        refine aj.pick [0, 1, 3, 4] rfl ?_
        rw [bx_uu] at hA
        exact ih (i + 1) (drX x) (doB B sl ol (drV x)) (k + 1) (T + 1) M (by omega) (by omega) (mOK_do hB hn (by omega)) (by omega) (by rw [← hR, dayR_s, if_pos hn]) ⟨_, _, _, hA⟩
      · have c53 : ¬ dOK (mN (B 6)) (lN (drV x)).toInt := c53
        rw [pk_lT (by omega)] at c53
        refine aj.goto (tgt := 68) dX12_day_56 rfl ?_
        refine aj.iincN (a := i) (c := 1) (lv' := [(4, .int (nI (i + 1))), (5, .int (nI (drV x))), (3, .int (nI k)), (0, .ref b), (2, .int x_n0)]) dX12_day_68 rfl (Nat.le_of_ble_eq_true rfl) rfl rfl rfl ?_
        refine aj.goto (tgt := 34) dX12_day_71 rfl ?_
        refine aj.pick [0, 2, 3, 4] rfl ?_
        exact ih (i + 1) (drX x) B k T M (by omega) (by omega) hB (by omega) (by rw [← hR, dayR_s, if_neg c53]) ⟨_, _, _, hA⟩
theorem day_end {G : zG} {l : Launch} {b : Nat} {M0 : zM} {I : Nat → Int32} {A : Nat → Nat → Int32} {L : Nat → Nat → Int64} (n seed : Int32) {sl ol : Option (List Nat)} {T : Nat} (hH : bd (A 1 28) 10) (hB : mOK (A 1) sl ol T) (c14 : inR n 1 40) (x : Int32) (M : zM) (hM : mW b M0 M (va_up I 20 x) (va_up (va_up A 18 (wasF (A 1) (A 18))) 1 (dayR sl ol (mN n) seed (A 1) 0).2) L) : aj G l kX12_day 6 74 [(3, .int (nI (dayR sl ol (mN n) seed (A 1) 0).1)), (0, .ref b)] [] M 0 0 (zr (.int (if inR n 1 40 then nI (dayR sl ol (mN n) seed (A 1) 0).1 else -3)) (fun M' => ∃ I' A', mW b M0 M' I' A' L ∧ (∀ j, j ≠ 20 → I' j = I j) ∧ A' 1 = (if inR n 1 40 ∧ 0 < (dayR sl ol (mN n) seed (A 1) 0).1 then noteF (dayR sl ol (mN n) seed (A 1) 0).2 (stF (A 1)) (mN (A 1 28)) else A 1) ∧ ∀ j : Nat, j ≠ 1 → j ≠ 18 → A' j = A j)) := by
  obtain ⟨u, v, w, hA⟩ := hM
  have hS4 := hB.2.2.1.2
  have h40 := (inR_bd1 (n := 40) c14 (by decide)).2.1
  have hle := (dayR_le (sl := sl) (ol := ol) (n := mN n) (x := seed) (B := A 1) (k := 0)).2
  refine aj.iload_n dX12_day_74 rfl ?_
  refine aj.if_leN (a := (dayR sl ol (mN n) seed (A 1) 0).1) (tgt := 82) dX12_day_75 rfl (by omega) rfl (fun c75 => ?_) (fun c75 => ?_)
  · refine aj.iload_n dX12_day_82 rfl ?_
    refine aj.iret rfl dX12_day_83 ⟨by rw [if_pos c14], _, _, ⟨_, _, _, hA⟩, fun j h => va_up_ne _ _ h, ?_, fun j h1 h18 => ?_⟩
    · rw [if_neg (fun z => by have := z.2; omega)]
      show (dayR sl ol (mN n) seed (A 1) 0).2 = A 1
      exact dayR_0 c75
    · rw [va_up_ne _ _ h1, va_up_ne _ _ h18]
  · refine aj.aload_n dX12_day_78 rfl ?_
    refine aj.callV0 (d' := 0) (As := []) (rest := []) dX12_day_79 v_X12_271 li_X12_notes hA.1 rfl rfl rfl (Nat.le_of_ble_eq_true rfl) (Nat.le_of_ble_eq_true rfl) (c_notes (mN (A 1 28)) ⟨_, _, _, hA⟩ (show (dayR sl ol (mN n) seed (A 1) 0).2 28 = nI (mN (A 1 28)) from (dayR_k (by omega) hS4).trans hH.1) hH.2) (fun M hM => ?_)
    obtain ⟨u, v, w, hA⟩ := hM
    refine aj.iload_n dX12_day_82 rfl ?_
    refine aj.iret rfl dX12_day_83 ⟨by rw [if_pos c14], _, _, ⟨_, _, _, hA⟩, fun j h => va_up_ne _ _ h, ?_, fun j h1 h18 => ?_⟩
    · rw [if_pos ⟨c14, c75⟩]
      exact noteF_was _ _ _ _
    · rw [va_up_ne _ _ h1, va_up_ne _ _ h1, va_up_ne _ _ h18]
theorem q_day {G : zG} {l : Launch} {b : Nat} {M0 M : zM} {I : Nat → Int32} {A : Nat → Nat → Int32} {L : Nat → Nat → Int64} (seed : Int32) (n : Int32) (hM : mW b M0 M I A L) {sl ol : Option (List Nat)} {T : Nat}  (hH : bd (A 1 28) 10) (hTr : ∀ j, j < 4 → bd (A 33 j) 40) (hT40 : T + 40 < 2 ^ 24) (hB : mOK (A 1) sl ol T) : am G l kX12_day 6 [.ref b, .int seed, .int n] M 0 0 (zr (.int (if inR n 1 40 then nI (dayR sl ol (mN n) seed (A 1) 0).1 else -3)) (fun M' => ∃ I' A', mW b M0 M' I' A' L ∧ (∀ j, j ≠ 20 → I' j = I j) ∧ A' 1 = (if inR n 1 40 ∧ 0 < (dayR sl ol (mN n) seed (A 1) 0).1 then noteF (dayR sl ol (mN n) seed (A 1) 0).2 (stF (A 1)) (mN (A 1 28)) else A 1) ∧ ∀ j : Nat, j ≠ 1 → j ≠ 18 → A' j = A j)) := by
  obtain ⟨u, v, w, hA⟩ := hM
  have hT := hB.2.2.2.2.2.2.2.2.1
  have hN6 := hB.2.2.1.2
  have hN25 := hB.2.2.2.2.2.1.2
  have hN26 := hB.2.2.2.2.2.2.1.2
  have hN27 := hB.2.2.2.2.2.2.2.1.2
  have hN1 := hB.1.1.2
  have hN2 := hB.1.2.1.2
  refine am.of (by decide) (Nat.le_of_ble_eq_true rfl) ?_
  refine aj.aload_n dX12_day_0 rfl ?_
  refine aj.iconst (v := 0) dX12_day_1 rfl ?_
  refine pM0 rfl dX12_day_2 hA (fun M hA => ?_)
  refine aj.iload_n dX12_day_5 rfl ?_
  refine aj.i2l dX12_day_6 ?_
  refine aj.lconst (v := 1) dX12_day_7 rfl ?_
  refine aj.ldc2 dX12_day_8 w1640 ?_
  refine aj.callS1 (d' := 0) (As := [.long (Int32.toInt64 n), .long 1, .long 40]) (rest := []) dX12_day_11 v_X12_142 w1380 rfl rfl (Nat.le_of_ble_eq_true rfl) (Nat.le_of_ble_eq_true rfl) (c_withinI (a := 1) (c := 40) _ n 1 40 rfl rfl) (fun M hM => ?_)
  subst hM
  refine aj.if_neB (tgt := 20) dX12_day_14 rfl (fun c14 => ?_) (fun c14 => ?_)
  · have h_n := inR_bd1 (n := 40) c14 (by decide)
    have h3_n := h_n.2.2
    have h2_n := h_n.2.1
    refine aj.aload_n dX12_day_20 rfl ?_
    refine aj.callV0 (d' := 0) (As := []) (rest := []) dX12_day_21 v_X12_265 li_X12_stores hA.1 rfl rfl rfl (Nat.le_of_ble_eq_true rfl) (Nat.le_of_ble_eq_true rfl) (c_stores ⟨_, _, _, hA⟩) (fun M hM => ?_)
    obtain ⟨u, v, w, hA⟩ := hM
    refine aj.aload_n dX12_day_24 rfl ?_
    refine aj.iload_n dX12_day_25 rfl ?_
    refine pM20 rfl dX12_day_26 hA (fun M hA => ?_)
    refine aj.iconst (v := 0) dX12_day_29 rfl ?_
    refine aj.istore_n (lv' := [(3, .int 0), (0, .ref b), (1, .int seed), (2, .int n)]) dX12_day_30 (Nat.le_of_ble_eq_true rfl) rfl ?_
    refine aj.iconst (v := 0) dX12_day_31 rfl ?_
    refine aj.istore (lv' := [(4, .int 0), (3, .int 0), (0, .ref b), (1, .int seed), (2, .int n)]) dX12_day_32 (Nat.le_of_ble_eq_true rfl) rfl ?_
    refine aj.pick [0, 1, 2, 4] rfl ?_
    exact day_loop (A := va_up A 18 (wasF (A 1) (A 18))) (mN n) h_n.1 seed h2_n (dayR sl ol (mN n) seed (A 1) 0) (fun x M hM => day_end n seed hH hB c14 x M hM) (mN n) 0 seed (A 1) 0 T M (by omega) (by omega) hB (by omega) rfl ⟨_, _, _, by rw [← va_up_id (va_up A 18 (wasF (A 1) (A 18))) 1] at hA; exact hA⟩
  · refine aj.bipush (v := (-3)) dX12_day_17 rfl ?_
    exact aj.iret rfl dX12_day_19 ⟨by rw [if_neg c14], _, _, ⟨_, _, _, hA⟩, fun _ _ => rfl, by rw [if_neg (fun z => c14 z.1)], fun _ _ _ => rfl⟩
