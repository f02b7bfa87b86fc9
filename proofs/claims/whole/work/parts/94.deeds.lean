theorem two_up (x y : Nat → Int32) : ∃ A : Nat → Nat → Int32, A 32 = x ∧ A 33 = y := ⟨fun j => if j = 32 then x else y, rfl, rfl⟩
theorem one_up (x : Nat → Int64) : ∃ A : Nat → Nat → Int64, A 34 = x := ⟨fun _ => x, rfl⟩
theorem lc_shoot {G : zG} {l : Launch} {nm : String} {a b bS Ls k : Nat} {xs : Nat → Int32} {M : zM} {Q : Option Value → zM → Prop} {bc bs : Nat}  (hX : zX G bS Ls xs) (hL : Ls < 2 ^ 31) (hk6 : 6 * k + 6 ≤ Ls) (hkT : 100 * (k + 1) < 2 ^ 24) (hSt : lS a b M k) (hn : ∀ M', lS a b M' (k + 1) → aj G l (kL nm) 84 1694 [(3, .int (nI (6 * k))), (0, .ref bS), (1, .ref a), (2, .ref b)] [] M' bc bs Q) : aj G l (kL nm) 84 532 [(3, .int (nI (6 * k))), (0, .ref bS), (1, .ref a), (2, .ref b)] [] M bc bs Q := by
  obtain ⟨t, n, V0, W0, R, I, A, L, hg, hs⟩ := hSt
  obtain ⟨T, sl, ol, hH⟩ := hs.cH
  have hB := hH.2.2.2
  have hTr := hs.2.2.1
  have h33 : ∀ j, j < 4 → bd (A 33 j) 40 := fun j hj => (hTr j hj).1
  have hI := hs.2.1.2.1
  have h28 := hisR_b hI
  have hkW := hg.2.2.2.1
  refine aj.aload_n dL_law_532 rfl ?_
  refine aj.aload_n dL_law_533 rfl ?_
  refine aj.iload_n dL_law_534 rfl ?_
  refine aj.iconst (v := 1) dL_law_535 rfl ?_
  refine aj.iaddN (a := 6 * k) (b := 1) dL_law_536 rfl rfl ?_
  refine aj.sci hX (j := (6 * k) + 1) rfl (by omega) hL dL_law_537 ?_
  refine aj.aload_n dL_law_538 rfl ?_
  refine aj.iload_n dL_law_539 rfl ?_
  refine aj.iconst (v := 2) dL_law_540 rfl ?_
  refine aj.iaddN (a := 6 * k) (b := 2) dL_law_541 rfl rfl ?_
  refine aj.sci hX (j := (6 * k) + 2) rfl (by omega) hL dL_law_542 ?_
  refine aj.aload_n dL_law_543 rfl ?_
  refine aj.iload_n dL_law_544 rfl ?_
  refine aj.iconst (v := 3) dL_law_545 rfl ?_
  refine aj.iaddN (a := 6 * k) (b := 3) dL_law_546 rfl rfl ?_
  refine aj.sci hX (j := (6 * k) + 3) rfl (by omega) hL dL_law_547 ?_
  refine aj.callE1 (d' := 6) (bc := bc) (bs := bs) (kc := 0) (ks := 0) (As := [.int (xs ((6 * k) + 1)), .int (xs ((6 * k) + 2)), .int (xs ((6 * k) + 3))]) (rest := []) dL_law_548 v_L_57 li_X11_shoot hg.obC rfl rfl rfl (Nat.le_of_ble_eq_true rfl) (Nat.le_of_ble_eq_true rfl) (p_shoot ((xs ((6 * k) + 1))) ((xs ((6 * k) + 2))) ((xs ((6 * k) + 3))) hkW hH hI) (fun M1 hM => ?_)
  obtain ⟨V1, hM1, hS1, hI1, hE1⟩ := hM
  obtain ⟨hg1, hk1⟩ := hg.c hM1 rfl
  refine aj.aload_n dL_law_551 rfl ?_
  refine aj.aload_n dL_law_552 rfl ?_
  refine aj.iload_n dL_law_553 rfl ?_
  refine aj.iconst (v := 1) dL_law_554 rfl ?_
  refine aj.iaddN (a := 6 * k) (b := 1) dL_law_555 rfl rfl ?_
  refine aj.sci hX (j := (6 * k) + 1) rfl (by omega) hL dL_law_556 ?_
  refine aj.aload_n dL_law_557 rfl ?_
  refine aj.iload_n dL_law_558 rfl ?_
  refine aj.iconst (v := 2) dL_law_559 rfl ?_
  refine aj.iaddN (a := 6 * k) (b := 2) dL_law_560 rfl rfl ?_
  refine aj.sci hX (j := (6 * k) + 2) rfl (by omega) hL dL_law_561 ?_
  refine aj.aload_n dL_law_562 rfl ?_
  refine aj.iload_n dL_law_563 rfl ?_
  refine aj.iconst (v := 3) dL_law_564 rfl ?_
  refine aj.iaddN (a := 6 * k) (b := 3) dL_law_565 rfl rfl ?_
  refine aj.sci hX (j := (6 * k) + 3) rfl (by omega) hL dL_law_566 ?_
  refine aj.callE1 (d' := 5) (bc := bc) (bs := bs) (kc := 0) (ks := 0) (As := [.int (xs ((6 * k) + 1)), .int (xs ((6 * k) + 2)), .int (xs ((6 * k) + 3))]) (rest := [.int _]) dL_law_567 v_L_60 li_X12_shoot hg1.obR rfl rfl rfl (Nat.le_of_ble_eq_true rfl) (Nat.le_of_ble_eq_true rfl) (q_shoot ((xs ((6 * k) + 1))) ((xs ((6 * k) + 2))) ((xs ((6 * k) + 3))) hg1.2.2.2.2.1 h28 hB) (fun M2 hM => ?_)
  obtain ⟨A1, hM2, e1, eA⟩ := hM
  obtain ⟨hg2, hk2⟩ := hg1.r hM2
  refine aj.icmp_eq (tgt := 1694) dL_law_570 rfl (fun c570 => ?_) (fun c570 => ?_)
  · refine aj.pick [0, 1, 2, 3] rfl ?_
    have hf : gS a (hm b t n M2) V1 W0 R I A1 L (100 * (k + 1)) := by
      by_cases hq : inR (xs ((6 * k) + 1)) 0 ((mN (A 1 6) : Int) - 1) ∧ inR (xs ((6 * k) + 2)) 0 20 ∧ inR (xs ((6 * k) + 3)) 0 9
      · rw [if_pos hq] at hS1 hI1 e1
        have hs4 : mN (xs ((6 * k) + 1)) < 4 := Nat.lt_of_lt_of_le (inR_bdS hq.1 (Nat.lt_of_le_of_lt hB.2.2.1.2 (by decide))).2 hB.2.2.1.2
        exact (hs.kp (hk1.trans hk2)).note (C := shotB (A 1) sl ol (mN (xs ((6 * k) + 1))) (mN (xs ((6 * k) + 2))) (mN (xs ((6 * k) + 3)))) (sl := sl) (ol := ol) (fun j hj => shotB_k hs4 (by omega)) (mOK_more (mOK_shot hB hs4 (by omega)) (by omega) hkT) hS1 hI1 hE1 (by omega) e1 eA rfl rfl rfl
      · rw [if_neg hq] at hS1 hI1 e1
        exact (hs.kp (hk1.trans hk2)).nodeed hS1 hI1 hE1 (by omega) hkT e1 eA rfl rfl rfl
    exact hn M2 ⟨t, n, V1, W0, R, I, A1, L, hg2, hf⟩
  · exact absurd (rfl) c570
theorem lc_waits {G : zG} {l : Launch} {nm : String} {a b bS Ls k : Nat} {xs : Nat → Int32} {M : zM} {Q : Option Value → zM → Prop} {bc bs : Nat}  (hX : zX G bS Ls xs) (hL : Ls < 2 ^ 31) (hk6 : 6 * k + 6 ≤ Ls) (hkT : 100 * (k + 1) < 2 ^ 24) (hSt : lS a b M k) (hn : ∀ M', lS a b M' (k + 1) → aj G l (kL nm) 84 1694 [(3, .int (nI (6 * k))), (0, .ref bS), (1, .ref a), (2, .ref b)] [] M' bc bs Q) : aj G l (kL nm) 84 575 [(3, .int (nI (6 * k))), (0, .ref bS), (1, .ref a), (2, .ref b)] [] M bc bs Q := by
  obtain ⟨t, n, V0, W0, R, I, A, L, hg, hs⟩ := hSt
  obtain ⟨T, sl, ol, hH⟩ := hs.cH
  have hB := hH.2.2.2
  have hTr := hs.2.2.1
  have h33 : ∀ j, j < 4 → bd (A 33 j) 40 := fun j hj => (hTr j hj).1
  have hI := hs.2.1.2.1
  have h28 := hisR_b hI
  have hkW := hg.2.2.2.1
  refine aj.aload_n dL_law_575 rfl ?_
  refine aj.aload_n dL_law_576 rfl ?_
  refine aj.iload_n dL_law_577 rfl ?_
  refine aj.iconst (v := 1) dL_law_578 rfl ?_
  refine aj.iaddN (a := 6 * k) (b := 1) dL_law_579 rfl rfl ?_
  refine aj.sci hX (j := (6 * k) + 1) rfl (by omega) hL dL_law_580 ?_
  refine aj.callE1 (d' := 2) (bc := bc) (bs := bs) (kc := 0) (ks := 0) (As := [.int (xs ((6 * k) + 1))]) (rest := []) dL_law_581 v_L_61 li_X11_waits hg.obC rfl rfl rfl (Nat.le_of_ble_eq_true rfl) (Nat.le_of_ble_eq_true rfl) (p_waits ((xs ((6 * k) + 1))) hkW hH hI) (fun M1 hM => ?_)
  obtain ⟨V1, hM1, hS1, hI1, hE1⟩ := hM
  obtain ⟨hg1, hk1⟩ := hg.c hM1 rfl
  refine aj.aload_n dL_law_584 rfl ?_
  refine aj.aload_n dL_law_585 rfl ?_
  refine aj.iload_n dL_law_586 rfl ?_
  refine aj.iconst (v := 1) dL_law_587 rfl ?_
  refine aj.iaddN (a := 6 * k) (b := 1) dL_law_588 rfl rfl ?_
  refine aj.sci hX (j := (6 * k) + 1) rfl (by omega) hL dL_law_589 ?_
  refine aj.callE1 (d' := 1) (bc := bc) (bs := bs) (kc := 0) (ks := 0) (As := [.int (xs ((6 * k) + 1))]) (rest := [.int _]) dL_law_590 v_L_64 li_X12_waits hg1.obR rfl rfl rfl (Nat.le_of_ble_eq_true rfl) (Nat.le_of_ble_eq_true rfl) (q_waits ((xs ((6 * k) + 1))) hg1.2.2.2.2.1 h28 hB) (fun M2 hM => ?_)
  obtain ⟨A1, hM2, e1, eA⟩ := hM
  obtain ⟨hg2, hk2⟩ := hg1.r hM2
  refine aj.icmp_eq (tgt := 1694) dL_law_593 rfl (fun c593 => ?_) (fun c593 => ?_)
  · refine aj.pick [0, 1, 2, 3] rfl ?_
    have hf : gS a (hm b t n M2) V1 W0 R I A1 L (100 * (k + 1)) := by
      by_cases hq : inR (xs ((6 * k) + 1)) 1 99
      · rw [if_pos hq] at hS1 hI1 e1
        have h1 := inR_bd1 (n := 99) hq (by decide)
        have h2 := hB.2.2.2.2.2.2.2.1.2
        exact (hs.kp (hk1.trans hk2)).note (C := upd (A 1) 27 (nI (mN (A 1 27) + mN (xs ((6 * k) + 1))))) (sl := sl) (ol := ol) (fun j hj => pk_un (by omega)) (mOK_st hB (fun j hj => pk_un (by omega)) (fun s hs => by rw [pk_un (by omega)]; exact hB.2.2.2.2.1 s hs) (by rw [pk_un (by decide)]; exact bd_mono hB.2.2.2.2.2.1 (by omega)) (by rw [pk_un (by decide)]; exact hB.2.2.2.2.2.2.1) (by rw [pk_us]; exact bd_nI (by omega) (by omega)) hkT) hS1 hI1 hE1 (by omega) e1 eA rfl rfl rfl
      · rw [if_neg hq] at hS1 hI1 e1
        exact (hs.kp (hk1.trans hk2)).nodeed hS1 hI1 hE1 (by omega) hkT e1 eA rfl rfl rfl
    exact hn M2 ⟨t, n, V1, W0, R, I, A1, L, hg2, hf⟩
  · exact absurd (rfl) c593
theorem lc_heal {G : zG} {l : Launch} {nm : String} {a b bS Ls k : Nat} {xs : Nat → Int32} {M : zM} {Q : Option Value → zM → Prop} {bc bs : Nat}  (hX : zX G bS Ls xs) (hL : Ls < 2 ^ 31) (hk6 : 6 * k + 6 ≤ Ls) (hkT : 100 * (k + 1) < 2 ^ 24) (hSt : lS a b M k) (hn : ∀ M', lS a b M' (k + 1) → aj G l (kL nm) 84 1694 [(3, .int (nI (6 * k))), (0, .ref bS), (1, .ref a), (2, .ref b)] [] M' bc bs Q) : aj G l (kL nm) 84 598 [(3, .int (nI (6 * k))), (0, .ref bS), (1, .ref a), (2, .ref b)] [] M bc bs Q := by
  obtain ⟨t, n, V0, W0, R, I, A, L, hg, hs⟩ := hSt
  obtain ⟨T, sl, ol, hH⟩ := hs.cH
  have hB := hH.2.2.2
  have hTr := hs.2.2.1
  have h33 : ∀ j, j < 4 → bd (A 33 j) 40 := fun j hj => (hTr j hj).1
  have hI := hs.2.1.2.1
  have h28 := hisR_b hI
  have hkW := hg.2.2.2.1
  refine aj.aload_n dL_law_598 rfl ?_
  refine aj.callE1 (d' := 2) (bc := bc) (bs := bs) (kc := 0) (ks := 0) (As := []) (rest := []) dL_law_599 v_L_65 li_X11_heal hg.obC rfl rfl rfl (Nat.le_of_ble_eq_true rfl) (Nat.le_of_ble_eq_true rfl) (p_heal  hkW hH hI) (fun M1 hM => ?_)
  obtain ⟨V1, hM1, hS1, hI1, hE1⟩ := hM
  obtain ⟨hg1, hk1⟩ := hg.c hM1 rfl
  refine aj.aload_n dL_law_602 rfl ?_
  refine aj.callE1 (d' := 1) (bc := bc) (bs := bs) (kc := 0) (ks := 0) (As := []) (rest := [.int _]) dL_law_603 v_L_69 li_X12_heal hg1.obR rfl rfl rfl (Nat.le_of_ble_eq_true rfl) (Nat.le_of_ble_eq_true rfl) (q_heal  hg1.2.2.2.2.1 h28 hB) (fun M2 hM => ?_)
  obtain ⟨A1, hM2, e1, eA⟩ := hM
  obtain ⟨hg2, hk2⟩ := hg1.r hM2
  refine aj.icmp_eq (tgt := 1694) dL_law_606 rfl (fun c606 => ?_) (fun c606 => ?_)
  · refine aj.pick [0, 1, 2, 3] rfl ?_
    have hf : gS a (hm b t n M2) V1 W0 R I A1 L (100 * (k + 1)) := by
      exact (hs.kp (hk1.trans hk2)).note (C := upd (A 1) 25 0) (sl := sl) (ol := ol) (fun j hj => pk_un (by omega)) (mOK_st hB (fun j hj => pk_un (by omega)) (fun s hs => by rw [pk_un (by omega)]; exact hB.2.2.2.2.1 s hs) (by rw [pk_us]; exact bd_nI (a := 0) (by omega) (by omega)) (by rw [pk_un (by decide)]; exact hB.2.2.2.2.2.2.1) (by rw [pk_un (by decide)]; exact bd_mono hB.2.2.2.2.2.2.2.1 (by omega)) hkT) hS1 hI1 hE1 (by omega) e1 eA rfl rfl rfl
    exact hn M2 ⟨t, n, V1, W0, R, I, A1, L, hg2, hf⟩
  · exact absurd (rfl) c606
theorem lc_wind {G : zG} {l : Launch} {nm : String} {a b bS Ls k : Nat} {xs : Nat → Int32} {M : zM} {Q : Option Value → zM → Prop} {bc bs : Nat}  (hX : zX G bS Ls xs) (hL : Ls < 2 ^ 31) (hk6 : 6 * k + 6 ≤ Ls) (hkT : 100 * (k + 1) < 2 ^ 24) (hSt : lS a b M k) (hn : ∀ M', lS a b M' (k + 1) → aj G l (kL nm) 84 1694 [(3, .int (nI (6 * k))), (0, .ref bS), (1, .ref a), (2, .ref b)] [] M' bc bs Q) : aj G l (kL nm) 84 611 [(3, .int (nI (6 * k))), (0, .ref bS), (1, .ref a), (2, .ref b)] [] M bc bs Q := by
  obtain ⟨t, n, V0, W0, R, I, A, L, hg, hs⟩ := hSt
  obtain ⟨T, sl, ol, hH⟩ := hs.cH
  have hB := hH.2.2.2
  have hTr := hs.2.2.1
  have h33 : ∀ j, j < 4 → bd (A 33 j) 40 := fun j hj => (hTr j hj).1
  have hI := hs.2.1.2.1
  have h28 := hisR_b hI
  have hkW := hg.2.2.2.1
  refine aj.aload_n dL_law_611 rfl ?_
  refine aj.aload_n dL_law_612 rfl ?_
  refine aj.iload_n dL_law_613 rfl ?_
  refine aj.iconst (v := 1) dL_law_614 rfl ?_
  refine aj.iaddN (a := 6 * k) (b := 1) dL_law_615 rfl rfl ?_
  refine aj.sci hX (j := (6 * k) + 1) rfl (by omega) hL dL_law_616 ?_
  refine aj.callE1 (d' := 2) (bc := bc) (bs := bs) (kc := 0) (ks := 0) (As := [.int (xs ((6 * k) + 1))]) (rest := []) dL_law_617 v_L_70 li_X11_wind hg.obC rfl rfl rfl (Nat.le_of_ble_eq_true rfl) (Nat.le_of_ble_eq_true rfl) (p_wind ((xs ((6 * k) + 1))) hkW hH hI) (fun M1 hM => ?_)
  obtain ⟨V1, hM1, hS1, hI1, hE1⟩ := hM
  obtain ⟨hg1, hk1⟩ := hg.c hM1 rfl
  refine aj.aload_n dL_law_620 rfl ?_
  refine aj.aload_n dL_law_621 rfl ?_
  refine aj.iload_n dL_law_622 rfl ?_
  refine aj.iconst (v := 1) dL_law_623 rfl ?_
  refine aj.iaddN (a := 6 * k) (b := 1) dL_law_624 rfl rfl ?_
  refine aj.sci hX (j := (6 * k) + 1) rfl (by omega) hL dL_law_625 ?_
  refine aj.callE1 (d' := 1) (bc := bc) (bs := bs) (kc := 0) (ks := 0) (As := [.int (xs ((6 * k) + 1))]) (rest := [.int _]) dL_law_626 v_L_73 li_X12_wind hg1.obR rfl rfl rfl (Nat.le_of_ble_eq_true rfl) (Nat.le_of_ble_eq_true rfl) (q_wind ((xs ((6 * k) + 1))) hg1.2.2.2.2.1 h28 hB) (fun M2 hM => ?_)
  obtain ⟨A1, hM2, e1, eA⟩ := hM
  obtain ⟨hg2, hk2⟩ := hg1.r hM2
  refine aj.icmp_eq (tgt := 1694) dL_law_629 rfl (fun c629 => ?_) (fun c629 => ?_)
  · refine aj.pick [0, 1, 2, 3] rfl ?_
    have hf : gS a (hm b t n M2) V1 W0 R I A1 L (100 * (k + 1)) := by
      by_cases hq : inR (xs ((6 * k) + 1)) 0 9
      · rw [if_pos hq] at hS1 hI1 e1
        have h1 := inR_bd (n := 9) hq (by decide)
        exact (hs.kp (hk1.trans hk2)).note (C := upd (A 1) 26 (xs ((6 * k) + 1))) (sl := sl) (ol := ol) (fun j hj => pk_un (by omega)) (mOK_st hB (fun j hj => pk_un (by omega)) (fun s hs => by rw [pk_un (by omega)]; exact hB.2.2.2.2.1 s hs) (by rw [pk_un (by decide)]; exact bd_mono hB.2.2.2.2.2.1 (by omega)) (by rw [pk_us]; exact h1) (by rw [pk_un (by decide)]; exact bd_mono hB.2.2.2.2.2.2.2.1 (by omega)) hkT) hS1 hI1 hE1 (by omega) e1 eA rfl rfl rfl
      · rw [if_neg hq] at hS1 hI1 e1
        exact (hs.kp (hk1.trans hk2)).nodeed hS1 hI1 hE1 (by omega) hkT e1 eA rfl rfl rfl
    exact hn M2 ⟨t, n, V1, W0, R, I, A1, L, hg2, hf⟩
  · exact absurd (rfl) c629
theorem lc_undo {G : zG} {l : Launch} {nm : String} {a b bS Ls k : Nat} {xs : Nat → Int32} {M : zM} {Q : Option Value → zM → Prop} {bc bs : Nat}  (hX : zX G bS Ls xs) (hL : Ls < 2 ^ 31) (hk6 : 6 * k + 6 ≤ Ls) (hkT : 100 * (k + 1) < 2 ^ 24) (hSt : lS a b M k) (hn : ∀ M', lS a b M' (k + 1) → aj G l (kL nm) 84 1694 [(3, .int (nI (6 * k))), (0, .ref bS), (1, .ref a), (2, .ref b)] [] M' bc bs Q) : aj G l (kL nm) 84 634 [(3, .int (nI (6 * k))), (0, .ref bS), (1, .ref a), (2, .ref b)] [] M bc bs Q := by
  obtain ⟨t, n, V0, W0, R, I, A, L, hg, hs⟩ := hSt
  obtain ⟨T, sl, ol, hH⟩ := hs.cH
  have hB := hH.2.2.2
  have hTr := hs.2.2.1
  have h33 : ∀ j, j < 4 → bd (A 33 j) 40 := fun j hj => (hTr j hj).1
  have hI := hs.2.1.2.1
  have h28 := hisR_b hI
  have hkW := hg.2.2.2.1
  refine aj.aload_n dL_law_634 rfl ?_
  refine aj.aload_n dL_law_635 rfl ?_
  refine aj.iload_n dL_law_636 rfl ?_
  refine aj.iconst (v := 1) dL_law_637 rfl ?_
  refine aj.iaddN (a := 6 * k) (b := 1) dL_law_638 rfl rfl ?_
  refine aj.sci hX (j := (6 * k) + 1) rfl (by omega) hL dL_law_639 ?_
  refine aj.callE1 (d' := 2) (bc := bc) (bs := bs) (kc := 0) (ks := 0) (As := [.int (xs ((6 * k) + 1))]) (rest := []) dL_law_640 v_L_74 li_X11_undo hg.obC rfl rfl rfl (Nat.le_of_ble_eq_true rfl) (Nat.le_of_ble_eq_true rfl) (p_undo ((xs ((6 * k) + 1))) hkW hH hI) (fun M1 hM => ?_)
  obtain ⟨V1, hM1, hS1, hI1, hE1⟩ := hM
  obtain ⟨hg1, hk1⟩ := hg.c hM1 rfl
  refine aj.aload_n dL_law_643 rfl ?_
  refine aj.aload_n dL_law_644 rfl ?_
  refine aj.iload_n dL_law_645 rfl ?_
  refine aj.iconst (v := 1) dL_law_646 rfl ?_
  refine aj.iaddN (a := 6 * k) (b := 1) dL_law_647 rfl rfl ?_
  refine aj.sci hX (j := (6 * k) + 1) rfl (by omega) hL dL_law_648 ?_
  refine aj.callE1 (d' := 1) (bc := bc) (bs := bs) (kc := 0) (ks := 0) (As := [.int (xs ((6 * k) + 1))]) (rest := [.int _]) dL_law_649 v_L_77 li_X12_undo hg1.obR rfl rfl rfl (Nat.le_of_ble_eq_true rfl) (Nat.le_of_ble_eq_true rfl) (q_undo ((xs ((6 * k) + 1))) hg1.2.2.2.2.1 h28 hB) (fun M2 hM => ?_)
  obtain ⟨A1, hM2, e1, eA⟩ := hM
  obtain ⟨hg2, hk2⟩ := hg1.r hM2
  refine aj.icmp_eq (tgt := 1694) dL_law_652 rfl (fun c652 => ?_) (fun c652 => ?_)
  · refine aj.pick [0, 1, 2, 3] rfl ?_
    have hf : gS a (hm b t n M2) V1 W0 R I A1 L (100 * (k + 1)) := by
      by_cases hq : inR (xs ((6 * k) + 1)) 1 10 ∧ mN (xs ((6 * k) + 1)) ≤ mN (A 1 28)
      · rw [if_pos hq] at hS1 hI1 e1
        exact (hs.kp (hk1.trans hk2)).undo (inR_bd1 (n := 10) hq.1 (by decide)).2.2 hq.2 hS1 hI1 hE1 (by omega) hkT e1 eA rfl rfl rfl
      · rw [if_neg hq] at hS1 hI1 e1
        exact (hs.kp (hk1.trans hk2)).nodeed hS1 hI1 hE1 (by omega) hkT e1 eA rfl rfl rfl
    exact hn M2 ⟨t, n, V1, W0, R, I, A1, L, hg2, hf⟩
  · exact absurd (rfl) c652
theorem lc_perform {G : zG} {l : Launch} {nm : String} {a b bS Ls k : Nat} {xs : Nat → Int32} {M : zM} {Q : Option Value → zM → Prop} {bc bs : Nat}  (hX : zX G bS Ls xs) (hL : Ls < 2 ^ 31) (hk6 : 6 * k + 6 ≤ Ls) (hkT : 100 * (k + 1) < 2 ^ 24) (hSt : lS a b M k) (hn : ∀ M', lS a b M' (k + 1) → aj G l (kL nm) 84 1694 [(3, .int (nI (6 * k))), (0, .ref bS), (1, .ref a), (2, .ref b)] [] M' bc bs Q) : aj G l (kL nm) 84 690 [(3, .int (nI (6 * k))), (0, .ref bS), (1, .ref a), (2, .ref b)] [] M bc bs Q := by
  obtain ⟨t, n, V0, W0, R, I, A, L, hg, hs⟩ := hSt
  obtain ⟨T, sl, ol, hH⟩ := hs.cH
  have hB := hH.2.2.2
  have hTr := hs.2.2.1
  have h33 : ∀ j, j < 4 → bd (A 33 j) 40 := fun j hj => (hTr j hj).1
  have hI := hs.2.1.2.1
  have h28 := hisR_b hI
  have hkW := hg.2.2.2.1
  have hT40 : 100 * k + 40 < 2 ^ 24 := by omega
  refine aj.aload_n dL_law_690 rfl ?_
  refine aj.aload_n dL_law_691 rfl ?_
  refine aj.iload_n dL_law_692 rfl ?_
  refine aj.iconst (v := 1) dL_law_693 rfl ?_
  refine aj.iaddN (a := 6 * k) (b := 1) dL_law_694 rfl rfl ?_
  refine aj.sci hX (j := (6 * k) + 1) rfl (by omega) hL dL_law_695 ?_
  refine aj.callE1 (d' := 8) (bc := bc) (bs := bs) (kc := 0) (ks := 0) (As := [.int (xs ((6 * k) + 1))]) (rest := []) dL_law_696 v_L_82 li_X11_perform hg.obC rfl rfl rfl (Nat.le_of_ble_eq_true rfl) (Nat.le_of_ble_eq_true rfl) (p_perform ((xs ((6 * k) + 1))) hkW hH hI hTr hT40) (fun M1 hM => ?_)
  obtain ⟨V1, hM1, hS1, hI1, hE1⟩ := hM
  obtain ⟨hg1, hk1⟩ := hg.c hM1 rfl
  refine aj.aload_n dL_law_699 rfl ?_
  refine aj.aload_n dL_law_700 rfl ?_
  refine aj.iload_n dL_law_701 rfl ?_
  refine aj.iconst (v := 1) dL_law_702 rfl ?_
  refine aj.iaddN (a := 6 * k) (b := 1) dL_law_703 rfl rfl ?_
  refine aj.sci hX (j := (6 * k) + 1) rfl (by omega) hL dL_law_704 ?_
  refine aj.callE1 (d' := 7) (bc := bc) (bs := bs) (kc := 0) (ks := 0) (As := [.int (xs ((6 * k) + 1))]) (rest := [.int _]) dL_law_705 v_L_85 li_X12_perform hg1.obR rfl rfl rfl (Nat.le_of_ble_eq_true rfl) (Nat.le_of_ble_eq_true rfl) (q_perform ((xs ((6 * k) + 1))) hg1.2.2.2.2.1 h28 h33 hT40 hB) (fun M2 hM => ?_)
  obtain ⟨I1, A1, hM2, iI, e1, eA⟩ := hM
  obtain ⟨hg2, hk2⟩ := hg1.r hM2
  refine aj.icmp_eq (tgt := 1694) dL_law_708 rfl (fun c708 => ?_) (fun c708 => ?_)
  · refine aj.pick [0, 1, 2, 3] rfl ?_
    have hf : gS a (hm b t n M2) V1 W0 R I1 A1 L (100 * (k + 1)) := by
      by_cases hq : inR (xs ((6 * k) + 1)) 0 3 ∧ ¬ A 32 (mN (xs ((6 * k) + 1))) = -1 ∧ 0 < (toldR sl ol (fun j => L 34 (40 * mN (xs ((6 * k) + 1)) + j)) (mN (A 33 (mN (xs ((6 * k) + 1))))) 0 (A 1)).1
      · rw [if_pos hq] at hS1 hI1 e1
        have h1 := (inR_bd (n := 3) hq.1 (by decide)).2
        have h2 := (h33 (mN (xs ((6 * k) + 1))) (by omega)).2
        exact (hs.kp (hk1.trans hk2)).note (C := (toldR sl ol (fun j => L 34 (40 * mN (xs ((6 * k) + 1)) + j)) (mN (A 33 (mN (xs ((6 * k) + 1))))) 0 (A 1)).2) (sl := sl) (ol := ol) (fun j hj => toldR_k hj hB.2.2.1.2) (mOK_more (mOK_told hB (by omega)) (by omega) hkT) hS1 hI1 hE1 (by omega) e1 eA (iI 5 (by decide)) (iI 13 (by decide)) (iI 14 (by decide))
      · rw [if_neg hq] at hS1 hI1 e1
        exact (hs.kp (hk1.trans hk2)).nodeed hS1 hI1 hE1 (by omega) hkT e1 eA (iI 5 (by decide)) (iI 13 (by decide)) (iI 14 (by decide))
    exact hn M2 ⟨t, n, V1, W0, R, I1, A1, L, hg2, hf⟩
  · exact absurd (rfl) c708
theorem lc_day {G : zG} {l : Launch} {nm : String} {a b bS Ls k : Nat} {xs : Nat → Int32} {M : zM} {Q : Option Value → zM → Prop} {bc bs : Nat}  (hX : zX G bS Ls xs) (hL : Ls < 2 ^ 31) (hk6 : 6 * k + 6 ≤ Ls) (hkT : 100 * (k + 1) < 2 ^ 24) (hSt : lS a b M k) (hn : ∀ M', lS a b M' (k + 1) → aj G l (kL nm) 84 1694 [(3, .int (nI (6 * k))), (0, .ref bS), (1, .ref a), (2, .ref b)] [] M' bc bs Q) : aj G l (kL nm) 84 713 [(3, .int (nI (6 * k))), (0, .ref bS), (1, .ref a), (2, .ref b)] [] M bc bs Q := by
  obtain ⟨t, n, V0, W0, R, I, A, L, hg, hs⟩ := hSt
  obtain ⟨T, sl, ol, hH⟩ := hs.cH
  have hB := hH.2.2.2
  have hTr := hs.2.2.1
  have h33 : ∀ j, j < 4 → bd (A 33 j) 40 := fun j hj => (hTr j hj).1
  have hI := hs.2.1.2.1
  have h28 := hisR_b hI
  have hkW := hg.2.2.2.1
  have hT40 : 100 * k + 40 < 2 ^ 24 := by omega
  refine aj.aload_n dL_law_713 rfl ?_
  refine aj.aload_n dL_law_714 rfl ?_
  refine aj.iload_n dL_law_715 rfl ?_
  refine aj.iconst (v := 1) dL_law_716 rfl ?_
  refine aj.iaddN (a := 6 * k) (b := 1) dL_law_717 rfl rfl ?_
  refine aj.sci hX (j := (6 * k) + 1) rfl (by omega) hL dL_law_718 ?_
  refine aj.aload_n dL_law_719 rfl ?_
  refine aj.iload_n dL_law_720 rfl ?_
  refine aj.iconst (v := 2) dL_law_721 rfl ?_
  refine aj.iaddN (a := 6 * k) (b := 2) dL_law_722 rfl rfl ?_
  refine aj.sci hX (j := (6 * k) + 2) rfl (by omega) hL dL_law_723 ?_
  refine aj.callE1 (d' := 7) (bc := bc) (bs := bs) (kc := 0) (ks := 0) (As := [.int (xs ((6 * k) + 1)), .int (xs ((6 * k) + 2))]) (rest := []) dL_law_724 v_L_86 li_X11_day hg.obC rfl rfl rfl (Nat.le_of_ble_eq_true rfl) (Nat.le_of_ble_eq_true rfl) (p_day ((xs ((6 * k) + 1))) ((xs ((6 * k) + 2))) hkW hH hI hT40) (fun M1 hM => ?_)
  obtain ⟨V1, hM1, hS1, hI1, hE1⟩ := hM
  obtain ⟨hg1, hk1⟩ := hg.c hM1 rfl
  refine aj.aload_n dL_law_727 rfl ?_
  refine aj.aload_n dL_law_728 rfl ?_
  refine aj.iload_n dL_law_729 rfl ?_
  refine aj.iconst (v := 1) dL_law_730 rfl ?_
  refine aj.iaddN (a := 6 * k) (b := 1) dL_law_731 rfl rfl ?_
  refine aj.sci hX (j := (6 * k) + 1) rfl (by omega) hL dL_law_732 ?_
  refine aj.aload_n dL_law_733 rfl ?_
  refine aj.iload_n dL_law_734 rfl ?_
  refine aj.iconst (v := 2) dL_law_735 rfl ?_
  refine aj.iaddN (a := 6 * k) (b := 2) dL_law_736 rfl rfl ?_
  refine aj.sci hX (j := (6 * k) + 2) rfl (by omega) hL dL_law_737 ?_
  refine aj.callE1 (d' := 6) (bc := bc) (bs := bs) (kc := 0) (ks := 0) (As := [.int (xs ((6 * k) + 1)), .int (xs ((6 * k) + 2))]) (rest := [.int _]) dL_law_738 v_L_89 li_X12_day hg1.obR rfl rfl rfl (Nat.le_of_ble_eq_true rfl) (Nat.le_of_ble_eq_true rfl) (q_day ((xs ((6 * k) + 1))) ((xs ((6 * k) + 2))) hg1.2.2.2.2.1 h28 h33 hT40 hB) (fun M2 hM => ?_)
  obtain ⟨I1, A1, hM2, iI, e1, eA⟩ := hM
  obtain ⟨hg2, hk2⟩ := hg1.r hM2
  refine aj.icmp_eq (tgt := 1694) dL_law_741 rfl (fun c741 => ?_) (fun c741 => ?_)
  · refine aj.pick [0, 1, 2, 3] rfl ?_
    have hf : gS a (hm b t n M2) V1 W0 R I1 A1 L (100 * (k + 1)) := by
      by_cases hq : inR (xs ((6 * k) + 2)) 1 40 ∧ 0 < (dayR sl ol (mN (xs ((6 * k) + 2))) (xs ((6 * k) + 1)) (A 1) 0).1
      · rw [if_pos hq] at hS1 hI1 e1
        have h1 := (inR_bd1 (n := 40) hq.1 (by decide)).2
        exact (hs.kp (hk1.trans hk2)).note (C := (dayR sl ol (mN (xs ((6 * k) + 2))) (xs ((6 * k) + 1)) (A 1) 0).2) (sl := sl) (ol := ol) (fun j hj => dayR_k hj hB.2.2.1.2) (mOK_more (mOK_day hB (by omega)) (by omega) hkT) hS1 hI1 hE1 (by omega) e1 eA (iI 5 (by decide)) (iI 13 (by decide)) (iI 14 (by decide))
      · rw [if_neg hq] at hS1 hI1 e1
        exact (hs.kp (hk1.trans hk2)).nodeed hS1 hI1 hE1 (by omega) hkT e1 eA (iI 5 (by decide)) (iI 13 (by decide)) (iI 14 (by decide))
    exact hn M2 ⟨t, n, V1, W0, R, I1, A1, L, hg2, hf⟩
  · exact absurd (rfl) c741
