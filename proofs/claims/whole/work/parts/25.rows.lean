/-- told deeds done till one can't be: how many, and the row behind them -/
def toldR (sl ol : Option (List Nat)) (f : Nat → Int64) : Nat → Nat → (Nat → Int32) → Nat × (Nat → Int32)
  | 0, k, B => (k, B)
  | n + 1, k, B => if dOK (mN (B 6)) (f k).toInt then toldR sl ol f n (k + 1) (doB B sl ol (f k).toInt.toNat) else (k, B)
theorem toldR_s (sl ol : Option (List Nat)) (f : Nat → Int64) (n k : Nat) (B : Nat → Int32) : toldR sl ol f (n + 1) k B = if dOK (mN (B 6)) (f k).toInt then toldR sl ol f n (k + 1) (doB B sl ol (f k).toInt.toNat) else (k, B) := rfl
theorem toldR_le {sl ol : Option (List Nat)} {f : Nat → Int64} : ∀ {n k : Nat} {B : Nat → Int32}, k ≤ (toldR sl ol f n k B).1 ∧ (toldR sl ol f n k B).1 ≤ k + n
  | 0, k, B => ⟨Nat.le_refl _, Nat.le_refl _⟩
  | n + 1, k, B => by
    rw [toldR_s]
    split
    · have := toldR_le (sl := sl) (ol := ol) (f := f) (n := n) (k := k + 1) (B := doB B sl ol (f k).toInt.toNat)
      omega
    · exact ⟨Nat.le_refl _, by omega⟩
theorem mOK_told {sl ol : Option (List Nat)} {f : Nat → Int64} : ∀ {n k : Nat} {B : Nat → Int32} {T : Nat}, mOK B sl ol T → T + n < 2 ^ 24 → mOK (toldR sl ol f n k B).2 sl ol (T + n)
  | 0, k, B, T, h, _ => h
  | n + 1, k, B, T, h, hT => by
    have hT0 := h.2.2.2.2.2.2.2.2.1
    rw [toldR_s]
    split
    · rename_i q
      have q0 : 0 ≤ (f k).toInt := by omega
      have := mOK_told (sl := sl) (ol := ol) (f := f) (n := n) (k := k + 1) (mOK_do h (n := (f k).toInt.toNat) (by rw [Int.toNat_of_nonneg q0]; exact q) (by omega)) (by omega)
      rw [show T + (n + 1) = T + 1 + n by omega]
      exact this
    · refine mOK_st h (fun _ _ => rfl) h.2.2.2.2.1 (bd_mono h.2.2.2.2.2.1 (by omega)) h.2.2.2.2.2.2.1 (bd_mono h.2.2.2.2.2.2.2.1 (by omega)) hT
theorem toldR_k {sl ol : Option (List Nat)} {f : Nat → Int64} {j : Nat} (hj : j < 17 ∨ 28 ≤ j) : ∀ {n k : Nat} {B : Nat → Int32}, mN (B 6) ≤ 4 → (toldR sl ol f n k B).2 j = B j
  | 0, k, B, _ => rfl
  | n + 1, k, B, h => by
    rw [toldR_s]
    split
    · rename_i q
      have q0 : 0 ≤ (f k).toInt := by omega
      have q1 : dOK (mN (B 6)) (((f k).toInt.toNat : Nat) : Int) := by rw [Int.toNat_of_nonneg q0]; exact q
      rw [toldR_k hj (by rw [doB_k q1 h (by omega)]; exact h), doB_k q1 h hj]
    · rfl
theorem toldTill_loop {G : zG} {l : Launch} {b : Nat} {M0 : zM} {I : Nat → Int32} {A : Nat → Nat → Int32} {L : Nat → Nat → Int64} {sl ol : Option (List Nat)} (t : Nat) {x_t : Int32} (e_t : x_t = nI t) (many : Nat) (ht : t < 4) (hmany : A 33 t = nI many) (hm40 : many ≤ 40) (R : Nat × (Nat → Int32)) : ∀ (n i : Nat) (B : Nat → Int32) (T : Nat) (M : zM), i + n = many → mOK B sl ol T → T + n < 2 ^ 24 → toldR sl ol (fun k => L 34 (40 * t + k)) n i B = R → mW b M0 M (va_up I 19 0) (va_up A 1 B) L → aj G l kX12_toldTill 6 7 [(2, .int (nI i)), (0, .ref b), (1, .int x_t)] [] M 0 0 (zr (.int (nI R.1)) (fun M' => mW b M0 M' (va_up I 19 (zb (R.1 ≠ many))) (va_up A 1 R.2) L)) := by
  intro n
  induction n with
  | zero =>
    intro i B T M hin hB hT hR hM
    obtain ⟨u, v, w, hA⟩ := hM
    have hT := hB.2.2.2.2.2.2.2.2.1
    have hN6 := hB.2.2.1.2
    have hN25 := hB.2.2.2.2.2.1.2
    have hN26 := hB.2.2.2.2.2.2.1.2
    have hN27 := hB.2.2.2.2.2.2.2.1.2
    have hN1 := hB.1.1.2
    have hN2 := hB.1.2.1.2
    refine aj.iload_n dX12_toldTill_7 rfl ?_
    refine aj.aload_n dX12_toldTill_8 rfl ?_
    refine gM33 rfl dX12_toldTill_9 hA ?_
    refine aj.iload_n dX12_toldTill_12 rfl ?_
    refine aM33N (i := t) dX12_toldTill_13 hA e_t (by omega) ?_
    refine aj.icmp_geN (a := i) (b := many) (tgt := 67) dX12_toldTill_14 rfl hmany (by omega) (by omega) rfl (fun c14 => ?_) (fun c14 => ?_)
    · refine aj.aload_n dX12_toldTill_67 rfl ?_
      refine gM33 rfl dX12_toldTill_68 hA ?_
      refine aj.iload_n dX12_toldTill_71 rfl ?_
      refine aM33N (i := t) dX12_toldTill_72 hA e_t (by omega) ?_
      exact aj.iret rfl dX12_toldTill_73 ⟨by rw [← hR]; show some (Value.int (A 33 t)) = some (Value.int (nI i)); rw [hmany, show many = i by omega], _, _, _, by rw [← hR, zb_f (by show ¬ (i ≠ many); omega)]; exact hA⟩
    · exact absurd c14 (by omega)
  | succ n ih =>
    intro i B T M hin hB hT hR hM
    obtain ⟨u, v, w, hA⟩ := hM
    have hT := hB.2.2.2.2.2.2.2.2.1
    have hN6 := hB.2.2.1.2
    have hN25 := hB.2.2.2.2.2.1.2
    have hN26 := hB.2.2.2.2.2.2.1.2
    have hN27 := hB.2.2.2.2.2.2.2.1.2
    have hN1 := hB.1.1.2
    have hN2 := hB.1.2.1.2
    refine aj.iload_n dX12_toldTill_7 rfl ?_
    refine aj.aload_n dX12_toldTill_8 rfl ?_
    refine gM33 rfl dX12_toldTill_9 hA ?_
    refine aj.iload_n dX12_toldTill_12 rfl ?_
    refine aM33N (i := t) dX12_toldTill_13 hA e_t (by omega) ?_
    refine aj.icmp_geN (a := i) (b := many) (tgt := 67) dX12_toldTill_14 rfl hmany (by omega) (by omega) rfl (fun c14 => ?_) (fun c14 => ?_)
    · exact absurd c14 (by omega)
    · refine aj.aload_n dX12_toldTill_17 rfl ?_
      refine aj.aload_n dX12_toldTill_18 rfl ?_
      refine aj.aload_n dX12_toldTill_19 rfl ?_
      refine gM34 rfl dX12_toldTill_20 hA ?_
      refine aj.bipush (v := 40) dX12_toldTill_23 rfl ?_
      refine aj.iload_n dX12_toldTill_25 rfl ?_
      refine aj.imulN (a := 40) (b := t) dX12_toldTill_26 rfl e_t ?_
      refine aj.iload_n dX12_toldTill_27 rfl ?_
      refine aj.iaddN (a := 40 * t) (b := i) dX12_toldTill_28 rfl rfl ?_
      refine aM34N (i := (40 * t) + i) dX12_toldTill_29 hA rfl (by omega) ?_
      refine aj.callV1 (d' := 3) (As := [.long (L 34 ((40 * t) + i))]) (rest := [.ref b]) dX12_toldTill_30 v_X12_285 li_X12_whyNot hA.1 rfl rfl rfl (Nat.le_of_ble_eq_true rfl) (Nat.le_of_ble_eq_true rfl) (c_whyNot (L 34 ((40 * t) + i)) ⟨_, _, _, hA⟩ hB) (fun M hM => ?_)
      obtain ⟨u, v, w, hA⟩ := hM
      refine pM19 rfl dX12_toldTill_33 hA (fun M hA => ?_)
      refine aj.aload_n dX12_toldTill_36 rfl ?_
      refine gM19 rfl dX12_toldTill_37 hA ?_
      refine aj.if_eqB (tgt := 45) dX12_toldTill_40 rfl (fun c40 => ?_) (fun c40 => ?_)
      · have c40 : dOK (mN (B 6)) (L 34 (40 * t + i)).toInt := Classical.not_not.mp c40
        have q0 : 0 ≤ (L 34 (40 * t + i)).toInt := by omega
        obtain ⟨nn, hnn0⟩ : ∃ z, z = (L 34 (40 * t + i)).toInt.toNat := ⟨_, rfl⟩
        have hnnI : ((nn : Nat) : Int) = (L 34 (40 * t + i)).toInt := by omega
        have hnn : L 34 (40 * t + i) = lN nn := i64_nat hnnI.symm
        have hn : dOK (mN (B 6)) ((nn : Nat) : Int) := by rw [hnnI]; exact c40
        refine aj.aload_n dX12_toldTill_45 rfl ?_
        refine aj.aload_n dX12_toldTill_46 rfl ?_
        refine gM34 rfl dX12_toldTill_47 hA ?_
        refine aj.bipush (v := 40) dX12_toldTill_50 rfl ?_
        refine aj.iload_n dX12_toldTill_52 rfl ?_
        refine aj.imulN (a := 40) (b := t) dX12_toldTill_53 rfl e_t ?_
        refine aj.iload_n dX12_toldTill_54 rfl ?_
        refine aj.iaddN (a := 40 * t) (b := i) dX12_toldTill_55 rfl rfl ?_
        refine aM34N (i := (40 * t) + i) dX12_toldTill_56 hA rfl (by omega) ?_
        refine aj.l2iN (a := nn) dX12_toldTill_57 hnn ?_
        refine aj.callV0 (d' := 5) (As := [.int (nI nn)]) (rest := []) dX12_toldTill_58 v_X12_289 li_X12_does hA.1 rfl rfl rfl (Nat.le_of_ble_eq_true rfl) (Nat.le_of_ble_eq_true rfl) (c_does nn rfl ⟨_, _, _, hA⟩ hB hn) (fun M hM => ?_)
        obtain ⟨u, v, w, hA⟩ := hM
        refine aj.iincN (a := i) (c := 1) (lv' := [(2, .int (nI (i + 1))), (0, .ref b), (1, .int x_t)]) dX12_toldTill_61 rfl (Nat.le_of_ble_eq_true rfl) rfl rfl rfl ?_
        refine aj.goto (tgt := 7) dX12_toldTill_64 rfl ?_
        refine aj.pick [0, 1, 2] rfl ?_
        rw [bx_uu, bx_uu] at hA
        simp only [va_up_self] at hA
        rw [zb_f (Classical.not_not.mpr c40)] at hA
        exact ih (i + 1) (doB B sl ol nn) (T + 1) M (by omega) (mOK_do hB hn (by omega)) (by omega) (by rw [← hR, toldR_s, if_pos c40, hnn0]) ⟨_, _, _, hA⟩
      · have c40 : ¬ dOK (mN (B 6)) (L 34 (40 * t + i)).toInt := c40
        refine aj.iload_n dX12_toldTill_43 rfl ?_
        exact aj.iret rfl dX12_toldTill_44 ⟨by rw [← hR, toldR_s, if_neg c40], _, _, _, by rw [← hR, toldR_s, if_neg c40, zb_t (by show i ≠ many; omega)]; rw [bx_uu] at hA; simp only [va_up_self] at hA; rw [zb_t c40] at hA; exact hA⟩
theorem c_toldTill {G : zG} {l : Launch} {b : Nat} {M0 M : zM} {I : Nat → Int32} {A : Nat → Nat → Int32} {L : Nat → Nat → Int64} (t : Nat) {x_t : Int32} (e_t : x_t = nI t) (many : Nat) {sl ol : Option (List Nat)} {T : Nat} (hM : mW b M0 M I A L) (hB : mOK (A 1) sl ol T) (ht : t < 4) (hmany : A 33 t = nI many) (hm40 : many ≤ 40) (hT40 : T + 40 < 2 ^ 24) : am G l kX12_toldTill 6 [.ref b, .int x_t] M 0 0 (zr (.int (nI (toldR sl ol (fun k => L 34 (40 * t + k)) many 0 (A 1)).1)) (fun M' => mW b M0 M' (va_up I 19 (zb ((toldR sl ol (fun k => L 34 (40 * t + k)) many 0 (A 1)).1 ≠ many))) (va_up A 1 (toldR sl ol (fun k => L 34 (40 * t + k)) many 0 (A 1)).2) L)) := by
  obtain ⟨u, v, w, hA⟩ := hM
  refine am.of (by decide) (Nat.le_of_ble_eq_true rfl) ?_
  refine aj.aload_n dX12_toldTill_0 rfl ?_
  refine aj.iconst (v := 0) dX12_toldTill_1 rfl ?_
  refine pM19 rfl dX12_toldTill_2 hA (fun M hA => ?_)
  refine aj.iconst (v := 0) dX12_toldTill_5 rfl ?_
  refine aj.istore_n (lv' := [(2, .int 0), (0, .ref b), (1, .int x_t)]) dX12_toldTill_6 (Nat.le_of_ble_eq_true rfl) rfl ?_
  refine aj.pick [0, 1, 2] rfl ?_
  exact toldTill_loop t e_t many ht hmany hm40 _ many 0 (A 1) T M (by omega) hB (by omega) rfl ⟨_, _, _, by rw [va_up_id]; exact hA⟩
theorem q_noTray {G : zG} {l : Launch} {b : Nat} {M0 M : zM} {I : Nat → Int32} {A : Nat → Nat → Int32} {L : Nat → Nat → Int64} (t : Int32) (hM : mW b M0 M I A L) {sl ol : Option (List Nat)} {T : Nat}  (hB : mOK (A 1) sl ol T) : am G l kX12_noTray 1 [.ref b, .int t] M 0 0 (zr (.int (if inR t 0 3 then (if A 32 (mN t) = -1 then (-6 : Int32) else 0) else -2)) (fun M' => mW b M0 M' I A L)) := by
  obtain ⟨u, v, w, hA⟩ := hM
  have hT := hB.2.2.2.2.2.2.2.2.1
  have hN6 := hB.2.2.1.2
  have hN25 := hB.2.2.2.2.2.1.2
  have hN26 := hB.2.2.2.2.2.2.1.2
  have hN27 := hB.2.2.2.2.2.2.2.1.2
  have hN1 := hB.1.1.2
  have hN2 := hB.1.2.1.2
  refine am.of (by decide) (Nat.le_of_ble_eq_true rfl) ?_
  refine aj.iload_n dX12_noTray_0 rfl ?_
  refine aj.i2l dX12_noTray_1 ?_
  refine aj.lconst (v := 0) dX12_noTray_2 rfl ?_
  refine aj.ldc2 dX12_noTray_3 w1608 ?_
  refine aj.callS1 (d' := 0) (As := [.long (Int32.toInt64 t), .long 0, .long 3]) (rest := []) dX12_noTray_6 v_X12_142 w1380 rfl rfl (Nat.le_of_ble_eq_true rfl) (Nat.le_of_ble_eq_true rfl) (c_withinI (a := 0) (c := 3) _ t 0 3 rfl rfl) (fun M hM => ?_)
  subst hM
  refine aj.if_neB (tgt := 17) dX12_noTray_9 rfl (fun c9 => ?_) (fun c9 => ?_)
  · have h_t := inR_bd (n := 3) c9 (by decide)
    have h2_t := h_t.2
    refine aj.aload_n dX12_noTray_17 rfl ?_
    refine gM32 rfl dX12_noTray_18 hA ?_
    refine aj.iload_n dX12_noTray_21 rfl ?_
    refine aM32N (i := mN t) dX12_noTray_22 hA h_t.1 (by omega) ?_
    refine aj.iconst (v := (-1)) dX12_noTray_23 rfl ?_
    refine aj.icmp_ne (tgt := 32) dX12_noTray_24 rfl (fun c24 => ?_) (fun c24 => ?_)
    · refine aj.iconst (v := 0) dX12_noTray_32 rfl ?_
      exact aj.iret rfl dX12_noTray_33 ⟨by rw [if_pos c9, if_neg c24], ⟨_, _, _, hA⟩⟩
    · refine aj.bipush (v := (-6)) dX12_noTray_27 rfl ?_
      refine aj.goto (tgt := 33) dX12_noTray_29 rfl ?_
      exact aj.iret rfl dX12_noTray_33 ⟨by rw [if_pos c9, if_pos c24], ⟨_, _, _, hA⟩⟩
  · refine aj.bipush (v := (-2)) dX12_noTray_12 rfl ?_
    refine aj.goto (tgt := 33) dX12_noTray_14 rfl ?_
    exact aj.iret rfl dX12_noTray_33 ⟨by rw [if_neg c9], ⟨_, _, _, hA⟩⟩
theorem toldR_0 {sl ol : Option (List Nat)} {f : Nat → Int64} {n : Nat} {B : Nat → Int32} (h : (toldR sl ol f n 0 B).1 = 0) : (toldR sl ol f n 0 B).2 = B := by
  cases n with
  | zero => rfl
  | succ n =>
    rw [toldR_s] at h ⊢
    split at h
    · have := toldR_le (sl := sl) (ol := ol) (f := f) (n := n) (k := 0 + 1) (B := doB B sl ol (f 0).toInt.toNat)
      omega
    · rename_i q
      rw [if_neg q]
theorem q_perform {G : zG} {l : Launch} {b : Nat} {M0 M : zM} {I : Nat → Int32} {A : Nat → Nat → Int32} {L : Nat → Nat → Int64} (t : Int32) (hM : mW b M0 M I A L) {sl ol : Option (List Nat)} {T : Nat}  (hH : bd (A 1 28) 10) (hTr : ∀ j, j < 4 → bd (A 33 j) 40) (hT40 : T + 40 < 2 ^ 24) (hB : mOK (A 1) sl ol T) : am G l kX12_perform 7 [.ref b, .int t] M 0 0 (zr (.int (if inR t 0 3 then (if A 32 (mN t) = -1 then -6 else nI (toldR sl ol (fun k => L 34 (40 * mN t + k)) (mN (A 33 (mN t))) 0 (A 1)).1) else -2)) (fun M' => ∃ I' A', mW b M0 M' I' A' L ∧ (∀ j, j ≠ 19 → I' j = I j) ∧ A' 1 = (if inR t 0 3 ∧ ¬ A 32 (mN t) = -1 ∧ 0 < (toldR sl ol (fun k => L 34 (40 * mN t + k)) (mN (A 33 (mN t))) 0 (A 1)).1 then noteF (toldR sl ol (fun k => L 34 (40 * mN t + k)) (mN (A 33 (mN t))) 0 (A 1)).2 (stF (A 1)) (mN (A 1 28)) else A 1) ∧ ∀ j : Nat, j ≠ 1 → j ≠ 18 → A' j = A j)) := by
  obtain ⟨u, v, w, hA⟩ := hM
  have hT := hB.2.2.2.2.2.2.2.2.1
  have hN6 := hB.2.2.1.2
  have hN25 := hB.2.2.2.2.2.1.2
  have hN26 := hB.2.2.2.2.2.2.1.2
  have hN27 := hB.2.2.2.2.2.2.2.1.2
  have hN1 := hB.1.1.2
  have hN2 := hB.1.2.1.2
  refine am.of (by decide) (Nat.le_of_ble_eq_true rfl) ?_
  refine aj.aload_n dX12_perform_0 rfl ?_
  refine aj.iconst (v := 0) dX12_perform_1 rfl ?_
  refine pM0 rfl dX12_perform_2 hA (fun M hA => ?_)
  refine aj.aload_n dX12_perform_5 rfl ?_
  refine aj.iload_n dX12_perform_6 rfl ?_
  refine aj.callV1 (d' := 1) (As := [.int t]) (rest := []) dX12_perform_7 v_X12_294 li_X12_noTray hA.1 rfl rfl rfl (Nat.le_of_ble_eq_true rfl) (Nat.le_of_ble_eq_true rfl) (q_noTray t ⟨_, _, _, hA⟩ hB) (fun M hM => ?_)
  obtain ⟨u, v, w, hA⟩ := hM
  refine aj.istore_n (lv' := [(2, .int (if inR t 0 3 then (if A 32 (mN t) = -1 then (-6 : Int32) else 0) else -2)), (0, .ref b), (1, .int t)]) dX12_perform_10 (Nat.le_of_ble_eq_true rfl) rfl ?_
  refine aj.iload_n dX12_perform_11 rfl ?_
  refine aj.if_eq (tgt := 17) dX12_perform_12 rfl (fun c12 => ?_) (fun c12 => ?_)
  · have g1 : inR t 0 3 := Classical.byContradiction fun q => by rw [if_neg q] at c12; exact absurd c12 (by decide)
    have g2 : ¬ A 32 (mN t) = -1 := fun q => by rw [if_pos g1, if_pos q] at c12; exact absurd c12 (by decide)
    have h_t := inR_bd (n := 3) g1 (by decide)
    have h2_t := h_t.2
    have hle := (toldR_le (sl := sl) (ol := ol) (f := fun k => L 34 (40 * mN t + k)) (n := mN (A 33 (mN t))) (k := 0) (B := A 1)).2
    have hm40 := (hTr (mN t) (by omega)).2
    have hS4 := hB.2.2.1.2
    refine aj.aload_n dX12_perform_17 rfl ?_
    refine aj.callV0 (d' := 0) (As := []) (rest := []) dX12_perform_18 v_X12_265 li_X12_stores hA.1 rfl rfl rfl (Nat.le_of_ble_eq_true rfl) (Nat.le_of_ble_eq_true rfl) (c_stores ⟨_, _, _, hA⟩) (fun M hM => ?_)
    obtain ⟨u, v, w, hA⟩ := hM
    refine aj.aload_n dX12_perform_21 rfl ?_
    refine aj.iload_n dX12_perform_22 rfl ?_
    refine aj.callV1 (d' := 6) (As := [.int t]) (rest := []) dX12_perform_23 v_X12_297 li_X12_toldTill hA.1 rfl rfl rfl (Nat.le_of_ble_eq_true rfl) (Nat.le_of_ble_eq_true rfl) (c_toldTill (mN t) h_t.1 (mN (A 33 (mN t))) ⟨_, _, _, hA⟩ hB (by omega) (hTr (mN t) (by omega)).1 (hTr (mN t) (by omega)).2 hT40) (fun M hM => ?_)
    obtain ⟨u, v, w, hA⟩ := hM
    refine aj.istore_n (lv' := [(3, .int (nI ((toldR sl ol (fun k => L 34 (40 * mN t + k)) (mN (A 33 (mN t))) 0 (A 1)).1))), (2, .int (if inR t 0 3 then (if A 32 (mN t) = -1 then (-6 : Int32) else 0) else -2)), (0, .ref b), (1, .int t)]) dX12_perform_26 (Nat.le_of_ble_eq_true rfl) rfl ?_
    refine aj.iload_n dX12_perform_27 rfl ?_
    refine aj.if_leN (a := (toldR sl ol (fun k => L 34 (40 * mN t + k)) (mN (A 33 (mN t))) 0 (A 1)).1) (tgt := 35) dX12_perform_28 rfl (by omega) rfl (fun c28 => ?_) (fun c28 => ?_)
    · refine aj.iload_n dX12_perform_35 rfl ?_
      refine aj.iret rfl dX12_perform_36 ⟨by rw [if_pos g1, if_neg g2], _, _, ⟨_, _, _, hA⟩, fun j h => va_up_ne _ _ h, ?_, fun j h1 h18 => ?_⟩
      · rw [if_neg (fun z => by have := z.2.2; omega)]
        show (toldR sl ol (fun k => L 34 (40 * mN t + k)) (mN (A 33 (mN t))) 0 (A 1)).2 = A 1
        exact toldR_0 c28
      · rw [va_up_ne _ _ h1, va_up_ne _ _ h18]
    · refine aj.aload_n dX12_perform_31 rfl ?_
      refine aj.callV0 (d' := 0) (As := []) (rest := []) dX12_perform_32 v_X12_271 li_X12_notes hA.1 rfl rfl rfl (Nat.le_of_ble_eq_true rfl) (Nat.le_of_ble_eq_true rfl) (c_notes (mN (A 1 28)) ⟨_, _, _, hA⟩ (show (toldR sl ol (fun k => L 34 (40 * mN t + k)) (mN (A 33 (mN t))) 0 (A 1)).2 28 = nI (mN (A 1 28)) from (toldR_k (by omega) hS4).trans hH.1) hH.2) (fun M hM => ?_)
      obtain ⟨u, v, w, hA⟩ := hM
      refine aj.iload_n dX12_perform_35 rfl ?_
      refine aj.iret rfl dX12_perform_36 ⟨by rw [if_pos g1, if_neg g2], _, _, ⟨_, _, _, hA⟩, fun j h => va_up_ne _ _ h, ?_, fun j h1 h18 => ?_⟩
      · rw [if_pos ⟨g1, g2, c28⟩]
        exact noteF_was _ _ _ _
      · rw [va_up_ne _ _ h1, va_up_ne _ _ h1, va_up_ne _ _ h18]
  · refine aj.iload_n dX12_perform_15 rfl ?_
    exact aj.iret rfl dX12_perform_16 ⟨by by_cases c1 : inR t 0 3; (by_cases c2 : A 32 (mN t) = -1; (simp only [if_pos c1, if_pos c2]); exact absurd (by rw [if_pos c1, if_neg c2]) c12); (simp only [if_neg c1]), _, _, ⟨_, _, _, hA⟩, fun _ _ => rfl, by rw [if_neg (fun z => c12 (by rw [if_pos z.1, if_neg z.2.1]))], fun _ _ _ => rfl⟩
