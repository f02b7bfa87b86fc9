theorem cpy_step {f g : Nat → Int32} {sp dp i : Nat} : upd (va_cpy f g sp dp i) (dp + i) (f (sp + i)) = va_cpy f g sp dp (i + 1) := by
  funext k
  by_cases h : k = dp + i
  · rw [h, pk_us, pk_cpy_in (by omega) (by omega)]
    congr 1
    omega
  · rw [pk_un h]
    by_cases h2 : dp ≤ k ∧ k < dp + i
    · rw [pk_cpy_in h2.1 h2.2, pk_cpy_in h2.1 (by omega)]
    · rw [pk_cpy_out (by omega), pk_cpy_out (by omega)]
theorem cpy_0 {f g : Nat → Int32} {sp dp : Nat} : va_cpy f g sp dp 0 = g := by
  funext k
  exact pk_cpy_out (by omega)
theorem z_fix {f : Nat → Nat} {x k : Nat} (h : f (ziter f k x) = ziter f k x) : ∀ m, ziter f (k + m) x = ziter f k x
  | 0 => rfl
  | m + 1 => by rw [show k + (m + 1) = (k + m) + 1 from rfl, ziter_s, z_fix h m, h]
theorem z_fix21 {f : Nat → Nat} {x k : Nat} (hk : k ≤ 21) (h : f (ziter f k x) = ziter f k x) : f (ziter f 21 x) = ziter f 21 x := by
  have := z_fix h (21 - k)
  rw [show k + (21 - k) = 21 by omega] at this
  rw [this, h]
theorem z_nofix {f : Nat → Nat} {p q x : Nat} (hf : ∀ a, f a = p ∨ f a = q) (h1 : f (ziter f 1 x) ≠ ziter f 1 x) (h2 : f (ziter f 2 x) ≠ ziter f 2 x) : ¬ f (ziter f 21 x) = ziter f 21 x := by
  have e1 : ziter f 2 x = f (ziter f 1 x) := rfl
  have a1 : ziter f 1 x = p ∨ ziter f 1 x = q := hf _
  have a2 : ziter f 2 x = p ∨ ziter f 2 x = q := hf _
  have a3 : ziter f 21 x = p ∨ ziter f 21 x = q := hf _
  generalize ziter f 1 x = y1 at *
  generalize ziter f 2 x = y2 at *
  generalize ziter f 21 x = y at *
  subst e1
  have b1 := hf y1
  have b2 := hf (f y1)
  intro h
  rcases a1 with rfl | rfl <;> rcases a2 with a2 | a2 <;> rcases a3 with rfl | rfl <;> simp_all
theorem rests_loop {G : zG} {l : Launch} {b : Nat} {M0 : zM} {I : Nat → Int32} {A : Nat → Nat → Int32} {L : Nat → Nat → Int64} (s : Nat) {x_s : Int32} (e_s : x_s = nI s) (aim : Nat) {sl ol : Option (List Nat)} {T : Nat} (hB : mOK (A 1) sl ol T) (hs : s < 4) (haim : aim ≤ 20) : ∀ (n i : Nat) (its : Nat) (xi : Int32) (M : zM), i + n = 8 → xi = nI its → its = ziter (mHand (A 1) sl s) i aim → its ≤ 20 → (∀ j, j < i → mHand (A 1) sl s (ziter (mHand (A 1) sl s) j aim) ≠ ziter (mHand (A 1) sl s) j aim) → mW b M0 M I A L → aj G l kX12_rests 6 46 [(6, .int (nI i)), (5, .int (nI (mBest (A 1) sl s (mN (A 1 (21 + s))) (False) 20))), (4, .int (nI (mBest (A 1) sl s (mN (A 1 (21 + s))) (True) 20))), (3, .int xi), (0, .ref b), (1, .int x_s)] [] M 0 0 (zr (.int (zb (mHand (A 1) sl s (ziter (mHand (A 1) sl s) 21 aim) = ziter (mHand (A 1) sl s) 21 aim))) (fun M' => mW b M0 M' I A L)) := by
  have hT := hB.2.2.2.2.2.2.2.2.1
  have hN6 := hB.2.2.1.2
  have hN25 := hB.2.2.2.2.2.1.2
  have hN26 := hB.2.2.2.2.2.2.1.2
  have hN27 := hB.2.2.2.2.2.2.2.1.2
  have hN1 := hB.1.1.2
  have hN2 := hB.1.2.1.2
  have hag := (hB.2.2.2.2.1 s hs).2
  have hbO : mBest (A 1) sl s (mN (A 1 (21 + s))) (True) 20 ≤ 20 := zmax_le _ 20
  have hbS : mBest (A 1) sl s (mN (A 1 (21 + s))) (False) 20 ≤ 20 := zmax_le _ 20
  intro n
  induction n with
  | zero =>
    intro i its xi M hin exi hits hi20 hno hM
    obtain ⟨u, v, w, hA⟩ := hM
    refine aj.iload dX12_rests_46 rfl ?_
    refine aj.bipush (v := 8) dX12_rests_48 rfl ?_
    refine aj.icmp_geN (a := i) (b := 8) (tgt := 88) dX12_rests_50 rfl rfl (by omega) (by omega) rfl (fun c50 => ?_) (fun c50 => ?_)
    · refine aj.iconst (v := 0) dX12_rests_88 rfl ?_
      exact aj.iret rfl dX12_rests_89 ⟨by rw [zb_f (z_nofix (p := mBest (A 1) sl s (mN (A 1 (21 + s))) (True) 20) (q := mBest (A 1) sl s (mN (A 1 (21 + s))) (False) 20) (fun a => by unfold mHand; split; exact Or.inl rfl; exact Or.inr rfl) (hno 1 (by omega)) (hno 2 (by omega)))], _, _, _, hA⟩
    · exact absurd c50 (by omega)
  | succ n ih =>
    intro i its xi M hin exi hits hi20 hno hM
    obtain ⟨u, v, w, hA⟩ := hM
    refine aj.iload dX12_rests_46 rfl ?_
    refine aj.bipush (v := 8) dX12_rests_48 rfl ?_
    refine aj.icmp_geN (a := i) (b := 8) (tgt := 88) dX12_rests_50 rfl rfl (by omega) (by omega) rfl (fun c50 => ?_) (fun c50 => ?_)
    · exact absurd c50 (by omega)
    · refine aj.aload_n dX12_rests_53 rfl ?_
      refine aj.iload_n dX12_rests_54 rfl ?_
      refine aj.iload_n dX12_rests_55 rfl ?_
      refine aj.callV1 (d' := 4) (As := [.int x_s, .int xi]) (rest := []) dX12_rests_56 v_X12_424 li_X12_isRatherOpen hA.1 rfl rfl rfl (Nat.le_of_ble_eq_true rfl) (Nat.le_of_ble_eq_true rfl) (c_isRatherOpen s e_s its exi ⟨_, _, _, hA⟩ hB (by omega) (by omega)) (fun M hM => ?_)
      obtain ⟨u, v, w, hA⟩ := hM
      refine aj.if_eqB (tgt := 67) dX12_rests_59 rfl (fun c59 => ?_) (fun c59 => ?_)
      · refine aj.iload dX12_rests_67 rfl ?_
        refine aj.istore (lv' := [(7, .int (nI (mBest (A 1) sl s (mN (A 1 (21 + s))) (False) 20))), (6, .int (nI i)), (5, .int (nI (mBest (A 1) sl s (mN (A 1 (21 + s))) (False) 20))), (4, .int (nI (mBest (A 1) sl s (mN (A 1 (21 + s))) (True) 20))), (3, .int xi), (0, .ref b), (1, .int x_s)]) dX12_rests_69 (Nat.le_of_ble_eq_true rfl) rfl ?_
        refine aj.iload dX12_rests_71 rfl ?_
        refine aj.iload_n dX12_rests_73 rfl ?_
        refine aj.icmp_neN (a := mBest (A 1) sl s (mN (A 1 (21 + s))) (False) 20) (b := its) (tgt := 79) dX12_rests_74 rfl exi (by omega) (by omega) rfl (fun c74 => ?_) (fun c74 => ?_)
        · refine aj.iload dX12_rests_79 rfl ?_
          refine aj.istore_n (lv' := [(3, .int (nI (mBest (A 1) sl s (mN (A 1 (21 + s))) (False) 20))), (7, .int (nI (mBest (A 1) sl s (mN (A 1 (21 + s))) (False) 20))), (6, .int (nI i)), (5, .int (nI (mBest (A 1) sl s (mN (A 1 (21 + s))) (False) 20))), (4, .int (nI (mBest (A 1) sl s (mN (A 1 (21 + s))) (True) 20))), (0, .ref b), (1, .int x_s)]) dX12_rests_81 (Nat.le_of_ble_eq_true rfl) rfl ?_
          refine aj.iincN (a := i) (c := 1) (lv' := [(6, .int (nI (i + 1))), (3, .int (nI (mBest (A 1) sl s (mN (A 1 (21 + s))) (False) 20))), (7, .int (nI (mBest (A 1) sl s (mN (A 1 (21 + s))) (False) 20))), (5, .int (nI (mBest (A 1) sl s (mN (A 1 (21 + s))) (False) 20))), (4, .int (nI (mBest (A 1) sl s (mN (A 1 (21 + s))) (True) 20))), (0, .ref b), (1, .int x_s)]) dX12_rests_82 rfl (Nat.le_of_ble_eq_true rfl) rfl rfl rfl ?_
          refine aj.goto (tgt := 46) dX12_rests_85 rfl ?_
          refine aj.pick [0, 3, 4, 1, 5, 6] rfl ?_
          exact ih (i + 1) _ _ M (by omega) rfl (by rw [ziter_s, ← hits]; exact (if_neg c59).symm) (by omega) (fun j hj => if e : j = i then (by rw [e, ← hits]; exact fun z => c74 ((if_neg c59).symm.trans z)) else hno j (by omega)) ⟨_, _, _, hA⟩
        · refine aj.iconst (v := 1) dX12_rests_77 rfl ?_
          exact aj.iret rfl dX12_rests_78 ⟨by rw [zb_t (z_fix21 (k := i) (by omega) (by rw [← hits]; exact (if_neg c59).trans c74))], _, _, _, hA⟩
      · refine aj.iload dX12_rests_62 rfl ?_
        refine aj.goto (tgt := 69) dX12_rests_64 rfl ?_
        refine aj.istore (lv' := [(7, .int (nI (mBest (A 1) sl s (mN (A 1 (21 + s))) (True) 20))), (6, .int (nI i)), (5, .int (nI (mBest (A 1) sl s (mN (A 1 (21 + s))) (False) 20))), (4, .int (nI (mBest (A 1) sl s (mN (A 1 (21 + s))) (True) 20))), (3, .int xi), (0, .ref b), (1, .int x_s)]) dX12_rests_69 (Nat.le_of_ble_eq_true rfl) rfl ?_
        refine aj.iload dX12_rests_71 rfl ?_
        refine aj.iload_n dX12_rests_73 rfl ?_
        refine aj.icmp_neN (a := mBest (A 1) sl s (mN (A 1 (21 + s))) (True) 20) (b := its) (tgt := 79) dX12_rests_74 rfl exi (by omega) (by omega) rfl (fun c74 => ?_) (fun c74 => ?_)
        · refine aj.iload dX12_rests_79 rfl ?_
          refine aj.istore_n (lv' := [(3, .int (nI (mBest (A 1) sl s (mN (A 1 (21 + s))) (True) 20))), (7, .int (nI (mBest (A 1) sl s (mN (A 1 (21 + s))) (True) 20))), (6, .int (nI i)), (5, .int (nI (mBest (A 1) sl s (mN (A 1 (21 + s))) (False) 20))), (4, .int (nI (mBest (A 1) sl s (mN (A 1 (21 + s))) (True) 20))), (0, .ref b), (1, .int x_s)]) dX12_rests_81 (Nat.le_of_ble_eq_true rfl) rfl ?_
          refine aj.iincN (a := i) (c := 1) (lv' := [(6, .int (nI (i + 1))), (3, .int (nI (mBest (A 1) sl s (mN (A 1 (21 + s))) (True) 20))), (7, .int (nI (mBest (A 1) sl s (mN (A 1 (21 + s))) (True) 20))), (5, .int (nI (mBest (A 1) sl s (mN (A 1 (21 + s))) (False) 20))), (4, .int (nI (mBest (A 1) sl s (mN (A 1 (21 + s))) (True) 20))), (0, .ref b), (1, .int x_s)]) dX12_rests_82 rfl (Nat.le_of_ble_eq_true rfl) rfl rfl rfl ?_
          refine aj.goto (tgt := 46) dX12_rests_85 rfl ?_
          refine aj.pick [0, 3, 4, 1, 5, 6] rfl ?_
          exact ih (i + 1) _ _ M (by omega) rfl (by rw [ziter_s, ← hits]; exact (if_pos c59).symm) (by omega) (fun j hj => if e : j = i then (by rw [e, ← hits]; exact fun z => c74 ((if_pos c59).symm.trans z)) else hno j (by omega)) ⟨_, _, _, hA⟩
        · refine aj.iconst (v := 1) dX12_rests_77 rfl ?_
          exact aj.iret rfl dX12_rests_78 ⟨by rw [zb_t (z_fix21 (k := i) (by omega) (by rw [← hits]; exact (if_pos c59).trans c74))], _, _, _, hA⟩
theorem q_rests {G : zG} {l : Launch} {b : Nat} {M0 M : zM} {I : Nat → Int32} {A : Nat → Nat → Int32} {L : Nat → Nat → Int64} (s : Int32) (aim : Int32) (hM : mW b M0 M I A L) {sl ol : Option (List Nat)} {T : Nat}  (hB : mOK (A 1) sl ol T) : am G l kX12_rests 6 [.ref b, .int s, .int aim] M 0 0 (zr (.int (if inR s 0 ((mN (A 1 6) : Int) - 1) ∧ inR aim 0 20 then zb (mHand (A 1) sl (mN s) (ziter (mHand (A 1) sl (mN s)) 21 (mN aim)) = ziter (mHand (A 1) sl (mN s)) 21 (mN aim)) else -2)) (fun M' => mW b M0 M' I A L)) := by
  obtain ⟨u, v, w, hA⟩ := hM
  have hT := hB.2.2.2.2.2.2.2.2.1
  have hN6 := hB.2.2.1.2
  have hN25 := hB.2.2.2.2.2.1.2
  have hN26 := hB.2.2.2.2.2.2.1.2
  have hN27 := hB.2.2.2.2.2.2.2.1.2
  have hN1 := hB.1.1.2
  have hN2 := hB.1.2.1.2
  refine am.of (by decide) (Nat.le_of_ble_eq_true rfl) ?_
  refine aj.aload_n dX12_rests_0 rfl ?_
  refine aj.iconst (v := 0) dX12_rests_1 rfl ?_
  refine pM0 rfl dX12_rests_2 hA (fun M hA => ?_)
  refine aj.aload_n dX12_rests_5 rfl ?_
  refine aj.iload_n dX12_rests_6 rfl ?_
  refine aj.i2l dX12_rests_7 ?_
  refine aj.callV1 (d' := 1) (As := [.long (Int32.toInt64 s)]) (rest := []) dX12_rests_8 v_X12_236 li_X12_isShooter hA.1 rfl rfl rfl (Nat.le_of_ble_eq_true rfl) (Nat.le_of_ble_eq_true rfl) (c_isShooter s ⟨_, _, _, hA⟩ hB) (fun M hM => ?_)
  obtain ⟨u, v, w, hA⟩ := hM
  refine aj.if_eqB (tgt := 22) dX12_rests_11 rfl (fun c11 => ?_) (fun c11 => ?_)
  · refine aj.bipush (v := (-2)) dX12_rests_22 rfl ?_
    exact aj.iret rfl dX12_rests_24 ⟨by rw [if_neg (fun z => c11 z.1)], ⟨_, _, _, hA⟩⟩
  · have h_s := inR_bdS c11 (by omega)
    have h2_s := h_s.2
    refine aj.iload_n dX12_rests_14 rfl ?_
    refine aj.i2l dX12_rests_15 ?_
    refine aj.callS1 (d' := 1) (As := [.long (Int32.toInt64 aim)]) (rest := []) dX12_rests_16 v_X12_241 w1506 rfl rfl (Nat.le_of_ble_eq_true rfl) (Nat.le_of_ble_eq_true rfl) (c_isPlaceI _ aim) (fun M hM => ?_)
    subst hM
    refine aj.if_neB (tgt := 25) dX12_rests_19 rfl (fun c19 => ?_) (fun c19 => ?_)
    · have h_aim := inR_bd (n := 20) c19 (by decide)
      have h2_aim := h_aim.2
      refine aj.iload_n dX12_rests_25 rfl ?_
      refine aj.istore_n (lv' := [(3, .int aim), (0, .ref b), (1, .int s), (2, .int aim)]) dX12_rests_26 (Nat.le_of_ble_eq_true rfl) rfl ?_
      refine aj.aload_n dX12_rests_27 rfl ?_
      refine aj.iload_n dX12_rests_28 rfl ?_
      refine aj.iconst (v := 1) dX12_rests_29 rfl ?_
      refine aj.callV1 (d' := 5) (As := [.int s, .int 1]) (rest := []) dX12_rests_30 v_X12_333 li_X12_bestNow hA.1 rfl rfl rfl (Nat.le_of_ble_eq_true rfl) (Nat.le_of_ble_eq_true rfl) (c_bestNow (mN s) h_s.1 (True) ⟨_, _, _, hA⟩ hB (by omega)) (fun M hM => ?_)
      obtain ⟨u, v, w, hA⟩ := hM
      refine aj.istore (lv' := [(4, .int (nI (mBest (A 1) sl (mN s) (mN (A 1 (21 + (mN s)))) (True) 20))), (3, .int aim), (0, .ref b), (1, .int s), (2, .int aim)]) dX12_rests_33 (Nat.le_of_ble_eq_true rfl) rfl ?_
      refine aj.aload_n dX12_rests_35 rfl ?_
      refine aj.iload_n dX12_rests_36 rfl ?_
      refine aj.iconst (v := 0) dX12_rests_37 rfl ?_
      refine aj.callV1 (d' := 5) (As := [.int s, .int 0]) (rest := []) dX12_rests_38 v_X12_333 li_X12_bestNow hA.1 rfl rfl rfl (Nat.le_of_ble_eq_true rfl) (Nat.le_of_ble_eq_true rfl) (c_bestNow (mN s) h_s.1 (False) ⟨_, _, _, hA⟩ hB (by omega)) (fun M hM => ?_)
      obtain ⟨u, v, w, hA⟩ := hM
      refine aj.istore (lv' := [(5, .int (nI (mBest (A 1) sl (mN s) (mN (A 1 (21 + (mN s)))) (False) 20))), (4, .int (nI (mBest (A 1) sl (mN s) (mN (A 1 (21 + (mN s)))) (True) 20))), (3, .int aim), (0, .ref b), (1, .int s), (2, .int aim)]) dX12_rests_41 (Nat.le_of_ble_eq_true rfl) rfl ?_
      refine aj.iconst (v := 0) dX12_rests_43 rfl ?_
      refine aj.istore (lv' := [(6, .int 0), (5, .int (nI (mBest (A 1) sl (mN s) (mN (A 1 (21 + (mN s)))) (False) 20))), (4, .int (nI (mBest (A 1) sl (mN s) (mN (A 1 (21 + (mN s)))) (True) 20))), (3, .int aim), (0, .ref b), (1, .int s), (2, .int aim)]) dX12_rests_44 (Nat.le_of_ble_eq_true rfl) rfl ?_
      refine aj.pick [0, 1, 2, 3, 4, 5] rfl ?_
      rw [if_pos (⟨c11, c19⟩ : _ ∧ _)]
      exact rests_loop (mN s) h_s.1 (mN aim) hB (by omega) h2_aim 8 0 (mN aim) aim M (by omega) h_aim.1 rfl h2_aim (fun j hj => absurd hj (by omega)) ⟨_, _, _, hA⟩
    · refine aj.bipush (v := (-2)) dX12_rests_22 rfl ?_
      exact aj.iret rfl dX12_rests_24 ⟨by rw [if_neg (fun z => c19 z.2)], ⟨_, _, _, hA⟩⟩
theorem stores_loop {G : zG} {l : Launch} {b : Nat} {M0 : zM} {I : Nat → Int32} {A : Nat → Nat → Int32} {L : Nat → Nat → Int64} {Q : Option Value → zM → Prop}   (hk : ∀ M : zM, mW b M0 M I (va_up A 18 (va_cpy (A 1) (A 18) 17 0 11)) L → aj G l kX12_stores 0 29 [(0, .ref b)] [] M 0 0 Q) : ∀ (n i : Nat) (M : zM), i + n = 11 → mW b M0 M I (va_up A 18 (va_cpy (A 1) (A 18) 17 0 i)) L → aj G l kX12_stores 0 2 [(1, .int (nI i)), (0, .ref b)] [] M 0 0 Q := by
  intro n
  induction n with
  | zero =>
    intro i M hin hM
    obtain ⟨u, v, w, hA⟩ := hM
    have hi : i = 11 := by omega
    refine aj.iload_n dX12_stores_2 rfl ?_
    refine aj.bipush (v := 11) dX12_stores_3 rfl ?_
    refine aj.icmp_geN (a := i) (b := 11) (tgt := 29) dX12_stores_5 rfl rfl (by omega) (by omega) rfl (fun c5 => ?_) (fun c5 => ?_)
    · refine aj.pick [1] rfl ?_
      rw [hi] at hA
      exact hk M ⟨_, _, _, hA⟩
    · exact absurd c5 (by omega)
  | succ n ih =>
    intro i M hin hM
    obtain ⟨u, v, w, hA⟩ := hM
    refine aj.iload_n dX12_stores_2 rfl ?_
    refine aj.bipush (v := 11) dX12_stores_3 rfl ?_
    refine aj.icmp_geN (a := i) (b := 11) (tgt := 29) dX12_stores_5 rfl rfl (by omega) (by omega) rfl (fun c5 => ?_) (fun c5 => ?_)
    · exact absurd c5 (by omega)
    · refine aj.aload_n dX12_stores_8 rfl ?_
      refine gM18 rfl dX12_stores_9 hA ?_
      refine aj.iload_n dX12_stores_12 rfl ?_
      refine aj.aload_n dX12_stores_13 rfl ?_
      refine gM1 rfl dX12_stores_14 hA ?_
      refine aj.bipush (v := 17) dX12_stores_17 rfl ?_
      refine aj.iload_n dX12_stores_19 rfl ?_
      refine aj.iaddN (a := 17) (b := i) dX12_stores_20 rfl rfl ?_
      refine aM1N (i := 17 + i) dX12_stores_21 hA rfl (by omega) ?_
      refine sM18N (i := i) dX12_stores_22 hA rfl (by omega) (fun M hA => ?_)
      refine aj.iincN (a := i) (c := 1) (lv' := [(1, .int (nI (i + 1))), (0, .ref b)]) dX12_stores_23 rfl (Nat.le_of_ble_eq_true rfl) rfl rfl rfl ?_
      refine aj.goto (tgt := 2) dX12_stores_26 rfl ?_
      refine aj.pick [0, 1] rfl ?_
      exact ih (i + 1) M (by omega) ⟨_, _, _, by
        rw [bx_uu] at hA
        have e := cpy_step (f := A 1) (g := A 18) (sp := 17) (dp := 0) (i := i)
        rw [← e]
        exact (by rw [Nat.zero_add]; exact hA)⟩
/-- what is stored: points, ages, hurt, wind, minute -/
def wasF (B W : Nat → Int32) : Nat → Int32 := va_cpy B W 17 0 11
def againF (B W : Nat → Int32) : Nat → Int32 := va_cpy W B 0 17 11
/-- what is noted: the stored state behind the others, the first goes if ten are there -/
def noteF (B W : Nat → Int32) (nd : Nat) : Nat → Int32 :=
  if nd = 10 then upd (va_cpy W (upd (va_cpy B B 40 29 99) 28 (nI 9)) 0 128 11) 28 (nI 10) else upd (va_cpy W B 0 (29 + 11 * nd) 11) 28 (nI (nd + 1))
theorem va_up_id {α : Type} (A : Nat → α) (k : Nat) : va_up A k (A k) = A := by
  funext j
  unfold va_up
  split
  · rename_i h; rw [h]
  · rfl
theorem c_stores {G : zG} {l : Launch} {b : Nat} {M0 M : zM} {I : Nat → Int32} {A : Nat → Nat → Int32} {L : Nat → Nat → Int64}  (hM : mW b M0 M I A L)  : am G l kX12_stores 0 [.ref b] M 0 0 (zv (fun M' => mW b M0 M' I (va_up A 18 (wasF (A 1) (A 18))) L)) := by
  obtain ⟨u, v, w, hA⟩ := hM
  refine am.of (by decide) (Nat.le_of_ble_eq_true rfl) ?_
  refine aj.iconst (v := 0) dX12_stores_0 rfl ?_
  refine aj.istore_n (lv' := [(1, .int 0), (0, .ref b)]) dX12_stores_1 (Nat.le_of_ble_eq_true rfl) rfl ?_
  refine aj.pick [0, 1] rfl ?_
  exact stores_loop (fun M hM => aj.vret rfl dX12_stores_29 ⟨rfl, hM⟩) 11 0 M (by omega) (by show mW b M0 M I (va_up A 18 (va_cpy (A 1) (A 18) 17 0 0)) L; rw [cpy_0, va_up_id]; exact ⟨_, _, _, hA⟩)
theorem isAgain_loop {G : zG} {l : Launch} {b : Nat} {M0 : zM} {I : Nat → Int32} {A : Nat → Nat → Int32} {L : Nat → Nat → Int64} {Q : Option Value → zM → Prop}   (hk : ∀ M : zM, mW b M0 M I (va_up A 1 (va_cpy (A 18) (A 1) 0 17 11)) L → aj G l kX12_isAgain 0 29 [(0, .ref b)] [] M 0 0 Q) : ∀ (n i : Nat) (M : zM), i + n = 11 → mW b M0 M I (va_up A 1 (va_cpy (A 18) (A 1) 0 17 i)) L → aj G l kX12_isAgain 0 2 [(1, .int (nI i)), (0, .ref b)] [] M 0 0 Q := by
  intro n
  induction n with
  | zero =>
    intro i M hin hM
    obtain ⟨u, v, w, hA⟩ := hM
    have hi : i = 11 := by omega
    refine aj.iload_n dX12_isAgain_2 rfl ?_
    refine aj.bipush (v := 11) dX12_isAgain_3 rfl ?_
    refine aj.icmp_geN (a := i) (b := 11) (tgt := 29) dX12_isAgain_5 rfl rfl (by omega) (by omega) rfl (fun c5 => ?_) (fun c5 => ?_)
    · refine aj.pick [1] rfl ?_
      rw [hi] at hA
      exact hk M ⟨_, _, _, hA⟩
    · exact absurd c5 (by omega)
  | succ n ih =>
    intro i M hin hM
    obtain ⟨u, v, w, hA⟩ := hM
    refine aj.iload_n dX12_isAgain_2 rfl ?_
    refine aj.bipush (v := 11) dX12_isAgain_3 rfl ?_
    refine aj.icmp_geN (a := i) (b := 11) (tgt := 29) dX12_isAgain_5 rfl rfl (by omega) (by omega) rfl (fun c5 => ?_) (fun c5 => ?_)
    · exact absurd c5 (by omega)
    · refine aj.aload_n dX12_isAgain_8 rfl ?_
      refine gM1 rfl dX12_isAgain_9 hA ?_
      refine aj.bipush (v := 17) dX12_isAgain_12 rfl ?_
      refine aj.iload_n dX12_isAgain_14 rfl ?_
      refine aj.iaddN (a := 17) (b := i) dX12_isAgain_15 rfl rfl ?_
      refine aj.aload_n dX12_isAgain_16 rfl ?_
      refine gM18 rfl dX12_isAgain_17 hA ?_
      refine aj.iload_n dX12_isAgain_20 rfl ?_
      refine aM18N (i := i) dX12_isAgain_21 hA rfl (by omega) ?_
      refine sM1N (i := 17 + i) dX12_isAgain_22 hA rfl (by omega) (fun M hA => ?_)
      refine aj.iincN (a := i) (c := 1) (lv' := [(1, .int (nI (i + 1))), (0, .ref b)]) dX12_isAgain_23 rfl (Nat.le_of_ble_eq_true rfl) rfl rfl rfl ?_
      refine aj.goto (tgt := 2) dX12_isAgain_26 rfl ?_
      refine aj.pick [0, 1] rfl ?_
      exact ih (i + 1) M (by omega) ⟨_, _, _, by
        rw [bx_uu] at hA
        have e := cpy_step (f := A 18) (g := A 1) (sp := 0) (dp := 17) (i := i)
        rw [← e]
        exact (by rw [Nat.zero_add]; exact hA)⟩
theorem c_isAgain {G : zG} {l : Launch} {b : Nat} {M0 M : zM} {I : Nat → Int32} {A : Nat → Nat → Int32} {L : Nat → Nat → Int64}  (hM : mW b M0 M I A L)  : am G l kX12_isAgain 0 [.ref b] M 0 0 (zv (fun M' => mW b M0 M' I (va_up A 1 (againF (A 1) (A 18))) L)) := by
  obtain ⟨u, v, w, hA⟩ := hM
  refine am.of (by decide) (Nat.le_of_ble_eq_true rfl) ?_
  refine aj.iconst (v := 0) dX12_isAgain_0 rfl ?_
  refine aj.istore_n (lv' := [(1, .int 0), (0, .ref b)]) dX12_isAgain_1 (Nat.le_of_ble_eq_true rfl) rfl ?_
  refine aj.pick [0, 1] rfl ?_
  exact isAgain_loop (fun M hM => aj.vret rfl dX12_isAgain_29 ⟨rfl, hM⟩) 11 0 M (by omega) (by show mW b M0 M I (va_up A 1 (va_cpy (A 18) (A 1) 0 17 0)) L; rw [cpy_0, va_up_id]; exact ⟨_, _, _, hA⟩)
theorem notes_l1 {G : zG} {l : Launch} {b : Nat} {M0 : zM} {I : Nat → Int32} {A : Nat → Nat → Int32} {L : Nat → Nat → Int64} {Q : Option Value → zM → Prop}   (hk : ∀ M : zM, mW b M0 M I (va_up A 1 (va_cpy (A 1) (A 1) 40 29 99)) L → aj G l kX12_notes 0 44 [(0, .ref b)] [] M 0 0 Q) : ∀ (n i : Nat) (M : zM), i + n = 99 → mW b M0 M I (va_up A 1 (va_cpy (A 1) (A 1) 40 29 i)) L → aj G l kX12_notes 0 14 [(1, .int (nI i)), (0, .ref b)] [] M 0 0 Q := by
  intro n
  induction n with
  | zero =>
    intro i M hin hM
    obtain ⟨u, v, w, hA⟩ := hM
    have hi : i = 99 := by omega
    refine aj.iload_n dX12_notes_14 rfl ?_
    refine aj.bipush (v := 99) dX12_notes_15 rfl ?_
    refine aj.icmp_geN (a := i) (b := 99) (tgt := 44) dX12_notes_17 rfl rfl (by omega) (by omega) rfl (fun c17 => ?_) (fun c17 => ?_)
    · refine aj.pick [1] rfl ?_
      rw [hi] at hA
      exact hk M ⟨_, _, _, hA⟩
    · exact absurd c17 (by omega)
  | succ n ih =>
    intro i M hin hM
    obtain ⟨u, v, w, hA⟩ := hM
    refine aj.iload_n dX12_notes_14 rfl ?_
    refine aj.bipush (v := 99) dX12_notes_15 rfl ?_
    refine aj.icmp_geN (a := i) (b := 99) (tgt := 44) dX12_notes_17 rfl rfl (by omega) (by omega) rfl (fun c17 => ?_) (fun c17 => ?_)
    · exact absurd c17 (by omega)
    · refine aj.aload_n dX12_notes_20 rfl ?_
      refine gM1 rfl dX12_notes_21 hA ?_
      refine aj.bipush (v := 29) dX12_notes_24 rfl ?_
      refine aj.iload_n dX12_notes_26 rfl ?_
      refine aj.iaddN (a := 29) (b := i) dX12_notes_27 rfl rfl ?_
      refine aj.aload_n dX12_notes_28 rfl ?_
      refine gM1 rfl dX12_notes_29 hA ?_
      refine aj.bipush (v := 40) dX12_notes_32 rfl ?_
      refine aj.iload_n dX12_notes_34 rfl ?_
      refine aj.iaddN (a := 40) (b := i) dX12_notes_35 rfl rfl ?_
      refine aM1N (i := 40 + i) dX12_notes_36 hA rfl (by omega) ?_
      refine sM1N (i := 29 + i) dX12_notes_37 hA rfl (by omega) (fun M hA => ?_)
      refine aj.iincN (a := i) (c := 1) (lv' := [(1, .int (nI (i + 1))), (0, .ref b)]) dX12_notes_38 rfl (Nat.le_of_ble_eq_true rfl) rfl rfl rfl ?_
      refine aj.goto (tgt := 14) dX12_notes_41 rfl ?_
      refine aj.pick [0, 1] rfl ?_
      exact ih (i + 1) M (by omega) ⟨_, _, _, by
        rw [bx_uu] at hA
        have e := cpy_step (f := A 1) (g := A 1) (sp := 40) (dp := 29) (i := i)
        rw [← e]
        exact (by rw [va_up_self, pk_cpy_out (Or.inr (by omega))] at hA; exact hA)⟩
theorem notes_l2 {G : zG} {l : Launch} {b : Nat} {M0 : zM} {I : Nat → Int32} {A : Nat → Nat → Int32} {L : Nat → Nat → Int64} {Q : Option Value → zM → Prop} (nd : Nat) (hnd : A 1 28 = nI nd) (hn9 : nd ≤ 9) (hk : ∀ M : zM, mW b M0 M I (va_up A 1 (va_cpy (A 18) (A 1) 0 (29 + 11 * nd) 11)) L → aj G l kX12_notes 0 95 [(0, .ref b)] [] M 0 0 Q) : ∀ (n i : Nat) (M : zM), i + n = 11 → mW b M0 M I (va_up A 1 (va_cpy (A 18) (A 1) 0 (29 + 11 * nd) i)) L → aj G l kX12_notes 0 57 [(1, .int (nI i)), (0, .ref b)] [] M 0 0 Q := by
  intro n
  induction n with
  | zero =>
    intro i M hin hM
    obtain ⟨u, v, w, hA⟩ := hM
    have hi : i = 11 := by omega
    refine aj.iload_n dX12_notes_57 rfl ?_
    refine aj.bipush (v := 11) dX12_notes_58 rfl ?_
    refine aj.icmp_geN (a := i) (b := 11) (tgt := 95) dX12_notes_60 rfl rfl (by omega) (by omega) rfl (fun c60 => ?_) (fun c60 => ?_)
    · refine aj.pick [1] rfl ?_
      rw [hi] at hA
      exact hk M ⟨_, _, _, hA⟩
    · exact absurd c60 (by omega)
  | succ n ih =>
    intro i M hin hM
    obtain ⟨u, v, w, hA⟩ := hM
    refine aj.iload_n dX12_notes_57 rfl ?_
    refine aj.bipush (v := 11) dX12_notes_58 rfl ?_
    refine aj.icmp_geN (a := i) (b := 11) (tgt := 95) dX12_notes_60 rfl rfl (by omega) (by omega) rfl (fun c60 => ?_) (fun c60 => ?_)
    · exact absurd c60 (by omega)
    · refine aj.aload_n dX12_notes_63 rfl ?_
      refine gM1 rfl dX12_notes_64 hA ?_
      refine aj.bipush (v := 29) dX12_notes_67 rfl ?_
      refine aj.bipush (v := 11) dX12_notes_69 rfl ?_
      refine aj.aload_n dX12_notes_71 rfl ?_
      refine gM1 rfl dX12_notes_72 hA ?_
      refine aj.bipush (v := 28) dX12_notes_75 rfl ?_
      refine aM1N (i := 28) dX12_notes_77 hA rfl (by omega) ?_
      refine aj.imulN (a := 11) (b := nd) dX12_notes_78 rfl ((pk_cpy_out (Or.inl (by omega))).trans hnd) ?_
      refine aj.iaddN (a := 29) (b := 11 * nd) dX12_notes_79 rfl rfl ?_
      refine aj.iload_n dX12_notes_80 rfl ?_
      refine aj.iaddN (a := 29 + (11 * nd)) (b := i) dX12_notes_81 rfl rfl ?_
      refine aj.aload_n dX12_notes_82 rfl ?_
      refine gM18 rfl dX12_notes_83 hA ?_
      refine aj.iload_n dX12_notes_86 rfl ?_
      refine aM18N (i := i) dX12_notes_87 hA rfl (by omega) ?_
      refine sM1N (i := (29 + (11 * nd)) + i) dX12_notes_88 hA rfl (by omega) (fun M hA => ?_)
      refine aj.iincN (a := i) (c := 1) (lv' := [(1, .int (nI (i + 1))), (0, .ref b)]) dX12_notes_89 rfl (Nat.le_of_ble_eq_true rfl) rfl rfl rfl ?_
      refine aj.goto (tgt := 57) dX12_notes_92 rfl ?_
      refine aj.pick [0, 1] rfl ?_
      exact ih (i + 1) M (by omega) ⟨_, _, _, by
        rw [bx_uu] at hA
        have e := cpy_step (f := A 18) (g := A 1) (sp := 0) (dp := 29 + 11 * nd) (i := i)
        rw [← e]
        exact (by rw [Nat.zero_add]; exact hA)⟩
theorem notes_end {G : zG} {l : Launch} {b : Nat} {M0 : zM} {I : Nat → Int32} {A : Nat → Nat → Int32} {L : Nat → Nat → Int64} {P : zM → Prop} (nd : Nat) (hnd : A 1 28 = nI nd) (hn9 : nd ≤ 9) (hq : ∀ M, mW b M0 M I (va_up A 1 (upd (A 1) 28 (nI (nd + 1)))) L → P M) (M : zM) (hM : mW b M0 M I A L) : aj G l kX12_notes 0 95 [(0, .ref b)] [] M 0 0 (zv P) := by
  obtain ⟨u, v, w, hA⟩ := hM
  refine aj.aload_n dX12_notes_95 rfl ?_
  refine gM1 rfl dX12_notes_96 hA ?_
  refine aj.bipush (v := 28) dX12_notes_99 rfl ?_
  refine aj.dup2 dX12_notes_101 rfl rfl ?_
  refine aM1N (i := 28) dX12_notes_102 hA rfl (by omega) ?_
  refine aj.iconst (v := 1) dX12_notes_103 rfl ?_
  refine aj.iaddN (a := nd) (b := 1) dX12_notes_104 hnd rfl ?_
  refine sM1N (i := 28) dX12_notes_105 hA rfl (by omega) (fun M hA => ?_)
  exact aj.vret rfl dX12_notes_106 ⟨rfl, hq M ⟨_, _, _, hA⟩⟩
theorem notes_mid {G : zG} {l : Launch} {b : Nat} {M0 : zM} {I : Nat → Int32} {A : Nat → Nat → Int32} {L : Nat → Nat → Int64} {P : zM → Prop} (nd : Nat) (hnd : A 1 28 = nI nd) (hn9 : nd ≤ 9) (hq : ∀ M, mW b M0 M I (va_up A 1 (upd (va_cpy (A 18) (A 1) 0 (29 + 11 * nd) 11) 28 (nI (nd + 1)))) L → P M) (M : zM) (hM : mW b M0 M I A L) : aj G l kX12_notes 0 55 [(0, .ref b)] [] M 0 0 (zv P) := by
  obtain ⟨u, v, w, hA⟩ := hM
  refine aj.iconst (v := 0) dX12_notes_55 rfl ?_
  refine aj.istore_n (lv' := [(1, .int 0), (0, .ref b)]) dX12_notes_56 (Nat.le_of_ble_eq_true rfl) rfl ?_
  refine aj.pick [0, 1] rfl ?_
  have h28 : va_cpy (A 18) (A 1) 0 (29 + 11 * nd) 11 28 = nI nd := by rw [pk_cpy_out (Or.inl (by omega))]; exact hnd
  refine notes_l2 nd hnd hn9 (fun M hM => notes_end nd h28 hn9 (fun M hM => hq M ?_) M hM) 11 0 M (by omega) (by show mW b M0 M I (va_up A 1 (va_cpy (A 18) (A 1) 0 (29 + 11 * nd) 0)) L; rw [cpy_0, va_up_id]; exact ⟨_, _, _, hA⟩)
  rw [bx_uu] at hM
  exact hM
theorem notes_dec {G : zG} {l : Launch} {b : Nat} {M0 : zM} {I : Nat → Int32} {A : Nat → Nat → Int32} {L : Nat → Nat → Int64} {P : zM → Prop} {nd : Nat} (h10 : nd = 10) (hnd : A 1 28 = nI nd) (hq : ∀ M, mW b M0 M I (va_up (va_up A 1 (upd (A 1) 28 (nI 9))) 1 (upd (va_cpy (A 18) (upd (A 1) 28 (nI 9)) 0 128 11) 28 (nI 10))) L → P M) (M : zM) (hM : mW b M0 M I A L) : aj G l kX12_notes 0 44 [(0, .ref b)] [] M 0 0 (zv P) := by
  subst h10
  obtain ⟨u, v, w, hA⟩ := hM
  refine aj.aload_n dX12_notes_44 rfl ?_
  refine gM1 rfl dX12_notes_45 hA ?_
  refine aj.bipush (v := 28) dX12_notes_48 rfl ?_
  refine aj.dup2 dX12_notes_50 rfl rfl ?_
  refine aM1N (i := 28) dX12_notes_51 hA rfl (by omega) ?_
  refine aj.iconst (v := 1) dX12_notes_52 rfl ?_
  refine aj.isubN (a := 10) (b := 1) dX12_notes_53 hnd rfl (by omega) ?_
  refine sM1N (i := 28) dX12_notes_54 hA rfl (by omega) (fun M hA => ?_)
  exact notes_mid 9 rfl (by omega) hq M ⟨_, _, _, hA⟩
theorem c_notes {G : zG} {l : Launch} {b : Nat} {M0 M : zM} {I : Nat → Int32} {A : Nat → Nat → Int32} {L : Nat → Nat → Int64} (nd : Nat) (hM : mW b M0 M I A L) (hnd : A 1 28 = nI nd) (hn : nd ≤ 10) : am G l kX12_notes 0 [.ref b] M 0 0 (zv (fun M' => mW b M0 M' I (va_up A 1 (noteF (A 1) (A 18) nd)) L)) := by
  obtain ⟨u, v, w, hA⟩ := hM
  refine am.of (by decide) (Nat.le_of_ble_eq_true rfl) ?_
  refine aj.aload_n dX12_notes_0 rfl ?_
  refine gM1 rfl dX12_notes_1 hA ?_
  refine aj.bipush (v := 28) dX12_notes_4 rfl ?_
  refine aM1N (i := 28) dX12_notes_6 hA rfl (by omega) ?_
  refine aj.bipush (v := 10) dX12_notes_7 rfl ?_
  refine aj.icmp_neN (a := nd) (b := 10) (tgt := 55) dX12_notes_9 hnd rfl (by omega) (by omega) rfl (fun c9 => ?_) (fun c9 => ?_)
  · refine notes_mid nd hnd (by omega) (fun M hM => ?_) M ⟨_, _, _, hA⟩
    unfold noteF
    rw [if_neg (by omega)]
    exact hM
  · refine aj.iconst (v := 0) dX12_notes_12 rfl ?_
    refine aj.istore_n (lv' := [(1, .int 0), (0, .ref b)]) dX12_notes_13 (Nat.le_of_ble_eq_true rfl) rfl ?_
    refine aj.pick [0, 1] rfl ?_
    refine notes_l1 (fun M hM => ?_) 99 0 M (by omega) (by show mW b M0 M I (va_up A 1 (va_cpy (A 1) (A 1) 40 29 0)) L; rw [cpy_0, va_up_id]; exact ⟨_, _, _, hA⟩)
    obtain ⟨u, v, w, hA⟩ := hM
    have h28 : va_cpy (A 1) (A 1) 40 29 99 28 = nI nd := by rw [pk_cpy_out (Or.inl (by omega))]; exact hnd
    exact notes_dec (A := va_up A 1 (va_cpy (A 1) (A 1) 40 29 99)) (M0 := M0) (I := I) (L := L) (nd := nd) (by omega) h28 (fun M hM => by unfold noteF; rw [if_pos c9]; rw [bx_uu, bx_uu] at hM; exact hM) M ⟨_, _, _, hA⟩
