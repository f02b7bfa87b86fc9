theorem lwIs_5 {B : Nat → Int32} {x : Int32} {j : Nat} {y : Option (List Nat)} {t : Bool} {ws : List Nat} (hB : lwIs B j y t ws) : lwIs (upd B 5 x) j y t ws := by
  have h : ∀ k, k ≠ 5 → upd B 5 x k = B k := fun k hk => pk_un hk
  cases y with
  | none => exact (h _ (by omega)).trans hB
  | some cs =>
    obtain ⟨h1, ⟨h2, ⟨fr, h3, h4, h5⟩, h6⟩, h7⟩ := hB
    exact ⟨(h _ (by omega)).trans h1, ⟨(h _ (by omega)).trans h2, ⟨fr, (h _ (by omega)).trans h3, h4, fun k hk => (h _ (by omega)).trans (h5 k hk)⟩, h6⟩, h7⟩
theorem mOK_5 {B : Nat → Int32} {x : Int32} {sl ol : Option (List Nat)} {T : Nat} (hB : mOK B sl ol T) (hx : bd x 99) : mOK (upd B 5 x) sl ol T := by
  obtain ⟨⟨h1, h2, h3⟩, ⟨h4, h5, h6⟩, h7, h8, h9, h10, h11, h12, h13, h14, h15⟩ := hB
  have h : ∀ k, k ≠ 5 → upd B 5 x k = B k := fun k hk => pk_un hk
  refine ⟨⟨?_, ?_, ?_⟩, ⟨?_, ?_, ?_⟩, ?_, ?_, ?_, ?_, ?_, ?_, h13, lwIs_5 h14, lwIs_5 h15⟩
  · rw [h 1 (by omega)]; exact h1
  · rw [h 2 (by omega)]; exact h2
  · rw [h 1 (by omega), h 2 (by omega)]; exact h3
  · rw [h 3 (by omega)]; exact h4
  · rw [h 4 (by omega)]; exact h5
  · rw [pk_us]; exact hx
  · rw [h 6 (by omega)]; exact h7
  · intro s hs; rw [h (13 + s) (by omega)]; exact h8 s hs
  · intro s hs; rw [h (21 + s) (by omega)]; exact h9 s hs
  · rw [h 25 (by omega)]; exact h10
  · rw [h 26 (by omega)]; exact h11
  · rw [h 27 (by omega)]; exact h12
theorem upd_upd (B : Nat → Int32) (k : Nat) (x y : Int32) : upd (upd B k x) k y = upd B k y := by
  funext j
  by_cases e : j = k
  · rw [e, pk_us, pk_us]
  · rw [pk_un e, pk_un e, pk_un e]
theorem upd_self (B : Nat → Int32) (k : Nat) : upd B k (B k) = B := by
  funext j
  by_cases e : j = k
  · rw [e, pk_us]
  · rw [pk_un e]
/-- the last of the first n that is so, -1 if none is -/
def zlast (p : Nat → Prop) [DecidablePred p] : Nat → Int32
  | 0 => -1
  | n + 1 => if p n then nI n else zlast p n
theorem zlast_s (p : Nat → Prop) [DecidablePred p] (n : Nat) : zlast p (n + 1) = if p n then nI n else zlast p n := rfl
/-- by the best aim, a touch costing so much, a touch can be -/
abbrev mDare (B : Nat → Int32) (sl : Option (List Nat)) (s c : Nat) : Prop := 0 < mTch (upd B 5 (nI c)) sl s (mBest (upd B 5 (nI c)) sl s (mN (upd B 5 (nI c) (21 + s))) True 20) 10
theorem dares_loop {G : zG} {l : Launch} {b : Nat} {M0 : zM} {I : Nat → Int32} {A : Nat → Nat → Int32} {L : Nat → Nat → Int64} (s : Nat) {x_s : Int32} (e_s : x_s = nI s) {sl ol : Option (List Nat)} {T : Nat} (hB : mOK (A 1) sl ol T) (hs : s < 4) : ∀ (n i : Nat) (x best : Int32) (M : zM), i + n = 100 → best = zlast (fun c => mDare (A 1) sl s c) i → mW b M0 M I (va_up A 1 (upd (A 1) 5 x)) L → aj G l kX12_dares 6 29 [(4, .int (nI i)), (3, .int best), (2, .int (A 1 5)), (0, .ref b), (1, .int x_s)] [] M 0 0 (zr (.int (zlast (fun c => mDare (A 1) sl s c) 100)) (fun M' => mW b M0 M' I A L)) := by
  intro n
  induction n with
  | zero =>
    intro i x best M hin hbest hM
    obtain ⟨u, v, w, hA⟩ := hM
    refine aj.iload dX12_dares_29 rfl ?_
    refine aj.bipush (v := 100) dX12_dares_31 rfl ?_
    refine aj.icmp_geN (a := i) (b := 100) (tgt := 67) dX12_dares_33 rfl rfl (by omega) (by omega) rfl (fun c33 => ?_) (fun c33 => ?_)
    · refine aj.aload_n dX12_dares_67 rfl ?_
      refine gM1 rfl dX12_dares_68 hA ?_
      refine aj.iconst (v := 5) dX12_dares_71 rfl ?_
      refine aj.iload_n dX12_dares_72 rfl ?_
      refine sM1N (i := 5) dX12_dares_73 hA rfl (by omega) (fun M hA => ?_)
      rw [bx_uu] at hA
      have e5 : upd (upd (A 1) 5 x) 5 (A 1 5) = A 1 := by rw [upd_upd, upd_self]
      replace hA : mA b M0 M I (va_up A 1 (upd (upd (A 1) 5 x) 5 (A 1 5))) L u v w := hA
      rw [e5, va_up_id] at hA
      refine aj.iload_n dX12_dares_74 rfl ?_
      exact aj.iret rfl dX12_dares_75 ⟨by rw [hbest, show i = 100 by omega], u, v, w, hA⟩
    · exact absurd c33 (by omega)
  | succ n ih =>
    intro i x best M hin hbest hM
    obtain ⟨u, v, w, hA⟩ := hM
    refine aj.iload dX12_dares_29 rfl ?_
    refine aj.bipush (v := 100) dX12_dares_31 rfl ?_
    refine aj.icmp_geN (a := i) (b := 100) (tgt := 67) dX12_dares_33 rfl rfl (by omega) (by omega) rfl (fun c33 => ?_) (fun c33 => ?_)
    · exact absurd c33 (by omega)
    · refine aj.aload_n dX12_dares_36 rfl ?_
      refine gM1 rfl dX12_dares_37 hA ?_
      refine aj.iconst (v := 5) dX12_dares_40 rfl ?_
      refine aj.iload dX12_dares_41 rfl ?_
      refine sM1N (i := 5) dX12_dares_43 hA rfl (by omega) (fun M hA => ?_)
      rw [bx_uu] at hA
      replace hA : mA b M0 M I (va_up A 1 (upd (A 1) 5 (nI i))) L u v w := by rw [← upd_upd (A 1) 5 x]; exact hA
      have hB0 := hB
      have hB := mOK_5 (x := nI i) hB (bd_nI (by omega) (by decide))
      have hT := hB.2.2.2.2.2.2.2.2.1
      have hb20 : mBest (upd (A 1) 5 (nI i)) sl s (mN (upd (A 1) 5 (nI i) (21 + s))) True 20 ≤ 20 := zmax_le _ 20
      have ht10 : mTch (upd (A 1) 5 (nI i)) sl s (mBest (upd (A 1) 5 (nI i)) sl s (mN (upd (A 1) 5 (nI i) (21 + s))) True 20) 10 ≤ 10 := zcnt_le _ 10
      refine aj.aload_n dX12_dares_44 rfl ?_
      refine aj.iload_n dX12_dares_45 rfl ?_
      refine aj.aload_n dX12_dares_46 rfl ?_
      refine aj.iload_n dX12_dares_47 rfl ?_
      refine aj.iconst (v := 1) dX12_dares_48 rfl ?_
      refine aj.callV1 (d' := 5) (As := [.int x_s, .int 1]) (rest := [.int x_s, .ref b]) dX12_dares_49 v_X12_333 li_X12_bestNow hA.1 rfl rfl rfl (Nat.le_of_ble_eq_true rfl) (Nat.le_of_ble_eq_true rfl) (c_bestNow s e_s (True) ⟨_, _, _, hA⟩ hB (by omega)) (fun M hM => ?_)
      obtain ⟨u, v, w, hA⟩ := hM
      refine aj.callV1 (d' := 4) (As := [.int x_s, .int (nI (mBest (upd (A 1) 5 (nI i)) sl s (mN (upd (A 1) 5 (nI i) (21 + s))) (True) 20))]) (rest := []) dX12_dares_52 v_X12_330 li_X12_touchesOf hA.1 rfl rfl rfl (Nat.le_of_ble_eq_true rfl) (Nat.le_of_ble_eq_true rfl) (c_touchesOf s e_s (mBest (upd (A 1) 5 (nI i)) sl s (mN (upd (A 1) 5 (nI i) (21 + s))) (True) 20) rfl ⟨_, _, _, hA⟩ hB (by omega) (by omega)) (fun M hM => ?_)
      obtain ⟨u, v, w, hA⟩ := hM
      refine aj.if_leN (a := mTch (upd (A 1) 5 (nI i)) sl s (mBest (upd (A 1) 5 (nI i)) sl s (mN (upd (A 1) 5 (nI i) (21 + s))) (True) 20) 10) (tgt := 61) dX12_dares_55 rfl (by omega) rfl (fun c55 => ?_) (fun c55 => ?_)
      · refine aj.iincN (a := i) (c := 1) (lv' := [(4, .int (nI (i + 1))), (3, .int best), (2, .int (A 1 5)), (0, .ref b), (1, .int x_s)]) dX12_dares_61 rfl (Nat.le_of_ble_eq_true rfl) rfl rfl rfl ?_
        refine aj.goto (tgt := 29) dX12_dares_64 rfl ?_
        refine aj.pick [0, 1, 2, 3, 4] rfl ?_
        exact ih (i + 1) _ _ M (by omega) (by rw [zlast_s, if_neg (fun z : 0 < mTch _ _ _ _ _ => absurd z (by omega)), hbest]) ⟨_, _, _, hA⟩
      · refine aj.iload dX12_dares_58 rfl ?_
        refine aj.istore_n (lv' := [(3, .int (nI i)), (4, .int (nI i)), (2, .int (A 1 5)), (0, .ref b), (1, .int x_s)]) dX12_dares_60 (Nat.le_of_ble_eq_true rfl) rfl ?_
        refine aj.iincN (a := i) (c := 1) (lv' := [(4, .int (nI (i + 1))), (3, .int (nI i)), (2, .int (A 1 5)), (0, .ref b), (1, .int x_s)]) dX12_dares_61 rfl (Nat.le_of_ble_eq_true rfl) rfl rfl rfl ?_
        refine aj.goto (tgt := 29) dX12_dares_64 rfl ?_
        refine aj.pick [0, 1, 2, 3, 4] rfl ?_
        exact ih (i + 1) _ _ M (by omega) (by rw [zlast_s, if_pos (show 0 < mTch _ _ _ _ _ by omega)]) ⟨_, _, _, hA⟩
theorem q_dares {G : zG} {l : Launch} {b : Nat} {M0 M : zM} {I : Nat → Int32} {A : Nat → Nat → Int32} {L : Nat → Nat → Int64} (s : Int32) (hM : mW b M0 M I A L) {sl ol : Option (List Nat)} {T : Nat}  (hB : mOK (A 1) sl ol T) : am G l kX12_dares 6 [.ref b, .int s] M 0 0 (zr (.int (if inR s 0 ((mN (A 1 6) : Int) - 1) then zlast (fun c => mDare (A 1) sl (mN s) c) 100 else -2)) (fun M' => mW b M0 M' I A L)) := by
  obtain ⟨u, v, w, hA⟩ := hM
  have hT := hB.2.2.2.2.2.2.2.2.1
  have hN6 := hB.2.2.1.2
  have hN25 := hB.2.2.2.2.2.1.2
  have hN26 := hB.2.2.2.2.2.2.1.2
  have hN27 := hB.2.2.2.2.2.2.2.1.2
  have hN1 := hB.1.1.2
  have hN2 := hB.1.2.1.2
  refine am.of (by decide) (Nat.le_of_ble_eq_true rfl) ?_
  refine aj.aload_n dX12_dares_0 rfl ?_
  refine aj.iconst (v := 0) dX12_dares_1 rfl ?_
  refine pM0 rfl dX12_dares_2 hA (fun M hA => ?_)
  refine aj.aload_n dX12_dares_5 rfl ?_
  refine aj.iload_n dX12_dares_6 rfl ?_
  refine aj.i2l dX12_dares_7 ?_
  refine aj.callV1 (d' := 1) (As := [.long (Int32.toInt64 s)]) (rest := []) dX12_dares_8 v_X12_236 li_X12_isShooter hA.1 rfl rfl rfl (Nat.le_of_ble_eq_true rfl) (Nat.le_of_ble_eq_true rfl) (c_isShooter s ⟨_, _, _, hA⟩ hB) (fun M hM => ?_)
  obtain ⟨u, v, w, hA⟩ := hM
  refine aj.if_neB (tgt := 17) dX12_dares_11 rfl (fun c11 => ?_) (fun c11 => ?_)
  · have h_s := inR_bdS c11 (by omega)
    have h2_s := h_s.2
    refine aj.aload_n dX12_dares_17 rfl ?_
    refine gM1 rfl dX12_dares_18 hA ?_
    refine aj.iconst (v := 5) dX12_dares_21 rfl ?_
    refine aM1N (i := 5) dX12_dares_22 hA rfl (by omega) ?_
    refine aj.istore_n (lv' := [(2, .int (A 1 5)), (0, .ref b), (1, .int s)]) dX12_dares_23 (Nat.le_of_ble_eq_true rfl) rfl ?_
    refine aj.iconst (v := (-1)) dX12_dares_24 rfl ?_
    refine aj.istore_n (lv' := [(3, .int (-1)), (2, .int (A 1 5)), (0, .ref b), (1, .int s)]) dX12_dares_25 (Nat.le_of_ble_eq_true rfl) rfl ?_
    refine aj.iconst (v := 0) dX12_dares_26 rfl ?_
    refine aj.istore (lv' := [(4, .int 0), (3, .int (-1)), (2, .int (A 1 5)), (0, .ref b), (1, .int s)]) dX12_dares_27 (Nat.le_of_ble_eq_true rfl) rfl ?_
    refine aj.pick [0, 1, 2, 3, 4] rfl ?_
    rw [show (if inR s 0 ((mN (A 1 6) : Int) - 1) then _ else _ : Int32) = _ from if_pos c11]
    exact dares_loop (mN s) h_s.1 hB (by omega) 100 0 (A 1 5) (-1) M (by omega) rfl ⟨_, _, _, by rw [upd_self, va_up_id]; exact hA⟩
  · refine aj.bipush (v := (-2)) dX12_dares_14 rfl ?_
    exact aj.iret rfl dX12_dares_16 ⟨by rw [if_neg c11], ⟨_, _, _, hA⟩⟩
