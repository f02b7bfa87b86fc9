def zbits (f : Nat → Prop) [DecidablePred f] : Nat → Int32
  | 0 => 0
  | n + 1 => if f n then zbits f n ||| (1 <<< (nI n &&& 31)) else zbits f n
theorem zbits_s (f : Nat → Prop) [DecidablePred f] (n : Nat) : zbits f (n + 1) = if f n then zbits f n ||| (1 <<< (nI n &&& 31)) else zbits f n := rfl
/-- the first n aims that are so, by which most comes out; none if none is so -/
def zedge (p : Nat → Prop) [DecidablePred p] (f : Nat → Int32) : Nat → Option Nat
  | 0 => none
  | n + 1 => if p n then (match zedge p f n with
    | none => some n
    | some k => if f n ≤ f k then some k else some n) else zedge p f n
def zfirst (p : Nat → Prop) [DecidablePred p] : Nat → Nat → Option Nat
  | 0, _ => none
  | n + 1, i => if p i then some i else zfirst p n (i + 1)
theorem z_or0 (x : Int32) : x ||| 0 = x := by simp
theorem q_touches {G : zG} {l : Launch} {b : Nat} {M0 M : zM} {I : Nat → Int32} {A : Nat → Nat → Int32} {L : Nat → Nat → Int64} (s : Int32) (aim : Int32) (hM : mW b M0 M I A L) {sl ol : Option (List Nat)} {T : Nat}  (hB : mOK (A 1) sl ol T) : am G l kX12_touches 5 [.ref b, .int s, .int aim] M 0 0 (zr (.int (if inR s 0 ((mN (A 1 6) : Int) - 1) ∧ inR aim 0 20 then nI (mTch (A 1) sl (mN s) (mN aim) 10) else -2)) (fun M' => mW b M0 M' I A L)) := by
  obtain ⟨u, v, w, hA⟩ := hM
  have hT := hB.2.2.2.2.2.2.2.2.1
  have hN6 := hB.2.2.1.2
  have hN25 := hB.2.2.2.2.2.1.2
  have hN26 := hB.2.2.2.2.2.2.1.2
  have hN27 := hB.2.2.2.2.2.2.2.1.2
  have hN1 := hB.1.1.2
  have hN2 := hB.1.2.1.2
  refine am.of (by decide) (Nat.le_of_ble_eq_true rfl) ?_
  refine aj.aload_n dX12_touches_0 rfl ?_
  refine aj.iconst (v := 0) dX12_touches_1 rfl ?_
  refine pM0 rfl dX12_touches_2 hA (fun M hA => ?_)
  refine aj.aload_n dX12_touches_5 rfl ?_
  refine aj.iload_n dX12_touches_6 rfl ?_
  refine aj.i2l dX12_touches_7 ?_
  refine aj.callV1 (d' := 1) (As := [.long (Int32.toInt64 s)]) (rest := []) dX12_touches_8 v_X12_236 li_X12_isShooter hA.1 rfl rfl rfl (Nat.le_of_ble_eq_true rfl) (Nat.le_of_ble_eq_true rfl) (c_isShooter s ⟨_, _, _, hA⟩ hB) (fun M hM => ?_)
  obtain ⟨u, v, w, hA⟩ := hM
  refine aj.if_eqB (tgt := 31) dX12_touches_11 rfl (fun c11 => ?_) (fun c11 => ?_)
  · refine aj.bipush (v := (-2)) dX12_touches_31 rfl ?_
    exact aj.iret rfl dX12_touches_33 ⟨by rw [if_neg (fun q => c11 q.1)], ⟨_, _, _, hA⟩⟩
  · have h_s := inR_bdS c11 (by omega)
    have h2_s := h_s.2
    refine aj.iload_n dX12_touches_14 rfl ?_
    refine aj.i2l dX12_touches_15 ?_
    refine aj.callS1 (d' := 1) (As := [.long (Int32.toInt64 aim)]) (rest := []) dX12_touches_16 v_X12_241 w1506 rfl rfl (Nat.le_of_ble_eq_true rfl) (Nat.le_of_ble_eq_true rfl) (c_isPlaceI _ aim) (fun M hM => ?_)
    subst hM
    refine aj.if_eqB (tgt := 31) dX12_touches_19 rfl (fun c19 => ?_) (fun c19 => ?_)
    · refine aj.bipush (v := (-2)) dX12_touches_31 rfl ?_
      exact aj.iret rfl dX12_touches_33 ⟨by rw [if_neg (fun q => c19 q.2)], ⟨_, _, _, hA⟩⟩
    · have h_aim := inR_bd (n := 20) c19 (by decide)
      have h2_aim := h_aim.2
      refine aj.aload_n dX12_touches_22 rfl ?_
      refine aj.iload_n dX12_touches_23 rfl ?_
      refine aj.iload_n dX12_touches_24 rfl ?_
      refine aj.callV1 (d' := 4) (As := [.int s, .int aim]) (rest := []) dX12_touches_25 v_X12_330 li_X12_touchesOf hA.1 rfl rfl rfl (Nat.le_of_ble_eq_true rfl) (Nat.le_of_ble_eq_true rfl) (c_touchesOf (mN s) h_s.1 (mN aim) h_aim.1 ⟨_, _, _, hA⟩ hB (by omega) (by omega)) (fun M hM => ?_)
      obtain ⟨u, v, w, hA⟩ := hM
      refine aj.goto (tgt := 33) dX12_touches_28 rfl ?_
      exact aj.iret rfl dX12_touches_33 ⟨by rw [if_pos ⟨c11, c19⟩], ⟨_, _, _, hA⟩⟩
theorem q_bestAim {G : zG} {l : Launch} {b : Nat} {M0 M : zM} {I : Nat → Int32} {A : Nat → Nat → Int32} {L : Nat → Nat → Int64} (s : Int32) (hM : mW b M0 M I A L) {sl ol : Option (List Nat)} {T : Nat}  (hB : mOK (A 1) sl ol T) : am G l kX12_bestAim 6 [.ref b, .int s] M 0 0 (zr (.int (if inR s 0 ((mN (A 1 6) : Int) - 1) then nI (mBest (A 1) sl (mN s) (mN (A 1 (21 + mN s))) (mOpen ol (mN (A 1 26)) (mN (A 1 27)) (mN (A 1 25)) = true) 20) else -2)) (fun M' => mW b M0 M' I A L)) := by
  obtain ⟨u, v, w, hA⟩ := hM
  have hT := hB.2.2.2.2.2.2.2.2.1
  have hN6 := hB.2.2.1.2
  have hN25 := hB.2.2.2.2.2.1.2
  have hN26 := hB.2.2.2.2.2.2.1.2
  have hN27 := hB.2.2.2.2.2.2.2.1.2
  have hN1 := hB.1.1.2
  have hN2 := hB.1.2.1.2
  refine am.of (by decide) (Nat.le_of_ble_eq_true rfl) ?_
  refine aj.aload_n dX12_bestAim_0 rfl ?_
  refine aj.iconst (v := 0) dX12_bestAim_1 rfl ?_
  refine pM0 rfl dX12_bestAim_2 hA (fun M hA => ?_)
  refine aj.aload_n dX12_bestAim_5 rfl ?_
  refine aj.iload_n dX12_bestAim_6 rfl ?_
  refine aj.i2l dX12_bestAim_7 ?_
  refine aj.callV1 (d' := 1) (As := [.long (Int32.toInt64 s)]) (rest := []) dX12_bestAim_8 v_X12_236 li_X12_isShooter hA.1 rfl rfl rfl (Nat.le_of_ble_eq_true rfl) (Nat.le_of_ble_eq_true rfl) (c_isShooter s ⟨_, _, _, hA⟩ hB) (fun M hM => ?_)
  obtain ⟨u, v, w, hA⟩ := hM
  refine aj.if_eqB (tgt := 26) dX12_bestAim_11 rfl (fun c11 => ?_) (fun c11 => ?_)
  · refine aj.bipush (v := (-2)) dX12_bestAim_26 rfl ?_
    exact aj.iret rfl dX12_bestAim_28 ⟨by rw [if_neg c11], ⟨_, _, _, hA⟩⟩
  · have h_s := inR_bdS c11 (by omega)
    have h2_s := h_s.2
    refine aj.aload_n dX12_bestAim_14 rfl ?_
    refine aj.iload_n dX12_bestAim_15 rfl ?_
    refine aj.aload_n dX12_bestAim_16 rfl ?_
    refine aj.callV1 (d' := 3) (As := []) (rest := [.int s, .ref b]) dX12_bestAim_17 v_X12_250 li_X12_isOpenNow hA.1 rfl rfl rfl (Nat.le_of_ble_eq_true rfl) (Nat.le_of_ble_eq_true rfl) (c_isOpenNow ⟨_, _, _, hA⟩ hB) (fun M hM => ?_)
    obtain ⟨u, v, w, hA⟩ := hM
    refine aj.callV1 (d' := 5) (As := [.int s, .int (zb (mOpen ol (mN (A 1 26)) (mN (A 1 27)) (mN (A 1 25)) = true))]) (rest := []) dX12_bestAim_20 v_X12_333 li_X12_bestNow hA.1 rfl rfl rfl (Nat.le_of_ble_eq_true rfl) (Nat.le_of_ble_eq_true rfl) (c_bestNow (mN s) h_s.1 (mOpen ol (mN (A 1 26)) (mN (A 1 27)) (mN (A 1 25)) = true) ⟨_, _, _, hA⟩ hB (by omega)) (fun M hM => ?_)
    obtain ⟨u, v, w, hA⟩ := hM
    refine aj.goto (tgt := 28) dX12_bestAim_23 rfl ?_
    exact aj.iret rfl dX12_bestAim_28 ⟨by rw [if_pos c11], ⟨_, _, _, hA⟩⟩
theorem careful_loop {G : zG} {l : Launch} {b : Nat} {M0 : zM} {I : Nat → Int32} {A : Nat → Nat → Int32} {L : Nat → Nat → Int64} (s : Nat) {x_s : Int32} (e_s : x_s = nI s) {sl ol : Option (List Nat)} {T : Nat} (hB : mOK (A 1) sl ol T) (hs : s < 4) : ∀ (n i : Nat) (acc : Int32) (M : zM), i + n = 21 → acc = zbits (fun a => mTch (A 1) sl s a 10 = 0) i → mW b M0 M I A L → aj G l kX12_careful 5 21 [(3, .int (nI i)), (2, .int acc), (0, .ref b), (1, .int x_s)] [] M 0 0 (zr (.int (zbits (fun a => mTch (A 1) sl s a 10 = 0) 21)) (fun M' => mW b M0 M' I A L)) := by
  have hT := hB.2.2.2.2.2.2.2.2.1
  have hN6 := hB.2.2.1.2
  have hN25 := hB.2.2.2.2.2.1.2
  have hN26 := hB.2.2.2.2.2.2.1.2
  have hN27 := hB.2.2.2.2.2.2.2.1.2
  have hN1 := hB.1.1.2
  have hN2 := hB.1.2.1.2
  intro n
  induction n with
  | zero =>
    intro i acc M hin hacc hM
    obtain ⟨u, v, w, hA⟩ := hM
    refine aj.iload_n dX12_careful_21 rfl ?_
    refine aj.bipush (v := 21) dX12_careful_22 rfl ?_
    refine aj.icmp_geN (a := i) (b := 21) (tgt := 52) dX12_careful_24 rfl rfl (by omega) (by omega) rfl (fun c24 => ?_) (fun c24 => ?_)
    · refine aj.iload_n dX12_careful_52 rfl ?_
      exact aj.iret rfl dX12_careful_53 ⟨by rw [hacc, show i = 21 by omega], _, _, _, hA⟩
    · exact absurd c24 (by omega)
  | succ n ih =>
    intro i acc M hin hacc hM
    obtain ⟨u, v, w, hA⟩ := hM
    have hle : mTch (A 1) sl s i 10 ≤ 10 := zcnt_le _ 10
    refine aj.iload_n dX12_careful_21 rfl ?_
    refine aj.bipush (v := 21) dX12_careful_22 rfl ?_
    refine aj.icmp_geN (a := i) (b := 21) (tgt := 52) dX12_careful_24 rfl rfl (by omega) (by omega) rfl (fun c24 => ?_) (fun c24 => ?_)
    · exact absurd c24 (by omega)
    · refine aj.iload_n dX12_careful_27 rfl ?_
      refine aj.aload_n dX12_careful_28 rfl ?_
      refine aj.iload_n dX12_careful_29 rfl ?_
      refine aj.iload_n dX12_careful_30 rfl ?_
      refine aj.callV1 (d' := 4) (As := [.int x_s, .int (nI i)]) (rest := [.int acc]) dX12_careful_31 v_X12_330 li_X12_touchesOf hA.1 rfl rfl rfl (Nat.le_of_ble_eq_true rfl) (Nat.le_of_ble_eq_true rfl) (c_touchesOf s e_s i rfl ⟨_, _, _, hA⟩ hB (by omega) (by omega)) (fun M hM => ?_)
      obtain ⟨u, v, w, hA⟩ := hM
      refine aj.if_neN (a := mTch (A 1) sl s i 10) (tgt := 43) dX12_careful_34 rfl (by omega) rfl (fun c34 => ?_) (fun c34 => ?_)
      · refine aj.iconst (v := 0) dX12_careful_43 rfl ?_
        refine aj.ior dX12_careful_44 ?_
        refine aj.istore_n (lv' := [(2, .int (acc ||| 0)), (3, .int (nI i)), (0, .ref b), (1, .int x_s)]) dX12_careful_45 (Nat.le_of_ble_eq_true rfl) rfl ?_
        refine aj.iincN (a := i) (c := 1) (lv' := [(3, .int (nI (i + 1))), (2, .int (acc ||| 0)), (0, .ref b), (1, .int x_s)]) dX12_careful_46 rfl (Nat.le_of_ble_eq_true rfl) rfl rfl rfl ?_
        refine aj.goto (tgt := 21) dX12_careful_49 rfl ?_
        refine aj.pick [0, 1, 2, 3] rfl ?_
        exact ih (i + 1) _ M (by omega) (by rw [hacc, z_or0, zbits_s, if_neg c34]) ⟨_, _, _, hA⟩
      · refine aj.iconst (v := 1) dX12_careful_37 rfl ?_
        refine aj.iload_n dX12_careful_38 rfl ?_
        refine aj.ishl dX12_careful_39 ?_
        refine aj.goto (tgt := 44) dX12_careful_40 rfl ?_
        refine aj.ior dX12_careful_44 ?_
        refine aj.istore_n (lv' := [(2, .int (acc ||| (1 <<< ((nI i) &&& 31)))), (3, .int (nI i)), (0, .ref b), (1, .int x_s)]) dX12_careful_45 (Nat.le_of_ble_eq_true rfl) rfl ?_
        refine aj.iincN (a := i) (c := 1) (lv' := [(3, .int (nI (i + 1))), (2, .int (acc ||| (1 <<< ((nI i) &&& 31)))), (0, .ref b), (1, .int x_s)]) dX12_careful_46 rfl (Nat.le_of_ble_eq_true rfl) rfl rfl rfl ?_
        refine aj.goto (tgt := 21) dX12_careful_49 rfl ?_
        refine aj.pick [0, 1, 2, 3] rfl ?_
        exact ih (i + 1) _ M (by omega) (by rw [hacc, zbits_s, if_pos c34]) ⟨_, _, _, hA⟩
theorem q_careful {G : zG} {l : Launch} {b : Nat} {M0 M : zM} {I : Nat → Int32} {A : Nat → Nat → Int32} {L : Nat → Nat → Int64} (s : Int32) (hM : mW b M0 M I A L) {sl ol : Option (List Nat)} {T : Nat}  (hB : mOK (A 1) sl ol T) : am G l kX12_careful 5 [.ref b, .int s] M 0 0 (zr (.int (if inR s 0 ((mN (A 1 6) : Int) - 1) then zbits (fun a => mTch (A 1) sl (mN s) a 10 = 0) 21 else -2)) (fun M' => mW b M0 M' I A L)) := by
  obtain ⟨u, v, w, hA⟩ := hM
  have hT := hB.2.2.2.2.2.2.2.2.1
  have hN6 := hB.2.2.1.2
  have hN25 := hB.2.2.2.2.2.1.2
  have hN26 := hB.2.2.2.2.2.2.1.2
  have hN27 := hB.2.2.2.2.2.2.2.1.2
  have hN1 := hB.1.1.2
  have hN2 := hB.1.2.1.2
  refine am.of (by decide) (Nat.le_of_ble_eq_true rfl) ?_
  refine aj.aload_n dX12_careful_0 rfl ?_
  refine aj.iconst (v := 0) dX12_careful_1 rfl ?_
  refine pM0 rfl dX12_careful_2 hA (fun M hA => ?_)
  refine aj.aload_n dX12_careful_5 rfl ?_
  refine aj.iload_n dX12_careful_6 rfl ?_
  refine aj.i2l dX12_careful_7 ?_
  refine aj.callV1 (d' := 1) (As := [.long (Int32.toInt64 s)]) (rest := []) dX12_careful_8 v_X12_236 li_X12_isShooter hA.1 rfl rfl rfl (Nat.le_of_ble_eq_true rfl) (Nat.le_of_ble_eq_true rfl) (c_isShooter s ⟨_, _, _, hA⟩ hB) (fun M hM => ?_)
  obtain ⟨u, v, w, hA⟩ := hM
  refine aj.if_neB (tgt := 17) dX12_careful_11 rfl (fun c11 => ?_) (fun c11 => ?_)
  · have h_s := inR_bdS c11 (by omega)
    have h2_s := h_s.2
    refine aj.iconst (v := 0) dX12_careful_17 rfl ?_
    refine aj.istore_n (lv' := [(2, .int 0), (0, .ref b), (1, .int s)]) dX12_careful_18 (Nat.le_of_ble_eq_true rfl) rfl ?_
    refine aj.iconst (v := 0) dX12_careful_19 rfl ?_
    refine aj.istore_n (lv' := [(3, .int 0), (2, .int 0), (0, .ref b), (1, .int s)]) dX12_careful_20 (Nat.le_of_ble_eq_true rfl) rfl ?_
    refine aj.pick [0, 1, 2, 3] rfl ?_
    rw [show (if inR s 0 ((mN (A 1 6) : Int) - 1) then _ else _ : Int32) = _ from if_pos c11]
    exact careful_loop (mN s) h_s.1 hB (by omega) 21 0 0 M (by omega) rfl ⟨_, _, _, hA⟩
  · refine aj.bipush (v := (-2)) dX12_careful_14 rfl ?_
    exact aj.iret rfl dX12_careful_16 ⟨by rw [if_neg c11], ⟨_, _, _, hA⟩⟩
theorem greedy_loop {G : zG} {l : Launch} {b : Nat} {M0 : zM} {I : Nat → Int32} {A : Nat → Nat → Int32} {L : Nat → Nat → Int64} {sl ol : Option (List Nat)} {T : Nat} (hB : mOK (A 1) sl ol T) : ∀ (n i : Nat) (acc : Int32) (M : zM), i + n = mN (A 1 6) → acc = zbits (fun t => 0 < mTch (A 1) sl t (mBest (A 1) sl t (mN (A 1 (21 + t))) False 20) 10) i → mW b M0 M I A L → aj G l kX12_greedy 6 9 [(2, .int (nI i)), (1, .int acc), (0, .ref b)] [] M 0 0 (zr (.int (zbits (fun t => 0 < mTch (A 1) sl t (mBest (A 1) sl t (mN (A 1 (21 + t))) False 20) 10) (mN (A 1 6)))) (fun M' => mW b M0 M' I A L)) := by
  have hT := hB.2.2.2.2.2.2.2.2.1
  have hN6 := hB.2.2.1.2
  have hN25 := hB.2.2.2.2.2.1.2
  have hN26 := hB.2.2.2.2.2.2.1.2
  have hN27 := hB.2.2.2.2.2.2.2.1.2
  have hN1 := hB.1.1.2
  have hN2 := hB.1.2.1.2
  intro n
  induction n with
  | zero =>
    intro i acc M hin hacc hM
    obtain ⟨u, v, w, hA⟩ := hM
    refine aj.iload_n dX12_greedy_9 rfl ?_
    refine aj.aload_n dX12_greedy_10 rfl ?_
    refine gM1 rfl dX12_greedy_11 hA ?_
    refine aj.bipush (v := 6) dX12_greedy_14 rfl ?_
    refine aM1N (i := 6) dX12_greedy_16 hA rfl (by omega) ?_
    refine aj.icmp_geN (a := i) (b := mN (A 1 6)) (tgt := 50) dX12_greedy_17 rfl hB.2.2.1.1 (by omega) (by omega) rfl (fun c17 => ?_) (fun c17 => ?_)
    · refine aj.iload_n dX12_greedy_50 rfl ?_
      exact aj.iret rfl dX12_greedy_51 ⟨by rw [hacc, show i = mN (A 1 6) by omega], _, _, _, hA⟩
    · exact absurd c17 (by omega)
  | succ n ih =>
    intro i acc M hin hacc hM
    obtain ⟨u, v, w, hA⟩ := hM
    have hle : mTch (A 1) sl i (mBest (A 1) sl i (mN (A 1 (21 + i))) (False) 20) 10 ≤ 10 := zcnt_le _ 10
    have hle2 : mBest (A 1) sl i (mN (A 1 (21 + i))) (False) 20 ≤ 20 := zmax_le _ 20
    refine aj.iload_n dX12_greedy_9 rfl ?_
    refine aj.aload_n dX12_greedy_10 rfl ?_
    refine gM1 rfl dX12_greedy_11 hA ?_
    refine aj.bipush (v := 6) dX12_greedy_14 rfl ?_
    refine aM1N (i := 6) dX12_greedy_16 hA rfl (by omega) ?_
    refine aj.icmp_geN (a := i) (b := mN (A 1 6)) (tgt := 50) dX12_greedy_17 rfl hB.2.2.1.1 (by omega) (by omega) rfl (fun c17 => ?_) (fun c17 => ?_)
    · exact absurd c17 (by omega)
    · refine aj.iload_n dX12_greedy_20 rfl ?_
      refine aj.aload_n dX12_greedy_21 rfl ?_
      refine aj.iload_n dX12_greedy_22 rfl ?_
      refine aj.aload_n dX12_greedy_23 rfl ?_
      refine aj.iload_n dX12_greedy_24 rfl ?_
      refine aj.iconst (v := 0) dX12_greedy_25 rfl ?_
      refine aj.callV1 (d' := 5) (As := [.int (nI i), .int 0]) (rest := [.int (nI i), .ref b, .int acc]) dX12_greedy_26 v_X12_333 li_X12_bestNow hA.1 rfl rfl rfl (Nat.le_of_ble_eq_true rfl) (Nat.le_of_ble_eq_true rfl) (c_bestNow i rfl (False) ⟨_, _, _, hA⟩ hB (by omega)) (fun M hM => ?_)
      obtain ⟨u, v, w, hA⟩ := hM
      refine aj.callV1 (d' := 4) (As := [.int (nI i), .int (nI (mBest (A 1) sl i (mN (A 1 (21 + i))) (False) 20))]) (rest := [.int acc]) dX12_greedy_29 v_X12_330 li_X12_touchesOf hA.1 rfl rfl rfl (Nat.le_of_ble_eq_true rfl) (Nat.le_of_ble_eq_true rfl) (c_touchesOf i rfl (mBest (A 1) sl i (mN (A 1 (21 + i))) (False) 20) rfl ⟨_, _, _, hA⟩ hB (by omega) (by omega)) (fun M hM => ?_)
      obtain ⟨u, v, w, hA⟩ := hM
      refine aj.if_leN (a := mTch (A 1) sl i (mBest (A 1) sl i (mN (A 1 (21 + i))) (False) 20) 10) (tgt := 41) dX12_greedy_32 rfl (by omega) rfl (fun c32 => ?_) (fun c32 => ?_)
      · refine aj.iconst (v := 0) dX12_greedy_41 rfl ?_
        refine aj.ior dX12_greedy_42 ?_
        refine aj.istore_n (lv' := [(1, .int (acc ||| 0)), (2, .int (nI i)), (0, .ref b)]) dX12_greedy_43 (Nat.le_of_ble_eq_true rfl) rfl ?_
        refine aj.iincN (a := i) (c := 1) (lv' := [(2, .int (nI (i + 1))), (1, .int (acc ||| 0)), (0, .ref b)]) dX12_greedy_44 rfl (Nat.le_of_ble_eq_true rfl) rfl rfl rfl ?_
        refine aj.goto (tgt := 9) dX12_greedy_47 rfl ?_
        refine aj.pick [0, 1, 2] rfl ?_
        exact ih (i + 1) _ M (by omega) (by rw [hacc, z_or0, zbits_s, if_neg (by rw [c32]; omega)]) ⟨_, _, _, hA⟩
      · refine aj.iconst (v := 1) dX12_greedy_35 rfl ?_
        refine aj.iload_n dX12_greedy_36 rfl ?_
        refine aj.ishl dX12_greedy_37 ?_
        refine aj.goto (tgt := 42) dX12_greedy_38 rfl ?_
        refine aj.ior dX12_greedy_42 ?_
        refine aj.istore_n (lv' := [(1, .int (acc ||| (1 <<< ((nI i) &&& 31)))), (2, .int (nI i)), (0, .ref b)]) dX12_greedy_43 (Nat.le_of_ble_eq_true rfl) rfl ?_
        refine aj.iincN (a := i) (c := 1) (lv' := [(2, .int (nI (i + 1))), (1, .int (acc ||| (1 <<< ((nI i) &&& 31)))), (0, .ref b)]) dX12_greedy_44 rfl (Nat.le_of_ble_eq_true rfl) rfl rfl rfl ?_
        refine aj.goto (tgt := 9) dX12_greedy_47 rfl ?_
        refine aj.pick [0, 1, 2] rfl ?_
        exact ih (i + 1) _ M (by omega) (by rw [hacc, zbits_s, if_pos c32]) ⟨_, _, _, hA⟩
theorem q_greedy {G : zG} {l : Launch} {b : Nat} {M0 M : zM} {I : Nat → Int32} {A : Nat → Nat → Int32} {L : Nat → Nat → Int64} (hM : mW b M0 M I A L) {sl ol : Option (List Nat)} {T : Nat}  (hB : mOK (A 1) sl ol T) : am G l kX12_greedy 6 [.ref b] M 0 0 (zr (.int (zbits (fun t => 0 < mTch (A 1) sl t (mBest (A 1) sl t (mN (A 1 (21 + t))) False 20) 10) (mN (A 1 6)))) (fun M' => mW b M0 M' I A L)) := by
  obtain ⟨u, v, w, hA⟩ := hM
  have hT := hB.2.2.2.2.2.2.2.2.1
  have hN6 := hB.2.2.1.2
  have hN25 := hB.2.2.2.2.2.1.2
  have hN26 := hB.2.2.2.2.2.2.1.2
  have hN27 := hB.2.2.2.2.2.2.2.1.2
  have hN1 := hB.1.1.2
  have hN2 := hB.1.2.1.2
  refine am.of (by decide) (Nat.le_of_ble_eq_true rfl) ?_
  refine aj.aload_n dX12_greedy_0 rfl ?_
  refine aj.iconst (v := 0) dX12_greedy_1 rfl ?_
  refine pM0 rfl dX12_greedy_2 hA (fun M hA => ?_)
  refine aj.iconst (v := 0) dX12_greedy_5 rfl ?_
  refine aj.istore_n (lv' := [(1, .int 0), (0, .ref b)]) dX12_greedy_6 (Nat.le_of_ble_eq_true rfl) rfl ?_
  refine aj.iconst (v := 0) dX12_greedy_7 rfl ?_
  refine aj.istore_n (lv' := [(2, .int 0), (1, .int 0), (0, .ref b)]) dX12_greedy_8 (Nat.le_of_ble_eq_true rfl) rfl ?_
  refine aj.pick [0, 1, 2] rfl ?_
  exact greedy_loop hB (mN (A 1 6)) 0 0 M (by omega) rfl ⟨_, _, _, hA⟩
theorem c_isRatherOpen {G : zG} {l : Launch} {b : Nat} {M0 M : zM} {I : Nat → Int32} {A : Nat → Nat → Int32} {L : Nat → Nat → Int64} (s : Nat) {x_s : Int32} (e_s : x_s = nI s) (aim : Nat) {x_aim : Int32} (e_aim : x_aim = nI aim) {sl ol : Option (List Nat)} {T : Nat}  (hM : mW b M0 M I A L) (hB : mOK (A 1) sl ol T) (hs : s < 4) (haim : aim ≤ 20) : am G l kX12_isRatherOpen 4 [.ref b, .int x_s, .int x_aim] M 0 0 (zr (.int (zb (mSum (A 1) sl s (mN (A 1 (21 + s))) True aim 10 ≤ mSum (A 1) sl s (mN (A 1 (21 + s))) False aim 10))) (fun M' => mW b M0 M' I A L)) := by
  subst e_s
  subst e_aim
  obtain ⟨u, v, w, hA⟩ := hM
  have hT := hB.2.2.2.2.2.2.2.2.1
  have hN6 := hB.2.2.1.2
  have hN25 := hB.2.2.2.2.2.1.2
  have hN26 := hB.2.2.2.2.2.2.1.2
  have hN27 := hB.2.2.2.2.2.2.2.1.2
  have hN1 := hB.1.1.2
  have hN2 := hB.1.2.1.2
  have hag := (hB.2.2.2.2.1 s hs).2
  refine am.of (by decide) (Nat.le_of_ble_eq_true rfl) ?_
  refine aj.aload_n dX12_isRatherOpen_0 rfl ?_
  refine aj.iload_n dX12_isRatherOpen_1 rfl ?_
  refine aj.iload_n dX12_isRatherOpen_2 rfl ?_
  refine aj.aload_n dX12_isRatherOpen_3 rfl ?_
  refine gM1 rfl dX12_isRatherOpen_4 hA ?_
  refine aj.bipush (v := 21) dX12_isRatherOpen_7 rfl ?_
  refine aj.iload_n dX12_isRatherOpen_9 rfl ?_
  refine aj.iaddN (a := 21) (b := s) dX12_isRatherOpen_10 rfl rfl ?_
  refine aM1N (i := 21 + s) dX12_isRatherOpen_11 hA rfl (by omega) ?_
  refine aj.iconst (v := 1) dX12_isRatherOpen_12 rfl ?_
  refine aj.callV1 (d' := 3) (As := [.int (nI s), .int (nI aim), .int (A 1 (21 + s)), .int 1]) (rest := []) dX12_isRatherOpen_13 v_X12_315 li_X12_sumOf hA.1 rfl rfl rfl (Nat.le_of_ble_eq_true rfl) (Nat.le_of_ble_eq_true rfl) (c_sumOf s rfl aim rfl (mN (A 1 (21 + s))) ((hB.2.2.2.2.1 s hs).1) (True) ⟨_, _, _, hA⟩ hB (by omega) (by omega) (by omega)) (fun M hM => ?_)
  obtain ⟨u, v, w, hA⟩ := hM
  refine aj.aload_n dX12_isRatherOpen_16 rfl ?_
  refine aj.iload_n dX12_isRatherOpen_17 rfl ?_
  refine aj.iload_n dX12_isRatherOpen_18 rfl ?_
  refine aj.aload_n dX12_isRatherOpen_19 rfl ?_
  refine gM1 rfl dX12_isRatherOpen_20 hA ?_
  refine aj.bipush (v := 21) dX12_isRatherOpen_23 rfl ?_
  refine aj.iload_n dX12_isRatherOpen_25 rfl ?_
  refine aj.iaddN (a := 21) (b := s) dX12_isRatherOpen_26 rfl rfl ?_
  refine aM1N (i := 21 + s) dX12_isRatherOpen_27 hA rfl (by omega) ?_
  refine aj.iconst (v := 0) dX12_isRatherOpen_28 rfl ?_
  refine aj.callV1 (d' := 3) (As := [.int (nI s), .int (nI aim), .int (A 1 (21 + s)), .int 0]) (rest := [.int (mSum (A 1) sl s (mN (A 1 (21 + s))) (True) aim 10)]) dX12_isRatherOpen_29 v_X12_315 li_X12_sumOf hA.1 rfl rfl rfl (Nat.le_of_ble_eq_true rfl) (Nat.le_of_ble_eq_true rfl) (c_sumOf s rfl aim rfl (mN (A 1 (21 + s))) ((hB.2.2.2.2.1 s hs).1) (False) ⟨_, _, _, hA⟩ hB (by omega) (by omega) (by omega)) (fun M hM => ?_)
  obtain ⟨u, v, w, hA⟩ := hM
  refine aj.icmp_gt (tgt := 39) dX12_isRatherOpen_32 rfl (fun c32 => ?_) (fun c32 => ?_)
  · refine aj.iconst (v := 0) dX12_isRatherOpen_39 rfl ?_
    exact aj.zret (ty := .boolean) rfl rfl dX12_isRatherOpen_40 ⟨by rw [zb_f (by simp only [Int32.lt_iff_toInt_lt, Int32.le_iff_toInt_le] at *; omega)], ⟨_, _, _, hA⟩⟩
  · refine aj.iconst (v := 1) dX12_isRatherOpen_35 rfl ?_
    refine aj.goto (tgt := 40) dX12_isRatherOpen_36 rfl ?_
    exact aj.zret (ty := .boolean) rfl rfl dX12_isRatherOpen_40 ⟨by rw [zb_t (by simp only [Int32.lt_iff_toInt_lt, Int32.le_iff_toInt_le] at *; omega)], ⟨_, _, _, hA⟩⟩
abbrev mLeast (B : Nat → Int32) (sl : Option (List Nat)) (s aim : Nat) : Int32 := if mSum B sl s (mN (B (21 + s))) True aim 10 < mSum B sl s (mN (B (21 + s))) False aim 10 then mSum B sl s (mN (B (21 + s))) True aim 10 else mSum B sl s (mN (B (21 + s))) False aim 10
theorem c_leastOf {G : zG} {l : Launch} {b : Nat} {M0 M : zM} {I : Nat → Int32} {A : Nat → Nat → Int32} {L : Nat → Nat → Int64} (s : Nat) {x_s : Int32} (e_s : x_s = nI s) (aim : Nat) {x_aim : Int32} (e_aim : x_aim = nI aim) {sl ol : Option (List Nat)} {T : Nat}  (hM : mW b M0 M I A L) (hB : mOK (A 1) sl ol T) (hs : s < 4) (haim : aim ≤ 20) : am G l kX12_leastOf 4 [.ref b, .int x_s, .int x_aim] M 0 0 (zr (.int (mLeast (A 1) sl s aim)) (fun M' => mW b M0 M' I A L)) := by
  subst e_s
  subst e_aim
  obtain ⟨u, v, w, hA⟩ := hM
  have hT := hB.2.2.2.2.2.2.2.2.1
  have hN6 := hB.2.2.1.2
  have hN25 := hB.2.2.2.2.2.1.2
  have hN26 := hB.2.2.2.2.2.2.1.2
  have hN27 := hB.2.2.2.2.2.2.2.1.2
  have hN1 := hB.1.1.2
  have hN2 := hB.1.2.1.2
  have hag := (hB.2.2.2.2.1 s hs).2
  refine am.of (by decide) (Nat.le_of_ble_eq_true rfl) ?_
  refine aj.aload_n dX12_leastOf_0 rfl ?_
  refine aj.iload_n dX12_leastOf_1 rfl ?_
  refine aj.iload_n dX12_leastOf_2 rfl ?_
  refine aj.aload_n dX12_leastOf_3 rfl ?_
  refine gM1 rfl dX12_leastOf_4 hA ?_
  refine aj.bipush (v := 21) dX12_leastOf_7 rfl ?_
  refine aj.iload_n dX12_leastOf_9 rfl ?_
  refine aj.iaddN (a := 21) (b := s) dX12_leastOf_10 rfl rfl ?_
  refine aM1N (i := 21 + s) dX12_leastOf_11 hA rfl (by omega) ?_
  refine aj.iconst (v := 1) dX12_leastOf_12 rfl ?_
  refine aj.callV1 (d' := 3) (As := [.int (nI s), .int (nI aim), .int (A 1 (21 + s)), .int 1]) (rest := []) dX12_leastOf_13 v_X12_315 li_X12_sumOf hA.1 rfl rfl rfl (Nat.le_of_ble_eq_true rfl) (Nat.le_of_ble_eq_true rfl) (c_sumOf s rfl aim rfl (mN (A 1 (21 + s))) ((hB.2.2.2.2.1 s hs).1) (True) ⟨_, _, _, hA⟩ hB (by omega) (by omega) (by omega)) (fun M hM => ?_)
  obtain ⟨u, v, w, hA⟩ := hM
  refine aj.istore_n (lv' := [(3, .int (mSum (A 1) sl s (mN (A 1 (21 + s))) (True) aim 10)), (0, .ref b), (1, .int (nI s)), (2, .int (nI aim))]) dX12_leastOf_16 (Nat.le_of_ble_eq_true rfl) rfl ?_
  refine aj.aload_n dX12_leastOf_17 rfl ?_
  refine aj.iload_n dX12_leastOf_18 rfl ?_
  refine aj.iload_n dX12_leastOf_19 rfl ?_
  refine aj.aload_n dX12_leastOf_20 rfl ?_
  refine gM1 rfl dX12_leastOf_21 hA ?_
  refine aj.bipush (v := 21) dX12_leastOf_24 rfl ?_
  refine aj.iload_n dX12_leastOf_26 rfl ?_
  refine aj.iaddN (a := 21) (b := s) dX12_leastOf_27 rfl rfl ?_
  refine aM1N (i := 21 + s) dX12_leastOf_28 hA rfl (by omega) ?_
  refine aj.iconst (v := 0) dX12_leastOf_29 rfl ?_
  refine aj.callV1 (d' := 3) (As := [.int (nI s), .int (nI aim), .int (A 1 (21 + s)), .int 0]) (rest := []) dX12_leastOf_30 v_X12_315 li_X12_sumOf hA.1 rfl rfl rfl (Nat.le_of_ble_eq_true rfl) (Nat.le_of_ble_eq_true rfl) (c_sumOf s rfl aim rfl (mN (A 1 (21 + s))) ((hB.2.2.2.2.1 s hs).1) (False) ⟨_, _, _, hA⟩ hB (by omega) (by omega) (by omega)) (fun M hM => ?_)
  obtain ⟨u, v, w, hA⟩ := hM
  refine aj.istore (lv' := [(4, .int (mSum (A 1) sl s (mN (A 1 (21 + s))) (False) aim 10)), (3, .int (mSum (A 1) sl s (mN (A 1 (21 + s))) (True) aim 10)), (0, .ref b), (1, .int (nI s)), (2, .int (nI aim))]) dX12_leastOf_33 (Nat.le_of_ble_eq_true rfl) rfl ?_
  refine aj.iload_n dX12_leastOf_35 rfl ?_
  refine aj.iload dX12_leastOf_36 rfl ?_
  refine aj.icmp_ge (tgt := 45) dX12_leastOf_38 rfl (fun c38 => ?_) (fun c38 => ?_)
  · refine aj.iload dX12_leastOf_45 rfl ?_
    exact aj.iret rfl dX12_leastOf_47 ⟨congrArg (fun q => some (Value.int q)) (if_neg (by simp only [Int32.lt_iff_toInt_lt, Int32.le_iff_toInt_le] at *; omega)).symm, ⟨_, _, _, hA⟩⟩
  · refine aj.iload_n dX12_leastOf_41 rfl ?_
    refine aj.goto (tgt := 47) dX12_leastOf_42 rfl ?_
    exact aj.iret rfl dX12_leastOf_47 ⟨congrArg (fun q => some (Value.int q)) (if_pos (by simp only [Int32.lt_iff_toInt_lt, Int32.le_iff_toInt_le] at *; omega)).symm, ⟨_, _, _, hA⟩⟩
theorem guards_loop {G : zG} {l : Launch} {b : Nat} {M0 : zM} {I : Nat → Int32} {A : Nat → Nat → Int32} {L : Nat → Nat → Int64} (s : Nat) {x_s : Int32} (e_s : x_s = nI s) {sl ol : Option (List Nat)} {T : Nat} (hB : mOK (A 1) sl ol T) (hs : s < 4) : ∀ (n i : Nat) (best : Nat) (M : zM), i + n = 21 → best = zmax (fun a => mLeast (A 1) sl s a) (i - 1) → best < i → 0 < i → mW b M0 M I A L → aj G l kX12_guards 5 21 [(3, .int (nI i)), (2, .int (nI best)), (0, .ref b), (1, .int x_s)] [] M 0 0 (zr (.int (nI (zmax (fun a => mLeast (A 1) sl s a) 20))) (fun M' => mW b M0 M' I A L)) := by
  have hT := hB.2.2.2.2.2.2.2.2.1
  have hN6 := hB.2.2.1.2
  have hN25 := hB.2.2.2.2.2.1.2
  have hN26 := hB.2.2.2.2.2.2.1.2
  have hN27 := hB.2.2.2.2.2.2.2.1.2
  have hN1 := hB.1.1.2
  have hN2 := hB.1.2.1.2
  intro n
  induction n with
  | zero =>
    intro i best M hin hbest hb20 hi0 hM
    obtain ⟨u, v, w, hA⟩ := hM
    refine aj.iload_n dX12_guards_21 rfl ?_
    refine aj.bipush (v := 21) dX12_guards_22 rfl ?_
    refine aj.icmp_geN (a := i) (b := 21) (tgt := 50) dX12_guards_24 rfl rfl (by omega) (by omega) rfl (fun c24 => ?_) (fun c24 => ?_)
    · refine aj.iload_n dX12_guards_50 rfl ?_
      exact aj.iret rfl dX12_guards_51 ⟨by rw [hbest, show i - 1 = 20 by omega], _, _, _, hA⟩
    · exact absurd c24 (by omega)
  | succ n ih =>
    intro i best M hin hbest hb20 hi0 hM
    obtain ⟨u, v, w, hA⟩ := hM
    refine aj.iload_n dX12_guards_21 rfl ?_
    refine aj.bipush (v := 21) dX12_guards_22 rfl ?_
    refine aj.icmp_geN (a := i) (b := 21) (tgt := 50) dX12_guards_24 rfl rfl (by omega) (by omega) rfl (fun c24 => ?_) (fun c24 => ?_)
    · exact absurd c24 (by omega)
    · refine aj.aload_n dX12_guards_27 rfl ?_
      refine aj.iload_n dX12_guards_28 rfl ?_
      refine aj.iload_n dX12_guards_29 rfl ?_
      refine aj.callV1 (d' := 4) (As := [.int x_s, .int (nI i)]) (rest := []) dX12_guards_30 v_X12_427 li_X12_leastOf hA.1 rfl rfl rfl (Nat.le_of_ble_eq_true rfl) (Nat.le_of_ble_eq_true rfl) (c_leastOf s e_s i rfl ⟨_, _, _, hA⟩ hB (by omega) (by omega)) (fun M hM => ?_)
      obtain ⟨u, v, w, hA⟩ := hM
      refine aj.aload_n dX12_guards_33 rfl ?_
      refine aj.iload_n dX12_guards_34 rfl ?_
      refine aj.iload_n dX12_guards_35 rfl ?_
      refine aj.callV1 (d' := 4) (As := [.int x_s, .int (nI best)]) (rest := [.int (mLeast (A 1) sl s i)]) dX12_guards_36 v_X12_427 li_X12_leastOf hA.1 rfl rfl rfl (Nat.le_of_ble_eq_true rfl) (Nat.le_of_ble_eq_true rfl) (c_leastOf s e_s best rfl ⟨_, _, _, hA⟩ hB (by omega) (by omega)) (fun M hM => ?_)
      obtain ⟨u, v, w, hA⟩ := hM
      refine aj.icmp_le (tgt := 44) dX12_guards_39 rfl (fun c39 => ?_) (fun c39 => ?_)
      · refine aj.iincN (a := i) (c := 1) (lv' := [(3, .int (nI (i + 1))), (2, .int (nI best)), (0, .ref b), (1, .int x_s)]) dX12_guards_44 rfl (Nat.le_of_ble_eq_true rfl) rfl rfl rfl ?_
        refine aj.goto (tgt := 21) dX12_guards_47 rfl ?_
        refine aj.pick [0, 1, 2, 3] rfl ?_
        exact ih (i + 1) best M (by omega) (by obtain ⟨j, rfl⟩ : ∃ j, i = j + 1 := ⟨i - 1, by omega⟩; show best = zmax _ (j + 1); rw [zmax_s, if_pos (by have e : best = zmax _ j := hbest; rw [← e]; exact c39)]; exact hbest) (by omega) (by omega) ⟨_, _, _, hA⟩
      · refine aj.iload_n dX12_guards_42 rfl ?_
        refine aj.istore_n (lv' := [(2, .int (nI i)), (3, .int (nI i)), (0, .ref b), (1, .int x_s)]) dX12_guards_43 (Nat.le_of_ble_eq_true rfl) rfl ?_
        refine aj.iincN (a := i) (c := 1) (lv' := [(3, .int (nI (i + 1))), (2, .int (nI i)), (0, .ref b), (1, .int x_s)]) dX12_guards_44 rfl (Nat.le_of_ble_eq_true rfl) rfl rfl rfl ?_
        refine aj.goto (tgt := 21) dX12_guards_47 rfl ?_
        refine aj.pick [0, 1, 2, 3] rfl ?_
        exact ih (i + 1) i M (by omega) (by obtain ⟨j, rfl⟩ : ∃ j, i = j + 1 := ⟨i - 1, by omega⟩; show j + 1 = zmax _ (j + 1); rw [zmax_s, if_neg (by have e : best = zmax _ j := hbest; rw [← e]; exact c39)]) (by omega) (by omega) ⟨_, _, _, hA⟩
theorem q_guards {G : zG} {l : Launch} {b : Nat} {M0 M : zM} {I : Nat → Int32} {A : Nat → Nat → Int32} {L : Nat → Nat → Int64} (s : Int32) (hM : mW b M0 M I A L) {sl ol : Option (List Nat)} {T : Nat}  (hB : mOK (A 1) sl ol T) : am G l kX12_guards 5 [.ref b, .int s] M 0 0 (zr (.int (if inR s 0 ((mN (A 1 6) : Int) - 1) then nI (zmax (fun a => mLeast (A 1) sl (mN s) a) 20) else -2)) (fun M' => mW b M0 M' I A L)) := by
  obtain ⟨u, v, w, hA⟩ := hM
  have hT := hB.2.2.2.2.2.2.2.2.1
  have hN6 := hB.2.2.1.2
  have hN25 := hB.2.2.2.2.2.1.2
  have hN26 := hB.2.2.2.2.2.2.1.2
  have hN27 := hB.2.2.2.2.2.2.2.1.2
  have hN1 := hB.1.1.2
  have hN2 := hB.1.2.1.2
  refine am.of (by decide) (Nat.le_of_ble_eq_true rfl) ?_
  refine aj.aload_n dX12_guards_0 rfl ?_
  refine aj.iconst (v := 0) dX12_guards_1 rfl ?_
  refine pM0 rfl dX12_guards_2 hA (fun M hA => ?_)
  refine aj.aload_n dX12_guards_5 rfl ?_
  refine aj.iload_n dX12_guards_6 rfl ?_
  refine aj.i2l dX12_guards_7 ?_
  refine aj.callV1 (d' := 1) (As := [.long (Int32.toInt64 s)]) (rest := []) dX12_guards_8 v_X12_236 li_X12_isShooter hA.1 rfl rfl rfl (Nat.le_of_ble_eq_true rfl) (Nat.le_of_ble_eq_true rfl) (c_isShooter s ⟨_, _, _, hA⟩ hB) (fun M hM => ?_)
  obtain ⟨u, v, w, hA⟩ := hM
  refine aj.if_neB (tgt := 17) dX12_guards_11 rfl (fun c11 => ?_) (fun c11 => ?_)
  · have h_s := inR_bdS c11 (by omega)
    have h2_s := h_s.2
    refine aj.iconst (v := 0) dX12_guards_17 rfl ?_
    refine aj.istore_n (lv' := [(2, .int 0), (0, .ref b), (1, .int s)]) dX12_guards_18 (Nat.le_of_ble_eq_true rfl) rfl ?_
    refine aj.iconst (v := 1) dX12_guards_19 rfl ?_
    refine aj.istore_n (lv' := [(3, .int 1), (2, .int 0), (0, .ref b), (1, .int s)]) dX12_guards_20 (Nat.le_of_ble_eq_true rfl) rfl ?_
    refine aj.pick [0, 1, 2, 3] rfl ?_
    rw [show (if inR s 0 ((mN (A 1 6) : Int) - 1) then _ else _ : Int32) = _ from if_pos c11]
    exact guards_loop (mN s) h_s.1 hB (by omega) 20 1 0 M (by omega) rfl (by omega) (by omega) ⟨_, _, _, hA⟩
  · refine aj.bipush (v := (-2)) dX12_guards_14 rfl ?_
    exact aj.iret rfl dX12_guards_16 ⟨by rw [if_neg c11], ⟨_, _, _, hA⟩⟩
def zon (x : Option Nat) : Int32 := match x with
  | none => -1
  | some k => nI k
theorem zfirst_s (p : Nat → Prop) [DecidablePred p] (n i : Nat) : zfirst p (n + 1) i = if p i then some i else zfirst p n (i + 1) := rfl
theorem leaves_loop {G : zG} {l : Launch} {b : Nat} {M0 : zM} {I : Nat → Int32} {A : Nat → Nat → Int32} {L : Nat → Nat → Int64} (s : Nat) {x_s : Int32} (e_s : x_s = nI s) (n0 : Int32) (op : Prop) [Decidable op] (r : Option Nat) {sl ol : Option (List Nat)} {T : Nat} (hB : mOK (A 1) sl ol T) (hs : s < 4) : ∀ (n i : Nat)  (M : zM), i + n = 10 → zfirst (fun a => mSum (A 1) sl s a op (mBest (A 1) sl s a op 20) 10 ≤ 10 * n0) n i = r → mW b M0 M I A L → aj G l kX12_leaves 5 40 [(4, .int (nI i)), (3, .int (zb (op))), (0, .ref b), (1, .int x_s), (2, .int n0)] [] M 0 0 (zr (.int (zon r)) (fun M' => mW b M0 M' I A L)) := by
  have hT := hB.2.2.2.2.2.2.2.2.1
  have hN6 := hB.2.2.1.2
  have hN25 := hB.2.2.2.2.2.1.2
  have hN26 := hB.2.2.2.2.2.2.1.2
  have hN27 := hB.2.2.2.2.2.2.2.1.2
  have hN1 := hB.1.1.2
  have hN2 := hB.1.2.1.2
  intro n
  induction n with
  | zero =>
    intro i M hin hz hM
    obtain ⟨u, v, w, hA⟩ := hM
    refine aj.iload dX12_leaves_40 rfl ?_
    refine aj.bipush (v := 9) dX12_leaves_42 rfl ?_
    refine aj.icmp_gtN (a := i) (b := 9) (tgt := 79) dX12_leaves_44 rfl rfl (by omega) (by omega) rfl (fun c44 => ?_) (fun c44 => ?_)
    · refine aj.iconst (v := (-1)) dX12_leaves_79 rfl ?_
      exact aj.iret rfl dX12_leaves_80 ⟨by rw [← hz]; rfl, _, _, _, hA⟩
    · exact absurd c44 (by omega)
  | succ n ih =>
    intro i M hin hz hM
    obtain ⟨u, v, w, hA⟩ := hM
    have hle2 : mBest (A 1) sl s i (op) 20 ≤ 20 := zmax_le _ 20
    refine aj.iload dX12_leaves_40 rfl ?_
    refine aj.bipush (v := 9) dX12_leaves_42 rfl ?_
    refine aj.icmp_gtN (a := i) (b := 9) (tgt := 79) dX12_leaves_44 rfl rfl (by omega) (by omega) rfl (fun c44 => ?_) (fun c44 => ?_)
    · exact absurd c44 (by omega)
    · refine aj.aload_n dX12_leaves_47 rfl ?_
      refine aj.iload_n dX12_leaves_48 rfl ?_
      refine aj.aload_n dX12_leaves_49 rfl ?_
      refine aj.iload_n dX12_leaves_50 rfl ?_
      refine aj.iload dX12_leaves_51 rfl ?_
      refine aj.iload_n dX12_leaves_53 rfl ?_
      refine aj.callV1 (d' := 4) (As := [.int x_s, .int (nI i), .int (zb (op))]) (rest := [.int x_s, .ref b]) dX12_leaves_54 v_X12_319 li_X12_bestOf hA.1 rfl rfl rfl (Nat.le_of_ble_eq_true rfl) (Nat.le_of_ble_eq_true rfl) (c_bestOf s e_s i rfl (op) ⟨_, _, _, hA⟩ hB (by omega) (by omega)) (fun M hM => ?_)
      obtain ⟨u, v, w, hA⟩ := hM
      refine aj.iload dX12_leaves_57 rfl ?_
      refine aj.iload_n dX12_leaves_59 rfl ?_
      refine aj.callV1 (d' := 3) (As := [.int x_s, .int (nI (mBest (A 1) sl s i (op) 20)), .int (nI i), .int (zb (op))]) (rest := []) dX12_leaves_60 v_X12_315 li_X12_sumOf hA.1 rfl rfl rfl (Nat.le_of_ble_eq_true rfl) (Nat.le_of_ble_eq_true rfl) (c_sumOf s e_s (mBest (A 1) sl s i (op) 20) rfl i rfl (op) ⟨_, _, _, hA⟩ hB (by omega) (by omega) (by omega)) (fun M hM => ?_)
      obtain ⟨u, v, w, hA⟩ := hM
      refine aj.bipush (v := 10) dX12_leaves_63 rfl ?_
      refine aj.iload_n dX12_leaves_65 rfl ?_
      refine aj.imul dX12_leaves_66 ?_
      refine aj.icmp_gt (tgt := 73) dX12_leaves_67 rfl (fun c67 => ?_) (fun c67 => ?_)
      · refine aj.iincN (a := i) (c := 1) (lv' := [(4, .int (nI (i + 1))), (3, .int (zb (op))), (0, .ref b), (1, .int x_s), (2, .int n0)]) dX12_leaves_73 rfl (Nat.le_of_ble_eq_true rfl) rfl rfl rfl ?_
        refine aj.goto (tgt := 40) dX12_leaves_76 rfl ?_
        refine aj.pick [0, 1, 2, 3, 4] rfl ?_
        exact ih (i + 1)  M (by omega) (by rw [← hz, zfirst_s, if_neg (by simp only [Int32.lt_iff_toInt_lt, Int32.le_iff_toInt_le] at *; omega)]) ⟨_, _, _, hA⟩
      · refine aj.iload dX12_leaves_70 rfl ?_
        exact aj.iret rfl dX12_leaves_72 ⟨by rw [← hz, zfirst_s, if_pos (by simp only [Int32.lt_iff_toInt_lt, Int32.le_iff_toInt_le] at *; omega)]; rfl, _, _, _, hA⟩
theorem q_leaves {G : zG} {l : Launch} {b : Nat} {M0 M : zM} {I : Nat → Int32} {A : Nat → Nat → Int32} {L : Nat → Nat → Int64} (s : Int32) (n : Int32) (hM : mW b M0 M I A L) {sl ol : Option (List Nat)} {T : Nat}  (hB : mOK (A 1) sl ol T) : am G l kX12_leaves 5 [.ref b, .int s, .int n] M 0 0 (zr (.int (if inR s 0 ((mN (A 1 6) : Int) - 1) then (if inR n 0 99 then zon (zfirst (fun a => mSum (A 1) sl (mN s) a (mOpen ol (mN (A 1 26)) (mN (A 1 27)) (mN (A 1 25)) = true) (mBest (A 1) sl (mN s) a (mOpen ol (mN (A 1 26)) (mN (A 1 27)) (mN (A 1 25)) = true) 20) 10 ≤ 10 * n) 10 0) else -3) else -2)) (fun M' => mW b M0 M' I A L)) := by
  obtain ⟨u, v, w, hA⟩ := hM
  have hT := hB.2.2.2.2.2.2.2.2.1
  have hN6 := hB.2.2.1.2
  have hN25 := hB.2.2.2.2.2.1.2
  have hN26 := hB.2.2.2.2.2.2.1.2
  have hN27 := hB.2.2.2.2.2.2.2.1.2
  have hN1 := hB.1.1.2
  have hN2 := hB.1.2.1.2
  refine am.of (by decide) (Nat.le_of_ble_eq_true rfl) ?_
  refine aj.aload_n dX12_leaves_0 rfl ?_
  refine aj.iconst (v := 0) dX12_leaves_1 rfl ?_
  refine pM0 rfl dX12_leaves_2 hA (fun M hA => ?_)
  refine aj.aload_n dX12_leaves_5 rfl ?_
  refine aj.iload_n dX12_leaves_6 rfl ?_
  refine aj.i2l dX12_leaves_7 ?_
  refine aj.callV1 (d' := 1) (As := [.long (Int32.toInt64 s)]) (rest := []) dX12_leaves_8 v_X12_236 li_X12_isShooter hA.1 rfl rfl rfl (Nat.le_of_ble_eq_true rfl) (Nat.le_of_ble_eq_true rfl) (c_isShooter s ⟨_, _, _, hA⟩ hB) (fun M hM => ?_)
  obtain ⟨u, v, w, hA⟩ := hM
  refine aj.if_neB (tgt := 17) dX12_leaves_11 rfl (fun c11 => ?_) (fun c11 => ?_)
  · have h_s := inR_bdS c11 (by omega)
    have h2_s := h_s.2
    refine aj.iload_n dX12_leaves_17 rfl ?_
    refine aj.i2l dX12_leaves_18 ?_
    refine aj.lconst (v := 0) dX12_leaves_19 rfl ?_
    refine aj.ldc2 dX12_leaves_20 w1561 ?_
    refine aj.callS1 (d' := 0) (As := [.long (Int32.toInt64 n), .long 0, .long 99]) (rest := []) dX12_leaves_23 v_X12_142 w1380 rfl rfl (Nat.le_of_ble_eq_true rfl) (Nat.le_of_ble_eq_true rfl) (c_withinI (a := 0) (c := 99) _ n 0 99 rfl rfl) (fun M hM => ?_)
    subst hM
    refine aj.if_neB (tgt := 32) dX12_leaves_26 rfl (fun c26 => ?_) (fun c26 => ?_)
    · have h_n := inR_bd (n := 99) c26 (by decide)
      have h2_n := h_n.2
      refine aj.aload_n dX12_leaves_32 rfl ?_
      refine aj.callV1 (d' := 3) (As := []) (rest := []) dX12_leaves_33 v_X12_250 li_X12_isOpenNow hA.1 rfl rfl rfl (Nat.le_of_ble_eq_true rfl) (Nat.le_of_ble_eq_true rfl) (c_isOpenNow ⟨_, _, _, hA⟩ hB) (fun M hM => ?_)
      obtain ⟨u, v, w, hA⟩ := hM
      refine aj.istore_n (lv' := [(3, .int (zb (mOpen ol (mN (A 1 26)) (mN (A 1 27)) (mN (A 1 25)) = true))), (0, .ref b), (1, .int s), (2, .int n)]) dX12_leaves_36 (Nat.le_of_ble_eq_true rfl) rfl ?_
      refine aj.iconst (v := 0) dX12_leaves_37 rfl ?_
      refine aj.istore (lv' := [(4, .int 0), (3, .int (zb (mOpen ol (mN (A 1 26)) (mN (A 1 27)) (mN (A 1 25)) = true))), (0, .ref b), (1, .int s), (2, .int n)]) dX12_leaves_38 (Nat.le_of_ble_eq_true rfl) rfl ?_
      refine aj.pick [0, 1, 2, 3, 4] rfl ?_
      rw [if_pos c11, if_pos c26]
      exact leaves_loop (mN s) h_s.1 n (mOpen ol (mN (A 1 26)) (mN (A 1 27)) (mN (A 1 25)) = true) _ hB (by omega) 10 0 M (by omega) rfl ⟨_, _, _, hA⟩
    · refine aj.bipush (v := (-3)) dX12_leaves_29 rfl ?_
      exact aj.iret rfl dX12_leaves_31 ⟨by rw [if_pos c11, if_neg c26], ⟨_, _, _, hA⟩⟩
  · refine aj.bipush (v := (-2)) dX12_leaves_14 rfl ?_
    exact aj.iret rfl dX12_leaves_16 ⟨by rw [if_neg c11], ⟨_, _, _, hA⟩⟩
