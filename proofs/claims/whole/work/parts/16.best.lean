def zcnt (f : Nat → Prop) [DecidablePred f] : Nat → Nat
  | 0 => 0
  | n + 1 => zcnt f n + (if f n then 1 else 0)
def zsum (f : Nat → Int32) : Nat → Int32
  | 0 => 0
  | n + 1 => zsum f n + f n
/-- the first of 0 to n by which most comes out -/
def zmax (f : Nat → Int32) : Nat → Nat
  | 0 => 0
  | n + 1 => if f (n + 1) ≤ f (zmax f n) then zmax f n else n + 1
theorem zmax_le (f : Nat → Int32) : ∀ n, zmax f n ≤ n
  | 0 => Nat.le_refl 0
  | n + 1 => by
    unfold zmax
    split
    · have := zmax_le f n; omega
    · exact Nat.le_refl _
theorem zcnt_le (f : Nat → Prop) [DecidablePred f] : ∀ n, zcnt f n ≤ n
  | 0 => Nat.le_refl 0
  | n + 1 => by
    unfold zcnt
    have := zcnt_le f n
    split <;> omega
theorem zcnt_s (f : Nat → Prop) [DecidablePred f] (n : Nat) : zcnt f (n + 1) = zcnt f n + (if f n then 1 else 0) := rfl
theorem zmax_s (f : Nat → Int32) (n : Nat) : zmax f (n + 1) = if f (n + 1) ≤ f (zmax f n) then zmax f n else n + 1 := rfl
theorem zsum_s (f : Nat → Int32) (n : Nat) : zsum f (n + 1) = zsum f n + f n := rfl
/-- where a shooter's shots land now -/
abbrev mLn (B : Nat → Int32) (sl : Option (List Nat)) (s aim lot : Nat) : Nat := mLand sl (B (13 + s)) (mN (B (21 + s))) (mN (B 26)) aim lot
abbrev mTch (B : Nat → Int32) (sl : Option (List Nat)) (s aim : Nat) (n : Nat) : Nat := zcnt (fun lot => mFar B (nI (mLn B sl s aim lot)) = 0) n
abbrev mSum (B : Nat → Int32) (sl : Option (List Nat)) (s age : Nat) (op : Prop) [Decidable op] (aim n : Nat) : Int32 := zsum (fun lot => mScore B (nI (mLand sl (B (13 + s)) age (mN (B 26)) aim lot)) op) n
abbrev mBest (B : Nat → Int32) (sl : Option (List Nat)) (s age : Nat) (op : Prop) [Decidable op] (n : Nat) : Nat := zmax (fun aim => mSum B sl s age op aim 10) n
theorem touchesOf_loop {G : zG} {l : Launch} {b : Nat} {M0 : zM} {I : Nat → Int32} {A : Nat → Nat → Int32} {L : Nat → Nat → Int64} (s aim : Nat) {sl ol : Option (List Nat)} {T : Nat} (hB : mOK (A 1) sl ol T) (hs : s < 4) (haim : aim ≤ 20) : ∀ (n i : Nat) (acc : Nat) (M : zM), i + n = 10 → acc = mTch (A 1) sl s aim i → mW b M0 M I A L → aj G l kX12_touchesOf 4 5 [(4, .int (nI i)), (3, .int (nI acc)), (0, .ref b), (1, .int (nI s)), (2, .int (nI aim))] [] M 0 0 (zr (.int (nI (mTch (A 1) sl s aim 10))) (fun M' => mW b M0 M' I A L)) := by
  have hT := hB.2.2.2.2.2.2.2.2.1
  have hN6 := hB.2.2.1.2
  have hN25 := hB.2.2.2.2.2.1.2
  have hN26 := hB.2.2.2.2.2.2.1.2
  have hN27 := hB.2.2.2.2.2.2.2.1.2
  have hN1 := hB.1.1.2
  have hN2 := hB.1.2.1.2
  intro n
  induction n with
  | zero =>
    intro i acc M hin hacc hM
    obtain ⟨u, v, w, hA⟩ := hM
    have hle := zcnt_le (fun lot => mFar (A 1) (nI (mLn (A 1) sl s aim lot)) = 0) i
    refine aj.iload dX12_touchesOf_5 rfl ?_
    refine aj.bipush (v := 10) dX12_touchesOf_7 rfl ?_
    refine aj.icmp_geN (a := i) (b := 10) (tgt := 41) dX12_touchesOf_9 rfl rfl (by omega) (by omega) rfl (fun c9 => ?_) (fun c9 => ?_)
    · refine aj.iload_n dX12_touchesOf_41 rfl ?_
      exact aj.iret rfl dX12_touchesOf_42 ⟨by rw [hacc, show i = 10 by omega], _, _, _, hA⟩
    · exact absurd c9 (by omega)
  | succ n ih =>
    intro i acc M hin hacc hM
    obtain ⟨u, v, w, hA⟩ := hM
    have hle := zcnt_le (fun lot => mFar (A 1) (nI (mLn (A 1) sl s aim lot)) = 0) i
    refine aj.iload dX12_touchesOf_5 rfl ?_
    refine aj.bipush (v := 10) dX12_touchesOf_7 rfl ?_
    refine aj.icmp_geN (a := i) (b := 10) (tgt := 41) dX12_touchesOf_9 rfl rfl (by omega) (by omega) rfl (fun c9 => ?_) (fun c9 => ?_)
    · exact absurd c9 (by omega)
    · refine aj.iload_n dX12_touchesOf_12 rfl ?_
      refine aj.aload_n dX12_touchesOf_13 rfl ?_
      refine aj.aload_n dX12_touchesOf_14 rfl ?_
      refine aj.iload_n dX12_touchesOf_15 rfl ?_
      refine aj.iload_n dX12_touchesOf_16 rfl ?_
      refine aj.iload dX12_touchesOf_17 rfl ?_
      refine aj.callV1 (d' := 3) (As := [.int (nI s), .int (nI aim), .int (nI i)]) (rest := [.ref b, .int (nI acc)]) dX12_touchesOf_19 v_X12_247 li_X12_landsNow hA.1 rfl rfl rfl (Nat.le_of_ble_eq_true rfl) (Nat.le_of_ble_eq_true rfl) (c_landsNow s rfl aim rfl i rfl ⟨_, _, _, hA⟩ hB (by omega) (by omega) (by omega)) (fun M hM => ?_)
      obtain ⟨u, v, w, hA⟩ := hM
      refine aj.callV1 (d' := 0) (As := [.int (nI (mLand sl (A 1 (13 + s)) (mN (A 1 (21 + s))) (mN (A 1 26)) aim i))]) (rest := [.int (nI acc)]) dX12_touchesOf_22 v_X12_233 li_X12_farOf hA.1 rfl rfl rfl (Nat.le_of_ble_eq_true rfl) (Nat.le_of_ble_eq_true rfl) (c_farOf (nI (mLand sl (A 1 (13 + s)) (mN (A 1 (21 + s))) (mN (A 1 26)) aim i)) ⟨_, _, _, hA⟩) (fun M hM => ?_)
      obtain ⟨u, v, w, hA⟩ := hM
      refine aj.if_ne (tgt := 32) dX12_touchesOf_25 rfl (fun c25 => ?_) (fun c25 => ?_)
      · refine aj.iconst (v := 0) dX12_touchesOf_32 rfl ?_
        refine aj.iaddN (a := acc) (b := 0) dX12_touchesOf_33 rfl rfl ?_
        refine aj.istore_n (lv' := [(3, .int (nI (acc + 0))), (4, .int (nI i)), (0, .ref b), (1, .int (nI s)), (2, .int (nI aim))]) dX12_touchesOf_34 (Nat.le_of_ble_eq_true rfl) rfl ?_
        refine aj.iincN (a := i) (c := 1) (lv' := [(4, .int (nI (i + 1))), (3, .int (nI (acc + 0))), (0, .ref b), (1, .int (nI s)), (2, .int (nI aim))]) dX12_touchesOf_35 rfl (Nat.le_of_ble_eq_true rfl) rfl rfl rfl ?_
        refine aj.goto (tgt := 5) dX12_touchesOf_38 rfl ?_
        refine aj.pick [0, 1, 2, 3, 4] rfl ?_
        exact ih (i + 1) _ M (by omega) (by rw [hacc]; show _ = zcnt _ (i + 1); rw [zcnt_s, if_neg c25]) ⟨_, _, _, hA⟩
      · refine aj.iconst (v := 1) dX12_touchesOf_28 rfl ?_
        refine aj.goto (tgt := 33) dX12_touchesOf_29 rfl ?_
        refine aj.iaddN (a := acc) (b := 1) dX12_touchesOf_33 rfl rfl ?_
        refine aj.istore_n (lv' := [(3, .int (nI (acc + 1))), (4, .int (nI i)), (0, .ref b), (1, .int (nI s)), (2, .int (nI aim))]) dX12_touchesOf_34 (Nat.le_of_ble_eq_true rfl) rfl ?_
        refine aj.iincN (a := i) (c := 1) (lv' := [(4, .int (nI (i + 1))), (3, .int (nI (acc + 1))), (0, .ref b), (1, .int (nI s)), (2, .int (nI aim))]) dX12_touchesOf_35 rfl (Nat.le_of_ble_eq_true rfl) rfl rfl rfl ?_
        refine aj.goto (tgt := 5) dX12_touchesOf_38 rfl ?_
        refine aj.pick [0, 1, 2, 3, 4] rfl ?_
        exact ih (i + 1) _ M (by omega) (by rw [hacc]; show _ = zcnt _ (i + 1); rw [zcnt_s, if_pos c25]) ⟨_, _, _, hA⟩
theorem c_touchesOf {G : zG} {l : Launch} {b : Nat} {M0 M : zM} {I : Nat → Int32} {A : Nat → Nat → Int32} {L : Nat → Nat → Int64} (s : Nat) {x_s : Int32} (e_s : x_s = nI s) (aim : Nat) {x_aim : Int32} (e_aim : x_aim = nI aim) {sl ol : Option (List Nat)} {T : Nat}  (hM : mW b M0 M I A L) (hB : mOK (A 1) sl ol T) (hs : s < 4) (haim : aim ≤ 20) : am G l kX12_touchesOf 4 [.ref b, .int x_s, .int x_aim] M 0 0 (zr (.int (nI (mTch (A 1) sl s aim 10))) (fun M' => mW b M0 M' I A L)) := by
  subst e_s
  subst e_aim
  obtain ⟨u, v, w, hA⟩ := hM
  refine am.of (by decide) (Nat.le_of_ble_eq_true rfl) ?_
  refine aj.iconst (v := 0) dX12_touchesOf_0 rfl ?_
  refine aj.istore_n (lv' := [(3, .int 0), (0, .ref b), (1, .int (nI s)), (2, .int (nI aim))]) dX12_touchesOf_1 (Nat.le_of_ble_eq_true rfl) rfl ?_
  refine aj.iconst (v := 0) dX12_touchesOf_2 rfl ?_
  refine aj.istore (lv' := [(4, .int 0), (3, .int 0), (0, .ref b), (1, .int (nI s)), (2, .int (nI aim))]) dX12_touchesOf_3 (Nat.le_of_ble_eq_true rfl) rfl ?_
  refine aj.pick [0, 1, 2, 3, 4] rfl ?_
  exact touchesOf_loop s aim hB hs haim 10 0 0 M (by omega) rfl ⟨_, _, _, hA⟩
theorem sumOf_loop {G : zG} {l : Launch} {b : Nat} {M0 : zM} {I : Nat → Int32} {A : Nat → Nat → Int32} {L : Nat → Nat → Int64} (s aim age : Nat) (op : Prop) [Decidable op] {sl ol : Option (List Nat)} {T : Nat} (hB : mOK (A 1) sl ol T) (hs : s < 4) (haim : aim ≤ 20) (hage : age < 2 ^ 20) : ∀ (n i : Nat) (acc : Int32) (M : zM), i + n = 10 → acc = mSum (A 1) sl s age op aim i → mW b M0 M I A L → aj G l kX12_sumOf 3 6 [(6, .int (nI i)), (5, .int acc), (0, .ref b), (1, .int (nI s)), (2, .int (nI aim)), (3, .int (nI age)), (4, .int (zb (op)))] [] M 0 0 (zr (.int (mSum (A 1) sl s age op aim 10)) (fun M' => mW b M0 M' I A L)) := by
  have hT := hB.2.2.2.2.2.2.2.2.1
  have hN6 := hB.2.2.1.2
  have hN25 := hB.2.2.2.2.2.1.2
  have hN26 := hB.2.2.2.2.2.2.1.2
  have hN27 := hB.2.2.2.2.2.2.2.1.2
  have hN1 := hB.1.1.2
  have hN2 := hB.1.2.1.2
  intro n
  induction n with
  | zero =>
    intro i acc M hin hacc hM
    obtain ⟨u, v, w, hA⟩ := hM
    refine aj.iload dX12_sumOf_6 rfl ?_
    refine aj.bipush (v := 10) dX12_sumOf_8 rfl ?_
    refine aj.icmp_geN (a := i) (b := 10) (tgt := 46) dX12_sumOf_10 rfl rfl (by omega) (by omega) rfl (fun c10 => ?_) (fun c10 => ?_)
    · refine aj.iload dX12_sumOf_46 rfl ?_
      exact aj.iret rfl dX12_sumOf_48 ⟨by rw [hacc, show i = 10 by omega], _, _, _, hA⟩
    · exact absurd c10 (by omega)
  | succ n ih =>
    intro i acc M hin hacc hM
    obtain ⟨u, v, w, hA⟩ := hM
    refine aj.iload dX12_sumOf_6 rfl ?_
    refine aj.bipush (v := 10) dX12_sumOf_8 rfl ?_
    refine aj.icmp_geN (a := i) (b := 10) (tgt := 46) dX12_sumOf_10 rfl rfl (by omega) (by omega) rfl (fun c10 => ?_) (fun c10 => ?_)
    · exact absurd c10 (by omega)
    · refine aj.iload dX12_sumOf_13 rfl ?_
      refine aj.aload_n dX12_sumOf_15 rfl ?_
      refine aj.aload_n dX12_sumOf_16 rfl ?_
      refine aj.iload_n dX12_sumOf_17 rfl ?_
      refine aj.iload_n dX12_sumOf_18 rfl ?_
      refine aj.iload dX12_sumOf_19 rfl ?_
      refine aj.iload_n dX12_sumOf_21 rfl ?_
      refine aj.aload_n dX12_sumOf_22 rfl ?_
      refine gM1 rfl dX12_sumOf_23 hA ?_
      refine aj.bipush (v := 26) dX12_sumOf_26 rfl ?_
      refine aM1N (i := 26) dX12_sumOf_28 hA rfl (by omega) ?_
      refine aj.callV1 (d' := 2) (As := [.int (nI s), .int (nI aim), .int (nI i), .int (nI age), .int (A 1 26)]) (rest := [.ref b, .int acc]) dX12_sumOf_29 v_X12_225 li_X12_landsBy hA.1 rfl rfl rfl (Nat.le_of_ble_eq_true rfl) (Nat.le_of_ble_eq_true rfl) (c_landsBy s rfl aim rfl i rfl age rfl (mN (A 1 26)) hB.2.2.2.2.2.2.1.1 ⟨_, _, _, hA⟩ hB (by omega) (by omega) (by omega) (by omega) (by omega)) (fun M hM => ?_)
      obtain ⟨u, v, w, hA⟩ := hM
      refine aj.iload dX12_sumOf_32 rfl ?_
      refine aj.callV1 (d' := 1) (As := [.int (nI (mLand sl (A 1 (13 + s)) age (mN (A 1 26)) aim i)), .int (zb (op))]) (rest := [.int acc]) dX12_sumOf_34 v_X12_254 li_X12_scoresAt hA.1 rfl rfl rfl (Nat.le_of_ble_eq_true rfl) (Nat.le_of_ble_eq_true rfl) (c_scoresAt (nI (mLand sl (A 1 (13 + s)) age (mN (A 1 26)) aim i)) (op) ⟨_, _, _, hA⟩) (fun M hM => ?_)
      obtain ⟨u, v, w, hA⟩ := hM
      refine aj.iadd dX12_sumOf_37 ?_
      refine aj.istore (lv' := [(5, .int (acc + (mScore (A 1) (nI (mLand sl (A 1 (13 + s)) age (mN (A 1 26)) aim i)) (op)))), (6, .int (nI i)), (0, .ref b), (1, .int (nI s)), (2, .int (nI aim)), (3, .int (nI age)), (4, .int (zb (op)))]) dX12_sumOf_38 (Nat.le_of_ble_eq_true rfl) rfl ?_
      refine aj.iincN (a := i) (c := 1) (lv' := [(6, .int (nI (i + 1))), (5, .int (acc + (mScore (A 1) (nI (mLand sl (A 1 (13 + s)) age (mN (A 1 26)) aim i)) (op)))), (0, .ref b), (1, .int (nI s)), (2, .int (nI aim)), (3, .int (nI age)), (4, .int (zb (op)))]) dX12_sumOf_40 rfl (Nat.le_of_ble_eq_true rfl) rfl rfl rfl ?_
      refine aj.goto (tgt := 6) dX12_sumOf_43 rfl ?_
      refine aj.pick [0, 1, 2, 3, 4, 5, 6] rfl ?_
      exact ih (i + 1) _ M (by omega) (by rw [hacc]; rfl) ⟨_, _, _, hA⟩
theorem c_sumOf {G : zG} {l : Launch} {b : Nat} {M0 M : zM} {I : Nat → Int32} {A : Nat → Nat → Int32} {L : Nat → Nat → Int64} (s : Nat) {x_s : Int32} (e_s : x_s = nI s) (aim : Nat) {x_aim : Int32} (e_aim : x_aim = nI aim) (age : Nat) {x_age : Int32} (e_age : x_age = nI age) (op : Prop) [Decidable op] {sl ol : Option (List Nat)} {T : Nat} (hM : mW b M0 M I A L) (hB : mOK (A 1) sl ol T) (hs : s < 4) (haim : aim ≤ 20) (hage : age < 2 ^ 20) : am G l kX12_sumOf 3 [.ref b, .int x_s, .int x_aim, .int x_age, .int (zb op)] M 0 0 (zr (.int (mSum (A 1) sl s age op aim 10)) (fun M' => mW b M0 M' I A L)) := by
  subst e_s
  subst e_aim
  subst e_age
  obtain ⟨u, v, w, hA⟩ := hM
  refine am.of (by decide) (Nat.le_of_ble_eq_true rfl) ?_
  refine aj.iconst (v := 0) dX12_sumOf_0 rfl ?_
  refine aj.istore (lv' := [(5, .int 0), (0, .ref b), (1, .int (nI s)), (2, .int (nI aim)), (3, .int (nI age)), (4, .int (zb (op)))]) dX12_sumOf_1 (Nat.le_of_ble_eq_true rfl) rfl ?_
  refine aj.iconst (v := 0) dX12_sumOf_3 rfl ?_
  refine aj.istore (lv' := [(6, .int 0), (5, .int 0), (0, .ref b), (1, .int (nI s)), (2, .int (nI aim)), (3, .int (nI age)), (4, .int (zb (op)))]) dX12_sumOf_4 (Nat.le_of_ble_eq_true rfl) rfl ?_
  refine aj.pick [0, 1, 2, 3, 4, 5, 6] rfl ?_
  exact sumOf_loop s aim age op hB hs haim hage 10 0 0 M (by omega) rfl ⟨_, _, _, hA⟩
theorem bestOf_loop {G : zG} {l : Launch} {b : Nat} {M0 : zM} {I : Nat → Int32} {A : Nat → Nat → Int32} {L : Nat → Nat → Int64} (s age : Nat) (op : Prop) [Decidable op] {sl ol : Option (List Nat)} {T : Nat} (hB : mOK (A 1) sl ol T) (hs : s < 4) (hage : age < 2 ^ 20) : ∀ (n i : Nat) (best : Nat) (M : zM), i + n = 21 → best = mBest (A 1) sl s age op (i - 1) → best < i → 0 < i → mW b M0 M I A L → aj G l kX12_bestOf 4 6 [(5, .int (nI i)), (4, .int (nI best)), (0, .ref b), (1, .int (nI s)), (2, .int (nI age)), (3, .int (zb (op)))] [] M 0 0 (zr (.int (nI (mBest (A 1) sl s age op 20))) (fun M' => mW b M0 M' I A L)) := by
  have hT := hB.2.2.2.2.2.2.2.2.1
  have hN6 := hB.2.2.1.2
  have hN25 := hB.2.2.2.2.2.1.2
  have hN26 := hB.2.2.2.2.2.2.1.2
  have hN27 := hB.2.2.2.2.2.2.2.1.2
  have hN1 := hB.1.1.2
  have hN2 := hB.1.2.1.2
  intro n
  induction n with
  | zero =>
    intro i best M hin hbest hb20 hi0 hM
    obtain ⟨u, v, w, hA⟩ := hM
    refine aj.iload dX12_bestOf_6 rfl ?_
    refine aj.bipush (v := 21) dX12_bestOf_8 rfl ?_
    refine aj.icmp_geN (a := i) (b := 21) (tgt := 44) dX12_bestOf_10 rfl rfl (by omega) (by omega) rfl (fun c10 => ?_) (fun c10 => ?_)
    · refine aj.iload dX12_bestOf_44 rfl ?_
      exact aj.iret rfl dX12_bestOf_46 ⟨by rw [hbest, show i - 1 = 20 by omega], _, _, _, hA⟩
    · exact absurd c10 (by omega)
  | succ n ih =>
    intro i best M hin hbest hb20 hi0 hM
    obtain ⟨u, v, w, hA⟩ := hM
    refine aj.iload dX12_bestOf_6 rfl ?_
    refine aj.bipush (v := 21) dX12_bestOf_8 rfl ?_
    refine aj.icmp_geN (a := i) (b := 21) (tgt := 44) dX12_bestOf_10 rfl rfl (by omega) (by omega) rfl (fun c10 => ?_) (fun c10 => ?_)
    · exact absurd c10 (by omega)
    · refine aj.aload_n dX12_bestOf_13 rfl ?_
      refine aj.iload_n dX12_bestOf_14 rfl ?_
      refine aj.iload dX12_bestOf_15 rfl ?_
      refine aj.iload_n dX12_bestOf_17 rfl ?_
      refine aj.iload_n dX12_bestOf_18 rfl ?_
      refine aj.callV1 (d' := 3) (As := [.int (nI s), .int (nI i), .int (nI age), .int (zb (op))]) (rest := []) dX12_bestOf_19 v_X12_315 li_X12_sumOf hA.1 rfl rfl rfl (Nat.le_of_ble_eq_true rfl) (Nat.le_of_ble_eq_true rfl) (c_sumOf s rfl i rfl age rfl (op) ⟨_, _, _, hA⟩ hB (by omega) (by omega) (by omega)) (fun M hM => ?_)
      obtain ⟨u, v, w, hA⟩ := hM
      refine aj.aload_n dX12_bestOf_22 rfl ?_
      refine aj.iload_n dX12_bestOf_23 rfl ?_
      refine aj.iload dX12_bestOf_24 rfl ?_
      refine aj.iload_n dX12_bestOf_26 rfl ?_
      refine aj.iload_n dX12_bestOf_27 rfl ?_
      refine aj.callV1 (d' := 3) (As := [.int (nI s), .int (nI best), .int (nI age), .int (zb (op))]) (rest := [.int (mSum (A 1) sl s age (op) i 10)]) dX12_bestOf_28 v_X12_315 li_X12_sumOf hA.1 rfl rfl rfl (Nat.le_of_ble_eq_true rfl) (Nat.le_of_ble_eq_true rfl) (c_sumOf s rfl best rfl age rfl (op) ⟨_, _, _, hA⟩ hB (by omega) (by omega) (by omega)) (fun M hM => ?_)
      obtain ⟨u, v, w, hA⟩ := hM
      refine aj.icmp_le (tgt := 38) dX12_bestOf_31 rfl (fun c31 => ?_) (fun c31 => ?_)
      · refine aj.iincN (a := i) (c := 1) (lv' := [(5, .int (nI (i + 1))), (4, .int (nI best)), (0, .ref b), (1, .int (nI s)), (2, .int (nI age)), (3, .int (zb (op)))]) dX12_bestOf_38 rfl (Nat.le_of_ble_eq_true rfl) rfl rfl rfl ?_
        refine aj.goto (tgt := 6) dX12_bestOf_41 rfl ?_
        refine aj.pick [0, 1, 2, 3, 4, 5] rfl ?_
        exact ih (i + 1) best M (by omega) (by obtain ⟨j, rfl⟩ : ∃ j, i = j + 1 := ⟨i - 1, by omega⟩; show best = zmax _ (j + 1); rw [zmax_s, if_pos (by have e : best = zmax _ j := hbest; rw [← e]; exact c31)]; exact hbest) (by omega) (by omega) ⟨_, _, _, hA⟩
      · refine aj.iload dX12_bestOf_34 rfl ?_
        refine aj.istore (lv' := [(4, .int (nI i)), (5, .int (nI i)), (0, .ref b), (1, .int (nI s)), (2, .int (nI age)), (3, .int (zb (op)))]) dX12_bestOf_36 (Nat.le_of_ble_eq_true rfl) rfl ?_
        refine aj.iincN (a := i) (c := 1) (lv' := [(5, .int (nI (i + 1))), (4, .int (nI i)), (0, .ref b), (1, .int (nI s)), (2, .int (nI age)), (3, .int (zb (op)))]) dX12_bestOf_38 rfl (Nat.le_of_ble_eq_true rfl) rfl rfl rfl ?_
        refine aj.goto (tgt := 6) dX12_bestOf_41 rfl ?_
        refine aj.pick [0, 1, 2, 3, 4, 5] rfl ?_
        exact ih (i + 1) i M (by omega) (by obtain ⟨j, rfl⟩ : ∃ j, i = j + 1 := ⟨i - 1, by omega⟩; show j + 1 = zmax _ (j + 1); rw [zmax_s, if_neg (by have e : best = zmax _ j := hbest; rw [← e]; exact c31)]) (by omega) (by omega) ⟨_, _, _, hA⟩
theorem c_bestOf {G : zG} {l : Launch} {b : Nat} {M0 M : zM} {I : Nat → Int32} {A : Nat → Nat → Int32} {L : Nat → Nat → Int64} (s : Nat) {x_s : Int32} (e_s : x_s = nI s) (age : Nat) {x_age : Int32} (e_age : x_age = nI age) (op : Prop) [Decidable op] {sl ol : Option (List Nat)} {T : Nat} (hM : mW b M0 M I A L) (hB : mOK (A 1) sl ol T) (hs : s < 4) (hage : age < 2 ^ 20) : am G l kX12_bestOf 4 [.ref b, .int x_s, .int x_age, .int (zb op)] M 0 0 (zr (.int (nI (mBest (A 1) sl s age op 20))) (fun M' => mW b M0 M' I A L)) := by
  subst e_s
  subst e_age
  obtain ⟨u, v, w, hA⟩ := hM
  refine am.of (by decide) (Nat.le_of_ble_eq_true rfl) ?_
  refine aj.iconst (v := 0) dX12_bestOf_0 rfl ?_
  refine aj.istore (lv' := [(4, .int 0), (0, .ref b), (1, .int (nI s)), (2, .int (nI age)), (3, .int (zb (op)))]) dX12_bestOf_1 (Nat.le_of_ble_eq_true rfl) rfl ?_
  refine aj.iconst (v := 1) dX12_bestOf_3 rfl ?_
  refine aj.istore (lv' := [(5, .int 1), (4, .int 0), (0, .ref b), (1, .int (nI s)), (2, .int (nI age)), (3, .int (zb (op)))]) dX12_bestOf_4 (Nat.le_of_ble_eq_true rfl) rfl ?_
  refine aj.pick [0, 1, 2, 3, 4, 5] rfl ?_
  exact bestOf_loop s age op hB hs hage 20 1 0 M (by omega) rfl (by omega) (by omega) ⟨_, _, _, hA⟩
theorem c_bestNow {G : zG} {l : Launch} {b : Nat} {M0 M : zM} {I : Nat → Int32} {A : Nat → Nat → Int32} {L : Nat → Nat → Int64} (s : Nat) {x_s : Int32} (e_s : x_s = nI s) (op : Prop) [Decidable op] {sl ol : Option (List Nat)} {T : Nat} (hM : mW b M0 M I A L) (hB : mOK (A 1) sl ol T) (hs : s < 4) : am G l kX12_bestNow 5 [.ref b, .int x_s, .int (zb op)] M 0 0 (zr (.int (nI (mBest (A 1) sl s (mN (A 1 (21 + s))) op 20))) (fun M' => mW b M0 M' I A L)) := by
  subst e_s
  obtain ⟨u, v, w, hA⟩ := hM
  have hag := (hB.2.2.2.2.1 s hs).2
  refine am.of (by decide) (Nat.le_of_ble_eq_true rfl) ?_
  refine aj.aload_n dX12_bestNow_0 rfl ?_
  refine aj.iload_n dX12_bestNow_1 rfl ?_
  refine aj.aload_n dX12_bestNow_2 rfl ?_
  refine gM1 rfl dX12_bestNow_3 hA ?_
  refine aj.bipush (v := 21) dX12_bestNow_6 rfl ?_
  refine aj.iload_n dX12_bestNow_8 rfl ?_
  refine aj.iaddN (a := 21) (b := s) dX12_bestNow_9 rfl rfl ?_
  refine aM1N (i := 21 + s) dX12_bestNow_10 hA rfl (by omega) ?_
  refine aj.iload_n dX12_bestNow_11 rfl ?_
  refine aj.callV1 (d' := 4) (As := [.int (nI s), .int (A 1 (21 + s)), .int (zb (op))]) (rest := []) dX12_bestNow_12 v_X12_319 li_X12_bestOf hA.1 rfl rfl rfl (Nat.le_of_ble_eq_true rfl) (Nat.le_of_ble_eq_true rfl) (c_bestOf s rfl (mN (A 1 (21 + s))) ((hB.2.2.2.2.1 s hs).1) (op) ⟨_, _, _, hA⟩ hB (by omega) (by omega)) (fun M hM => ?_)
  obtain ⟨u, v, w, hA⟩ := hM
  exact aj.iret rfl dX12_bestNow_15 ⟨rfl, ⟨_, _, _, hA⟩⟩
