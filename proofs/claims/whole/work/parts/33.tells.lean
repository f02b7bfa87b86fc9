/-- two shooters of a set that can land in one place -/
abbrev mMeet (B : Nat → Int32) (sl : Option (List Nat)) (f : Nat → Prop) (nS aim s o : Nat) : Prop := (s < nS ∧ f s) ∧ (o < nS ∧ f o) ∧ ¬ mPls B sl s aim 10 &&& mPls B sl o aim 10 = 0
abbrev mAlike (B : Nat → Int32) (sl : Option (List Nat)) (f : Nat → Prop) [DecidablePred f] (nS aim n : Nat) : Nat := nsum (fun s => zcnt (fun o => mMeet B sl f nS aim s o) s) n
theorem zcnt_le' (f : Nat → Prop) [DecidablePred f] {n c : Nat} (h : n ≤ c) : zcnt f n ≤ c := Nat.le_trans (zcnt_le f n) h
theorem alike_in {G : zG} {l : Launch} {b : Nat} {M0 : zM} {I : Nat → Int32} {A : Nat → Nat → Int32} {L : Nat → Nat → Int64} {Q : Option Value → zM → Prop} (aim : Nat) {x_aim : Int32} (e_aim : x_aim = nI aim) (s acc0 : Nat) (f : Nat → Prop) [DecidablePred f] {sl ol : Option (List Nat)} {T : Nat} (hB : mOK (A 1) sl ol T) (hs : s < mN (A 1 6)) (haim : aim ≤ 20) (ha0 : acc0 ≤ 100) (hk : ∀ M, mW b M0 M I A L → aj G l kX12_alikeAt 5 79 [(4, .int (nI s)), (3, .int (nI (acc0 + zcnt (fun o => mMeet (A 1) sl f (mN (A 1 6)) aim s o) s))), (0, .ref b), (1, .int (zbits f (mN (A 1 6)))), (2, .int x_aim)] [] M 0 0 Q) : ∀ (n i acc : Nat) (M : zM), i + n = s → acc = acc0 + zcnt (fun o => mMeet (A 1) sl f (mN (A 1 6)) aim s o) i → mW b M0 M I A L → aj G l kX12_alikeAt 5 20 [(5, .int (nI i)), (4, .int (nI s)), (3, .int (nI acc)), (0, .ref b), (1, .int (zbits f (mN (A 1 6)))), (2, .int x_aim)] [] M 0 0 Q := by
  have hT := hB.2.2.2.2.2.2.2.2.1
  have hN6 := hB.2.2.1.2
  have hN25 := hB.2.2.2.2.2.1.2
  have hN26 := hB.2.2.2.2.2.2.1.2
  have hN27 := hB.2.2.2.2.2.2.2.1.2
  have hN1 := hB.1.1.2
  have hN2 := hB.1.2.1.2
  intro n
  induction n with
  | zero =>
    intro i acc M hin hacc hM
    obtain ⟨u, v, w, hA⟩ := hM
    have hzl := zcnt_le (fun o => mMeet (A 1) sl f (mN (A 1 6)) aim s o) i
    rw [show i = s by omega] at hacc
    subst hacc
    refine aj.iload dX12_alikeAt_20 rfl ?_
    refine aj.iload dX12_alikeAt_22 rfl ?_
    refine aj.icmp_geN (a := i) (b := s) (tgt := 79) dX12_alikeAt_24 rfl rfl (by omega) (by omega) rfl (fun c24 => ?_) (fun c24 => ?_)
    · refine aj.pick [1, 2, 3, 4, 5] rfl ?_
      exact hk M ⟨_, _, _, hA⟩
    · exact absurd c24 (by omega)
  | succ n ih =>
    intro i acc M hin hacc hM
    obtain ⟨u, v, w, hA⟩ := hM
    have hzl := zcnt_le (fun o => mMeet (A 1) sl f (mN (A 1 6)) aim s o) i
    refine aj.iload dX12_alikeAt_20 rfl ?_
    refine aj.iload dX12_alikeAt_22 rfl ?_
    refine aj.icmp_geN (a := i) (b := s) (tgt := 79) dX12_alikeAt_24 rfl rfl (by omega) (by omega) rfl (fun c24 => ?_) (fun c24 => ?_)
    · exact absurd c24 (by omega)
    · refine aj.iload_n dX12_alikeAt_27 rfl ?_
      refine aj.iload_n dX12_alikeAt_28 rfl ?_
      refine aj.i2l dX12_alikeAt_29 ?_
      refine aj.iload dX12_alikeAt_30 rfl ?_
      refine aj.callS1 (d' := 0) (As := [.long (Int32.toInt64 (zbits f (mN (A 1 6)))), .int (nI s)]) (rest := [.int (nI acc)]) dX12_alikeAt_32 v_X12_391 w1787 rfl rfl (Nat.le_of_ble_eq_true rfl) (Nat.le_of_ble_eq_true rfl) (c_isIn _ f (mN (A 1 6)) s rfl (by omega) (by omega)) (fun M hM => ?_)
      subst hM
      refine aj.if_eqB (tgt := 70) dX12_alikeAt_35 rfl (fun c35 => ?_) (fun c35 => ?_)
      · refine aj.iconst (v := 0) dX12_alikeAt_70 rfl ?_
        refine aj.iaddN (a := acc) (b := 0) dX12_alikeAt_71 rfl rfl ?_
        refine aj.istore_n (lv' := [(3, .int (nI (acc + 0))), (5, .int (nI i)), (4, .int (nI s)), (0, .ref b), (1, .int (zbits f (mN (A 1 6)))), (2, .int x_aim)]) dX12_alikeAt_72 (Nat.le_of_ble_eq_true rfl) rfl ?_
        refine aj.iincN (a := i) (c := 1) (lv' := [(5, .int (nI (i + 1))), (3, .int (nI (acc + 0))), (4, .int (nI s)), (0, .ref b), (1, .int (zbits f (mN (A 1 6)))), (2, .int x_aim)]) dX12_alikeAt_73 rfl (Nat.le_of_ble_eq_true rfl) rfl rfl rfl ?_
        refine aj.goto (tgt := 20) dX12_alikeAt_76 rfl ?_
        refine aj.pick [0, 2, 1, 3, 4, 5] rfl ?_
        exact ih (i + 1) _ M (by omega) (by rw [hacc, zcnt_s, if_neg (fun z => c35 z.1)]; omega) ⟨_, _, _, hA⟩
      · refine aj.iload_n dX12_alikeAt_38 rfl ?_
        refine aj.i2l dX12_alikeAt_39 ?_
        refine aj.iload dX12_alikeAt_40 rfl ?_
        refine aj.callS1 (d' := 0) (As := [.long (Int32.toInt64 (zbits f (mN (A 1 6)))), .int (nI i)]) (rest := [.int (nI acc)]) dX12_alikeAt_42 v_X12_391 w1787 rfl rfl (Nat.le_of_ble_eq_true rfl) (Nat.le_of_ble_eq_true rfl) (c_isIn _ f (mN (A 1 6)) i rfl (by omega) (by omega)) (fun M hM => ?_)
        subst hM
        refine aj.if_eqB (tgt := 70) dX12_alikeAt_45 rfl (fun c45 => ?_) (fun c45 => ?_)
        · refine aj.iconst (v := 0) dX12_alikeAt_70 rfl ?_
          refine aj.iaddN (a := acc) (b := 0) dX12_alikeAt_71 rfl rfl ?_
          refine aj.istore_n (lv' := [(3, .int (nI (acc + 0))), (5, .int (nI i)), (4, .int (nI s)), (0, .ref b), (1, .int (zbits f (mN (A 1 6)))), (2, .int x_aim)]) dX12_alikeAt_72 (Nat.le_of_ble_eq_true rfl) rfl ?_
          refine aj.iincN (a := i) (c := 1) (lv' := [(5, .int (nI (i + 1))), (3, .int (nI (acc + 0))), (4, .int (nI s)), (0, .ref b), (1, .int (zbits f (mN (A 1 6)))), (2, .int x_aim)]) dX12_alikeAt_73 rfl (Nat.le_of_ble_eq_true rfl) rfl rfl rfl ?_
          refine aj.goto (tgt := 20) dX12_alikeAt_76 rfl ?_
          refine aj.pick [0, 2, 1, 3, 4, 5] rfl ?_
          exact ih (i + 1) _ M (by omega) (by rw [hacc, zcnt_s, if_neg (fun z => c45 z.2.1)]; omega) ⟨_, _, _, hA⟩
        · refine aj.aload_n dX12_alikeAt_48 rfl ?_
          refine aj.iload dX12_alikeAt_49 rfl ?_
          refine aj.iload_n dX12_alikeAt_51 rfl ?_
          refine aj.callV1 (d' := 4) (As := [.int (nI s), .int x_aim]) (rest := [.int (nI acc)]) dX12_alikeAt_52 v_X12_395 li_X12_placesOf hA.1 rfl rfl rfl (Nat.le_of_ble_eq_true rfl) (Nat.le_of_ble_eq_true rfl) (c_placesOf s rfl aim e_aim ⟨_, _, _, hA⟩ hB (by omega) (by omega)) (fun M hM => ?_)
          obtain ⟨u, v, w, hA⟩ := hM
          refine aj.aload_n dX12_alikeAt_55 rfl ?_
          refine aj.iload dX12_alikeAt_56 rfl ?_
          refine aj.iload_n dX12_alikeAt_58 rfl ?_
          refine aj.callV1 (d' := 4) (As := [.int (nI i), .int x_aim]) (rest := [.int (mPls (A 1) sl s aim 10), .int (nI acc)]) dX12_alikeAt_59 v_X12_395 li_X12_placesOf hA.1 rfl rfl rfl (Nat.le_of_ble_eq_true rfl) (Nat.le_of_ble_eq_true rfl) (c_placesOf i rfl aim e_aim ⟨_, _, _, hA⟩ hB (by omega) (by omega)) (fun M hM => ?_)
          obtain ⟨u, v, w, hA⟩ := hM
          refine aj.iand dX12_alikeAt_62 ?_
          refine aj.if_eq (tgt := 70) dX12_alikeAt_63 rfl (fun c63 => ?_) (fun c63 => ?_)
          · refine aj.iconst (v := 0) dX12_alikeAt_70 rfl ?_
            refine aj.iaddN (a := acc) (b := 0) dX12_alikeAt_71 rfl rfl ?_
            refine aj.istore_n (lv' := [(3, .int (nI (acc + 0))), (5, .int (nI i)), (4, .int (nI s)), (0, .ref b), (1, .int (zbits f (mN (A 1 6)))), (2, .int x_aim)]) dX12_alikeAt_72 (Nat.le_of_ble_eq_true rfl) rfl ?_
            refine aj.iincN (a := i) (c := 1) (lv' := [(5, .int (nI (i + 1))), (3, .int (nI (acc + 0))), (4, .int (nI s)), (0, .ref b), (1, .int (zbits f (mN (A 1 6)))), (2, .int x_aim)]) dX12_alikeAt_73 rfl (Nat.le_of_ble_eq_true rfl) rfl rfl rfl ?_
            refine aj.goto (tgt := 20) dX12_alikeAt_76 rfl ?_
            refine aj.pick [0, 2, 1, 3, 4, 5] rfl ?_
            exact ih (i + 1) _ M (by omega) (by rw [hacc, zcnt_s, if_neg (fun z => z.2.2 c63)]; omega) ⟨_, _, _, hA⟩
          · refine aj.iconst (v := 1) dX12_alikeAt_66 rfl ?_
            refine aj.goto (tgt := 71) dX12_alikeAt_67 rfl ?_
            refine aj.iaddN (a := acc) (b := 1) dX12_alikeAt_71 rfl rfl ?_
            refine aj.istore_n (lv' := [(3, .int (nI (acc + 1))), (5, .int (nI i)), (4, .int (nI s)), (0, .ref b), (1, .int (zbits f (mN (A 1 6)))), (2, .int x_aim)]) dX12_alikeAt_72 (Nat.le_of_ble_eq_true rfl) rfl ?_
            refine aj.iincN (a := i) (c := 1) (lv' := [(5, .int (nI (i + 1))), (3, .int (nI (acc + 1))), (4, .int (nI s)), (0, .ref b), (1, .int (zbits f (mN (A 1 6)))), (2, .int x_aim)]) dX12_alikeAt_73 rfl (Nat.le_of_ble_eq_true rfl) rfl rfl rfl ?_
            refine aj.goto (tgt := 20) dX12_alikeAt_76 rfl ?_
            refine aj.pick [0, 2, 1, 3, 4, 5] rfl ?_
            exact ih (i + 1) _ M (by omega) (by rw [hacc, zcnt_s, if_pos ⟨c35, c45, c63⟩]; omega) ⟨_, _, _, hA⟩
theorem alike_out {G : zG} {l : Launch} {b : Nat} {M0 : zM} {I : Nat → Int32} {A : Nat → Nat → Int32} {L : Nat → Nat → Int64} (aim : Nat) {x_aim : Int32} (e_aim : x_aim = nI aim) (f : Nat → Prop) [DecidablePred f] {sl ol : Option (List Nat)} {T : Nat} (hB : mOK (A 1) sl ol T) (haim : aim ≤ 20) : ∀ (n i : Nat) (acc : Nat) (M : zM), i + n = mN (A 1 6) → acc = mAlike (A 1) sl f (mN (A 1 6)) aim i → acc ≤ 4 * i → mW b M0 M I A L → aj G l kX12_alikeAt 5 5 [(4, .int (nI i)), (3, .int (nI acc)), (0, .ref b), (1, .int (zbits f (mN (A 1 6)))), (2, .int x_aim)] [] M 0 0 (zr (.int (nI (mAlike (A 1) sl f (mN (A 1 6)) aim (mN (A 1 6))))) (fun M' => mW b M0 M' I A L)) := by
  have hT := hB.2.2.2.2.2.2.2.2.1
  have hN6 := hB.2.2.1.2
  have hN25 := hB.2.2.2.2.2.1.2
  have hN26 := hB.2.2.2.2.2.2.1.2
  have hN27 := hB.2.2.2.2.2.2.2.1.2
  have hN1 := hB.1.1.2
  have hN2 := hB.1.2.1.2
  intro n
  induction n with
  | zero =>
    intro i acc M hin hacc hal hM
    obtain ⟨u, v, w, hA⟩ := hM
    refine aj.iload dX12_alikeAt_5 rfl ?_
    refine aj.aload_n dX12_alikeAt_7 rfl ?_
    refine gM1 rfl dX12_alikeAt_8 hA ?_
    refine aj.bipush (v := 6) dX12_alikeAt_11 rfl ?_
    refine aM1N (i := 6) dX12_alikeAt_13 hA rfl (by omega) ?_
    refine aj.icmp_geN (a := i) (b := mN (A 1 6)) (tgt := 85) dX12_alikeAt_14 rfl hB.2.2.1.1 (by omega) (by omega) rfl (fun c14 => ?_) (fun c14 => ?_)
    · refine aj.iload_n dX12_alikeAt_85 rfl ?_
      exact aj.iret rfl dX12_alikeAt_86 ⟨by rw [hacc, show i = mN (A 1 6) by omega], _, _, _, hA⟩
    · exact absurd c14 (by omega)
  | succ n ih =>
    intro i acc M hin hacc hal hM
    obtain ⟨u, v, w, hA⟩ := hM
    refine aj.iload dX12_alikeAt_5 rfl ?_
    refine aj.aload_n dX12_alikeAt_7 rfl ?_
    refine gM1 rfl dX12_alikeAt_8 hA ?_
    refine aj.bipush (v := 6) dX12_alikeAt_11 rfl ?_
    refine aM1N (i := 6) dX12_alikeAt_13 hA rfl (by omega) ?_
    refine aj.icmp_geN (a := i) (b := mN (A 1 6)) (tgt := 85) dX12_alikeAt_14 rfl hB.2.2.1.1 (by omega) (by omega) rfl (fun c14 => ?_) (fun c14 => ?_)
    · exact absurd c14 (by omega)
    · refine aj.iconst (v := 0) dX12_alikeAt_17 rfl ?_
      refine aj.istore (lv' := [(5, .int 0), (4, .int (nI i)), (3, .int (nI acc)), (0, .ref b), (1, .int (zbits f (mN (A 1 6)))), (2, .int x_aim)]) dX12_alikeAt_18 (Nat.le_of_ble_eq_true rfl) rfl ?_
      refine aj.pick [0, 1, 2, 3, 4, 5] rfl ?_
      refine alike_in aim e_aim i acc f hB (by omega) haim (by omega) (fun M hM => ?_) i 0 acc M (by omega) rfl ⟨_, _, _, hA⟩
      obtain ⟨u, v, w, hA⟩ := hM
      refine aj.iincN (a := i) (c := 1) (lv' := [(4, .int (nI (i + 1))), (3, .int (nI (acc + zcnt (fun o => mMeet (A 1) sl f (mN (A 1 6)) aim i o) i))), (0, .ref b), (1, .int (zbits f (mN (A 1 6)))), (2, .int x_aim)]) dX12_alikeAt_79 rfl (Nat.le_of_ble_eq_true rfl) rfl rfl rfl ?_
      refine aj.goto (tgt := 5) dX12_alikeAt_82 rfl ?_
      refine aj.pick [0, 1, 2, 3, 4] rfl ?_
      exact ih (i + 1) _ M (by omega) (by rw [hacc]; rfl) (by have := zcnt_le (fun o => mMeet (A 1) sl f (mN (A 1 6)) aim i o) i; omega) ⟨_, _, _, hA⟩
theorem c_alikeAt {G : zG} {l : Launch} {b : Nat} {M0 M : zM} {I : Nat → Int32} {A : Nat → Nat → Int32} {L : Nat → Nat → Int64} (aim : Nat) {x_aim : Int32} (e_aim : x_aim = nI aim) (f : Nat → Prop) [DecidablePred f] {sl ol : Option (List Nat)} {T : Nat} (hM : mW b M0 M I A L) (hB : mOK (A 1) sl ol T) (haim : aim ≤ 20) : am G l kX12_alikeAt 5 [.ref b, .int (zbits f (mN (A 1 6))), .int x_aim] M 0 0 (zr (.int (nI (mAlike (A 1) sl f (mN (A 1 6)) aim (mN (A 1 6))))) (fun M' => mW b M0 M' I A L)) := by
  obtain ⟨u, v, w, hA⟩ := hM
  refine am.of (by decide) (Nat.le_of_ble_eq_true rfl) ?_
  refine aj.iconst (v := 0) dX12_alikeAt_0 rfl ?_
  refine aj.istore_n (lv' := [(3, .int 0), (0, .ref b), (1, .int (zbits f (mN (A 1 6)))), (2, .int x_aim)]) dX12_alikeAt_1 (Nat.le_of_ble_eq_true rfl) rfl ?_
  refine aj.iconst (v := 0) dX12_alikeAt_2 rfl ?_
  refine aj.istore (lv' := [(4, .int 0), (3, .int 0), (0, .ref b), (1, .int (zbits f (mN (A 1 6)))), (2, .int x_aim)]) dX12_alikeAt_3 (Nat.le_of_ble_eq_true rfl) rfl ?_
  refine aj.pick [0, 1, 2, 3, 4] rfl ?_
  exact alike_out aim e_aim f hB haim (mN (A 1 6)) 0 0 M (by omega) rfl (by omega) ⟨_, _, _, hA⟩
/-- the first of 0 to n by which least comes out -/
def zmin (f : Nat → Nat) : Nat → Nat
  | 0 => 0
  | n + 1 => if f (n + 1) < f (zmin f n) then n + 1 else zmin f n
theorem zmin_s (f : Nat → Nat) (n : Nat) : zmin f (n + 1) = if f (n + 1) < f (zmin f n) then n + 1 else zmin f n := rfl
theorem zmin_le (f : Nat → Nat) : ∀ n, zmin f n ≤ n
  | 0 => Nat.le_refl 0
  | n + 1 => by
    rw [zmin_s]
    split
    · exact Nat.le_refl _
    · have := zmin_le f n; omega
def zmn (f : Nat → Nat) (i : Nat) (x : Int32) (y : Nat) : Prop := (i = 0 ∧ x = -1 ∧ y = 268435456) ∨ (0 < i ∧ x = nI (zmin f (i - 1)) ∧ y = f (zmin f (i - 1)))
theorem zmn_up {f : Nat → Nat} {i : Nat} {x : Int32} {y : Nat} (h : zmn f i x y) (hl : f i < y) : zmn f (i + 1) (nI i) (f i) := by
  refine Or.inr ⟨by omega, ?_⟩
  rw [Nat.add_sub_cancel]
  rcases h with ⟨rfl, -, -⟩ | ⟨h0, -, rfl⟩
  · exact ⟨rfl, rfl⟩
  · obtain ⟨j, rfl⟩ : ∃ j, i = j + 1 := ⟨i - 1, by omega⟩
    rw [Nat.add_sub_cancel] at hl
    rw [zmin_s, if_pos hl]
    exact ⟨rfl, rfl⟩
theorem zmn_no {f : Nat → Nat} {i : Nat} {x : Int32} {y : Nat} (h : zmn f i x y) (hl : y ≤ f i) (hf : f i < 268435456) : zmn f (i + 1) x y := by
  rcases h with ⟨rfl, -, rfl⟩ | ⟨h0, rfl, rfl⟩
  · omega
  · refine Or.inr ⟨by omega, ?_⟩
    rw [Nat.add_sub_cancel]
    obtain ⟨j, rfl⟩ : ∃ j, i = j + 1 := ⟨i - 1, by omega⟩
    rw [Nat.add_sub_cancel] at hl ⊢
    rw [zmin_s, if_neg (by omega)]
    exact ⟨rfl, rfl⟩
theorem mAlike_le (B : Nat → Int32) (sl : Option (List Nat)) (f : Nat → Prop) [DecidablePred f] {nS aim : Nat} (h : nS ≤ 4) : mAlike B sl f nS aim nS ≤ 16 := by
  have : ∀ n, n ≤ 4 → nsum (fun s => zcnt (fun o => mMeet B sl f nS aim s o) s) n ≤ 4 * n := by
    intro n
    induction n with
    | zero => intro _; exact Nat.le_refl _
    | succ n ih =>
      intro hn
      show nsum _ n + zcnt _ n ≤ 4 * (n + 1)
      have h1 := ih (by omega)
      have h2 := zcnt_le (fun o => mMeet B sl f nS aim n o) n
      omega
  have h1 := this nS h
  show nsum _ nS ≤ 16
  omega
theorem tells_loop {G : zG} {l : Launch} {b : Nat} {M0 : zM} {I : Nat → Int32} {A : Nat → Nat → Int32} {L : Nat → Nat → Int64} (f : Nat → Prop) [DecidablePred f] {sl ol : Option (List Nat)} {T : Nat} (hB : mOK (A 1) sl ol T) (h0 : ¬ zbits f (mN (A 1 6)) = 0) : ∀ (n i : Nat) (x : Int32) (y : Nat) (M : zM), i + n = 21 → zmn (fun j => mAlike (A 1) sl f (mN (A 1 6)) j (mN (A 1 6))) i x y → y ≤ 268435456 → mW b M0 M I A L → aj G l kX12_tells 7 37 [(7, .int (nI i)), (6, .int (nI y)), (5, .int x), (4, .int (zbits f (mN (A 1 6)))), (0, .ref b)] [] M 0 0 (zr (.int (nI (zmin (fun j => mAlike (A 1) sl f (mN (A 1 6)) j (mN (A 1 6))) 20))) (fun M' => mW b M0 M' I A L)) := by
  have hT := hB.2.2.2.2.2.2.2.2.1
  have hN6 := hB.2.2.1.2
  have hN25 := hB.2.2.2.2.2.1.2
  have hN26 := hB.2.2.2.2.2.2.1.2
  have hN27 := hB.2.2.2.2.2.2.2.1.2
  have hN1 := hB.1.1.2
  have hN2 := hB.1.2.1.2
  intro n
  induction n with
  | zero =>
    intro i x y M hin hz hy hM
    obtain ⟨u, v, w, hA⟩ := hM
    have hal : mAlike (A 1) sl f (mN (A 1 6)) i (mN (A 1 6)) ≤ 16 := mAlike_le _ _ _ hN6
    refine aj.iload dX12_tells_37 rfl ?_
    refine aj.bipush (v := 21) dX12_tells_39 rfl ?_
    refine aj.icmp_geN (a := i) (b := 21) (tgt := 83) dX12_tells_41 rfl rfl (by omega) (by omega) rfl (fun c41 => ?_) (fun c41 => ?_)
    · refine aj.iload dX12_tells_83 rfl ?_
      exact aj.iret rfl dX12_tells_85 ⟨by rcases hz with ⟨q, -⟩ | ⟨-, rfl, -⟩; omega; rw [show i - 1 = 20 by omega], _, _, _, hA⟩
    · exact absurd c41 (by omega)
  | succ n ih =>
    intro i x y M hin hz hy hM
    obtain ⟨u, v, w, hA⟩ := hM
    have hal : mAlike (A 1) sl f (mN (A 1 6)) i (mN (A 1 6)) ≤ 16 := mAlike_le _ _ _ hN6
    refine aj.iload dX12_tells_37 rfl ?_
    refine aj.bipush (v := 21) dX12_tells_39 rfl ?_
    refine aj.icmp_geN (a := i) (b := 21) (tgt := 83) dX12_tells_41 rfl rfl (by omega) (by omega) rfl (fun c41 => ?_) (fun c41 => ?_)
    · exact absurd c41 (by omega)
    · refine aj.iload dX12_tells_44 rfl ?_
      refine aj.if_eq (tgt := 83) dX12_tells_46 rfl (fun c46 => ?_) (fun c46 => ?_)
      · exact absurd c46 h0
      · refine aj.aload_n dX12_tells_49 rfl ?_
        refine aj.iload dX12_tells_50 rfl ?_
        refine aj.iload dX12_tells_52 rfl ?_
        refine aj.callV1 (d' := 5) (As := [.int (zbits f (mN (A 1 6))), .int (nI i)]) (rest := []) dX12_tells_54 v_X12_399 li_X12_alikeAt hA.1 rfl rfl rfl (Nat.le_of_ble_eq_true rfl) (Nat.le_of_ble_eq_true rfl) (c_alikeAt i rfl f ⟨_, _, _, hA⟩ hB (by omega)) (fun M hM => ?_)
        obtain ⟨u, v, w, hA⟩ := hM
        refine aj.istore (lv' := [(8, .int (nI (mAlike (A 1) sl f (mN (A 1 6)) i (mN (A 1 6))))), (7, .int (nI i)), (6, .int (nI y)), (5, .int x), (4, .int (zbits f (mN (A 1 6)))), (0, .ref b)]) dX12_tells_57 (Nat.le_of_ble_eq_true rfl) rfl ?_
        refine aj.iload dX12_tells_59 rfl ?_
        refine aj.iload dX12_tells_61 rfl ?_
        refine aj.icmp_ltN (a := mAlike (A 1) sl f (mN (A 1 6)) i (mN (A 1 6))) (b := y) (tgt := 69) dX12_tells_63 rfl rfl (by omega) (by omega) rfl (fun c63 => ?_) (fun c63 => ?_)
        · refine aj.iload dX12_tells_69 rfl ?_
          refine aj.istore (lv' := [(5, .int (nI i)), (8, .int (nI (mAlike (A 1) sl f (mN (A 1 6)) i (mN (A 1 6))))), (7, .int (nI i)), (6, .int (nI y)), (4, .int (zbits f (mN (A 1 6)))), (0, .ref b)]) dX12_tells_71 (Nat.le_of_ble_eq_true rfl) rfl ?_
          refine aj.iload dX12_tells_73 rfl ?_
          refine aj.istore (lv' := [(6, .int (nI (mAlike (A 1) sl f (mN (A 1 6)) i (mN (A 1 6))))), (5, .int (nI i)), (8, .int (nI (mAlike (A 1) sl f (mN (A 1 6)) i (mN (A 1 6))))), (7, .int (nI i)), (4, .int (zbits f (mN (A 1 6)))), (0, .ref b)]) dX12_tells_75 (Nat.le_of_ble_eq_true rfl) rfl ?_
          refine aj.iincN (a := i) (c := 1) (lv' := [(7, .int (nI (i + 1))), (6, .int (nI (mAlike (A 1) sl f (mN (A 1 6)) i (mN (A 1 6))))), (5, .int (nI i)), (8, .int (nI (mAlike (A 1) sl f (mN (A 1 6)) i (mN (A 1 6))))), (4, .int (zbits f (mN (A 1 6)))), (0, .ref b)]) dX12_tells_77 rfl (Nat.le_of_ble_eq_true rfl) rfl rfl rfl ?_
          refine aj.goto (tgt := 37) dX12_tells_80 rfl ?_
          refine aj.pick [0, 1, 2, 4, 5] rfl ?_
          exact ih (i + 1) _ _ M (by omega) (zmn_up hz c63) (by omega) ⟨_, _, _, hA⟩
        · refine aj.goto (tgt := 77) dX12_tells_66 rfl ?_
          refine aj.iincN (a := i) (c := 1) (lv' := [(7, .int (nI (i + 1))), (8, .int (nI (mAlike (A 1) sl f (mN (A 1 6)) i (mN (A 1 6))))), (6, .int (nI y)), (5, .int x), (4, .int (zbits f (mN (A 1 6)))), (0, .ref b)]) dX12_tells_77 rfl (Nat.le_of_ble_eq_true rfl) rfl rfl rfl ?_
          refine aj.goto (tgt := 37) dX12_tells_80 rfl ?_
          refine aj.pick [0, 2, 3, 4, 5] rfl ?_
          exact ih (i + 1) x y M (by omega) (zmn_no hz c63 (by show mAlike _ _ _ _ _ _ < _; omega)) hy ⟨_, _, _, hA⟩
theorem tells_none {G : zG} {l : Launch} {b : Nat} {M0 : zM} {I : Nat → Int32} {A : Nat → Nat → Int32} {L : Nat → Nat → Int64} (f : Nat → Prop) [DecidablePred f] (nS : Nat) (h0 : zbits f nS = 0) (M : zM) (hM : mV b M0 M I A L) : aj G l kX12_tells 7 37 [(7, .int 0), (6, .int 268435456), (5, .int (-1)), (4, .int (zbits f nS)), (0, .ref b)] [] M 0 0 (zr (.int (-1)) (fun M' => mV b M0 M' I A L)) := by
  obtain ⟨g, u, v, w, hA⟩ := hM
  refine aj.iload dX12_tells_37 rfl ?_
  refine aj.bipush (v := 21) dX12_tells_39 rfl ?_
  refine aj.icmp_geN (a := 0) (b := 21) (tgt := 83) dX12_tells_41 rfl rfl (by omega) (by omega) rfl (fun c41 => ?_) (fun c41 => ?_)
  · exact absurd c41 (by omega)
  · refine aj.iload dX12_tells_44 rfl ?_
    refine aj.if_eq (tgt := 83) dX12_tells_46 rfl (fun c46 => ?_) (fun c46 => ?_)
    · refine aj.iload dX12_tells_83 rfl ?_
      exact aj.iret rfl dX12_tells_85 ⟨rfl, _, _, _, _, hA⟩
    · exact absurd h0 c46
theorem q_tells {G : zG} {l : Launch} {b : Nat} {M0 M : zM} {I : Nat → Int32} {A : Nat → Nat → Int32} {L : Nat → Nat → Int64} (t : Int32) (aim : Int32) (hM : mW b M0 M I A L) (hTr : ∀ j, j < 4 → bd (A 33 j) 40) {sl ol : Option (List Nat)} {T : Nat} (hB : mOK (A 1) sl ol T) : am G l kX12_tells 7 [.ref b, .int t, .int aim] M 0 0 (zr (.int (if mSeenC A L t aim = 0 then (if zbits (fun s => 0 < mWays (A 1) sl L (mN t) s (mN aim) (mN (A 33 (mN t)))) (mN (A 1 6)) = 0 then -1 else nI (zmin (fun j => mAlike (A 1) sl (fun s => 0 < mWays (A 1) sl L (mN t) s (mN aim) (mN (A 33 (mN t)))) (mN (A 1 6)) j (mN (A 1 6))) 20)) else mSeenC A L t aim)) (fun M' => mV b M0 M' I A L)) := by
  obtain ⟨u, v, w, hA⟩ := hM
  refine am.of (by decide) (Nat.le_of_ble_eq_true rfl) ?_
  refine aj.aload_n dX12_tells_0 rfl ?_
  refine aj.iconst (v := 0) dX12_tells_1 rfl ?_
  refine pM0 rfl dX12_tells_2 hA (fun M hA => ?_)
  refine aj.aload_n dX12_tells_5 rfl ?_
  refine aj.iload_n dX12_tells_6 rfl ?_
  refine aj.iload_n dX12_tells_7 rfl ?_
  refine aj.callV1 (d' := 2) (As := [.int t, .int aim]) (rest := []) dX12_tells_8 v_X12_383 li_X12_noSeen hA.1 rfl rfl rfl (Nat.le_of_ble_eq_true rfl) (Nat.le_of_ble_eq_true rfl) (q_noSeen t aim ⟨_, _, _, hA⟩ hTr hB) (fun M hM => ?_)
  obtain ⟨u, v, w, hA⟩ := hM
  refine aj.istore_n (lv' := [(3, .int (mSeenC A L t aim)), (0, .ref b), (1, .int t), (2, .int aim)]) dX12_tells_11 (Nat.le_of_ble_eq_true rfl) rfl ?_
  refine aj.iload_n dX12_tells_12 rfl ?_
  refine aj.if_eq (tgt := 18) dX12_tells_13 rfl (fun c13 => ?_) (fun c13 => ?_)
  · obtain ⟨k1, k2, k3, k4, k5⟩ := mSeenC_0 c13
    have h_t := inR_bd (n := 3) k1 (by decide)
    have h2_t := h_t.2
    have h_aim := inR_bd (n := 20) k2 (by decide)
    have h2_aim := h_aim.2
    have hok := seenOK_of (inR_bd1 (n := 8) k4 (by decide)).2.1 k5
    refine aj.aload_n dX12_tells_18 rfl ?_
    refine aj.iload_n dX12_tells_19 rfl ?_
    refine aj.iload_n dX12_tells_20 rfl ?_
    refine aj.callV1 (d' := 6) (As := [.int t, .int aim]) (rest := []) dX12_tells_21 v_X12_386 li_X12_shootersOf hA.1 rfl rfl rfl (Nat.le_of_ble_eq_true rfl) (Nat.le_of_ble_eq_true rfl) (c_shootersOf (mN t) h_t.1 (mN aim) h_aim.1 (mN (A 33 (mN t))) (mV.of ⟨_, _, _, hA⟩) hB (by omega) (by omega) (hTr (mN t) (by omega)).1 hok) (fun M hM => ?_)
    obtain ⟨g, u, v, w, hA⟩ := hM
    refine aj.istore (lv' := [(4, .int (zbits (fun s => 0 < mWays (A 1) sl L (mN t) s (mN aim) (mN (A 33 (mN t)))) (mN (A 1 6)))), (3, .int (mSeenC A L t aim)), (0, .ref b), (1, .int t), (2, .int aim)]) dX12_tells_24 (Nat.le_of_ble_eq_true rfl) rfl ?_
    refine aj.iconst (v := (-1)) dX12_tells_26 rfl ?_
    refine aj.istore (lv' := [(5, .int (-1)), (4, .int (zbits (fun s => 0 < mWays (A 1) sl L (mN t) s (mN aim) (mN (A 33 (mN t)))) (mN (A 1 6)))), (3, .int (mSeenC A L t aim)), (0, .ref b), (1, .int t), (2, .int aim)]) dX12_tells_27 (Nat.le_of_ble_eq_true rfl) rfl ?_
    refine aj.ldcw dX12_tells_29 w1781 ?_
    refine aj.istore (lv' := [(6, .int 268435456), (5, .int (-1)), (4, .int (zbits (fun s => 0 < mWays (A 1) sl L (mN t) s (mN aim) (mN (A 33 (mN t)))) (mN (A 1 6)))), (3, .int (mSeenC A L t aim)), (0, .ref b), (1, .int t), (2, .int aim)]) dX12_tells_32 (Nat.le_of_ble_eq_true rfl) rfl ?_
    refine aj.iconst (v := 0) dX12_tells_34 rfl ?_
    refine aj.istore (lv' := [(7, .int 0), (6, .int 268435456), (5, .int (-1)), (4, .int (zbits (fun s => 0 < mWays (A 1) sl L (mN t) s (mN aim) (mN (A 33 (mN t)))) (mN (A 1 6)))), (3, .int (mSeenC A L t aim)), (0, .ref b), (1, .int t), (2, .int aim)]) dX12_tells_35 (Nat.le_of_ble_eq_true rfl) rfl ?_
    refine aj.pick [0, 1, 2, 3, 5] rfl ?_
    rw [if_pos c13]
    by_cases h0 : zbits (fun s => 0 < mWays (A 1) sl L (mN t) s (mN aim) (mN (A 33 (mN t)))) (mN (A 1 6)) = 0
    · rw [if_pos h0]
      exact tells_none _ _ h0 M ⟨_, _, _, _, hA⟩
    · rw [if_neg h0]
      exact (tells_loop (A := va_up A 21 g) (f := (fun s => 0 < mWays (A 1) sl L (mN t) s (mN aim) (mN (A 33 (mN t))))) hB h0 21 0 (-1) 268435456 M (by omega) (Or.inl ⟨rfl, rfl, rfl⟩) (by omega) ⟨_, _, _, hA⟩).mono (fun r M h => ⟨h.1, _, h.2⟩)
  · refine aj.iload_n dX12_tells_16 rfl ?_
    exact aj.iret rfl dX12_tells_17 ⟨by rw [if_neg c13], mV.of ⟨_, _, _, hA⟩⟩
