/-- the reference object, its row 'landed' hidden too -/
def mV (b : Nat) (M0 M : zM) (I : Nat → Int32) (A : Nat → Nat → Int32) (L : Nat → Nat → Int64) : Prop := ∃ g : Nat → Int32, mW b M0 M I (va_up A 21 g) L
theorem mV.of {b : Nat} {M0 M : zM} {I : Nat → Int32} {A : Nat → Nat → Int32} {L : Nat → Nat → Int64} (h : mW b M0 M I A L) : mV b M0 M I A L := ⟨A 21, by rw [va_up_id]; exact h⟩
/-- by how many lots a place is landed on -/
abbrev mCnt (B : Nat → Int32) (sl : Option (List Nat)) (s aim k n : Nat) : Nat := zcnt (fun lot => mLn B sl s aim lot = k) n
theorem zmax_congr {f g : Nat → Int32} : ∀ {n : Nat}, (∀ k, k ≤ n → f k = g k) → zmax f n = zmax g n
  | 0, _ => rfl
  | n + 1, h => by
    have ih := zmax_congr (n := n) (fun k hk => h k (by omega))
    have hl := zmax_le g n
    rw [zmax_s, zmax_s, ih, h (n + 1) (Nat.le_refl _), h (zmax g n) (by omega)]
theorem lays_l1 {G : zG} {l : Launch} {b : Nat} {M0 : zM} {I : Nat → Int32} {A : Nat → Nat → Int32} {L : Nat → Nat → Int64} {Q : Option Value → zM → Prop} (x y : Int32) (hk : ∀ (g : Nat → Int32) (M : zM), (∀ k, k < 21 → g k = 0) → mW b M0 M I (va_up A 21 g) L → aj G l kX12_laysLanded 4 21 [(0, .ref b), (1, .int x), (2, .int y)] [] M 0 0 Q) : ∀ (n i : Nat) (g : Nat → Int32) (M : zM), i + n = 21 → (∀ k, k < i → g k = 0) → mW b M0 M I (va_up A 21 g) L → aj G l kX12_laysLanded 4 2 [(3, .int (nI i)), (0, .ref b), (1, .int x), (2, .int y)] [] M 0 0 Q := by
  intro n
  induction n with
  | zero =>
    intro i g M hin hg hM
    obtain ⟨u, v, w, hA⟩ := hM
    refine aj.iload_n dX12_laysLanded_2 rfl ?_
    refine aj.bipush (v := 21) dX12_laysLanded_3 rfl ?_
    refine aj.icmp_geN (a := i) (b := 21) (tgt := 21) dX12_laysLanded_5 rfl rfl (by omega) (by omega) rfl (fun c5 => ?_) (fun c5 => ?_)
    · refine aj.pick [1, 2, 3] rfl ?_
      exact hk g M (fun k hk => hg k (by omega)) ⟨_, _, _, hA⟩
    · exact absurd c5 (by omega)
  | succ n ih =>
    intro i g M hin hg hM
    obtain ⟨u, v, w, hA⟩ := hM
    refine aj.iload_n dX12_laysLanded_2 rfl ?_
    refine aj.bipush (v := 21) dX12_laysLanded_3 rfl ?_
    refine aj.icmp_geN (a := i) (b := 21) (tgt := 21) dX12_laysLanded_5 rfl rfl (by omega) (by omega) rfl (fun c5 => ?_) (fun c5 => ?_)
    · exact absurd c5 (by omega)
    · refine aj.aload_n dX12_laysLanded_8 rfl ?_
      refine gM21 rfl dX12_laysLanded_9 hA ?_
      refine aj.iload_n dX12_laysLanded_12 rfl ?_
      refine aj.iconst (v := 0) dX12_laysLanded_13 rfl ?_
      refine sM21N (i := i) dX12_laysLanded_14 hA rfl (by omega) (fun M hA => ?_)
      refine aj.iincN (a := i) (c := 1) (lv' := [(3, .int (nI (i + 1))), (0, .ref b), (1, .int x), (2, .int y)]) dX12_laysLanded_15 rfl (Nat.le_of_ble_eq_true rfl) rfl rfl rfl ?_
      refine aj.goto (tgt := 2) dX12_laysLanded_18 rfl ?_
      refine aj.pick [0, 1, 2, 3] rfl ?_
      rw [bx_uu] at hA
      exact ih (i + 1) _ M (by omega) (fun k hk => if e : k = i then (by rw [e]; exact pk_us) else (by rw [pk_un e]; exact hg k (by omega))) ⟨_, _, _, hA⟩
theorem lays_l2 {G : zG} {l : Launch} {b : Nat} {M0 : zM} {I : Nat → Int32} {A : Nat → Nat → Int32} {L : Nat → Nat → Int64} (s : Nat) {x_s : Int32} (e_s : x_s = nI s) (aim : Nat) {x_aim : Int32} (e_aim : x_aim = nI aim) {sl ol : Option (List Nat)} {T : Nat} (hB : mOK (A 1) sl ol T) (hs : s < 4) (haim : aim ≤ 20) : ∀ (n i : Nat) (g : Nat → Int32) (M : zM), i + n = 10 → (∀ k, k < 21 → g k = nI (mCnt (A 1) sl s aim k i)) → mW b M0 M I (va_up A 21 g) L → aj G l kX12_laysLanded 4 23 [(3, .int (nI i)), (0, .ref b), (1, .int x_s), (2, .int x_aim)] [] M 0 0 (zv (fun M' => ∃ g : Nat → Int32, (∀ k, k < 21 → g k = nI (mCnt (A 1) sl s aim k 10)) ∧ mW b M0 M' I (va_up A 21 g) L)) := by
  have hT := hB.2.2.2.2.2.2.2.2.1
  have hN6 := hB.2.2.1.2
  have hN25 := hB.2.2.2.2.2.1.2
  have hN26 := hB.2.2.2.2.2.2.1.2
  have hN27 := hB.2.2.2.2.2.2.2.1.2
  have hN1 := hB.1.1.2
  have hN2 := hB.1.2.1.2
  intro n
  induction n with
  | zero =>
    intro i g M hin hg hM
    obtain ⟨u, v, w, hA⟩ := hM
    have hml : mLand sl (A 1 (13 + s)) (mN (A 1 (21 + s))) (mN (A 1 26)) aim i ≤ 20 := mLand_le _ _ _ _ _ _
    refine aj.iload_n dX12_laysLanded_23 rfl ?_
    refine aj.bipush (v := 10) dX12_laysLanded_24 rfl ?_
    refine aj.icmp_geN (a := i) (b := 10) (tgt := 51) dX12_laysLanded_26 rfl rfl (by omega) (by omega) rfl (fun c26 => ?_) (fun c26 => ?_)
    · exact aj.vret rfl dX12_laysLanded_51 ⟨rfl, g, by rw [← show i = 10 by omega]; exact hg, _, _, _, hA⟩
    · exact absurd c26 (by omega)
  | succ n ih =>
    intro i g M hin hg hM
    obtain ⟨u, v, w, hA⟩ := hM
    have hml : mLand sl (A 1 (13 + s)) (mN (A 1 (21 + s))) (mN (A 1 26)) aim i ≤ 20 := mLand_le _ _ _ _ _ _
    refine aj.iload_n dX12_laysLanded_23 rfl ?_
    refine aj.bipush (v := 10) dX12_laysLanded_24 rfl ?_
    refine aj.icmp_geN (a := i) (b := 10) (tgt := 51) dX12_laysLanded_26 rfl rfl (by omega) (by omega) rfl (fun c26 => ?_) (fun c26 => ?_)
    · exact absurd c26 (by omega)
    · refine aj.aload_n dX12_laysLanded_29 rfl ?_
      refine gM21 rfl dX12_laysLanded_30 hA ?_
      refine aj.aload_n dX12_laysLanded_33 rfl ?_
      refine aj.iload_n dX12_laysLanded_34 rfl ?_
      refine aj.iload_n dX12_laysLanded_35 rfl ?_
      refine aj.iload_n dX12_laysLanded_36 rfl ?_
      refine aj.callV1 (d' := 3) (As := [.int x_s, .int x_aim, .int (nI i)]) (rest := [.ref (b + 8)]) dX12_laysLanded_37 v_X12_247 li_X12_landsNow hA.1 rfl rfl rfl (Nat.le_of_ble_eq_true rfl) (Nat.le_of_ble_eq_true rfl) (c_landsNow s e_s aim e_aim i rfl ⟨_, _, _, hA⟩ hB (by omega) (by omega) (by omega)) (fun M hM => ?_)
      obtain ⟨u, v, w, hA⟩ := hM
      refine aj.dup2 dX12_laysLanded_40 rfl rfl ?_
      refine aM21N (i := mLand sl (A 1 (13 + s)) (mN (A 1 (21 + s))) (mN (A 1 26)) aim i) dX12_laysLanded_41 hA rfl (by omega) ?_
      refine aj.iconst (v := 1) dX12_laysLanded_42 rfl ?_
      refine aj.iadd dX12_laysLanded_43 ?_
      refine sM21N (i := mLand sl (A 1 (13 + s)) (mN (A 1 (21 + s))) (mN (A 1 26)) aim i) dX12_laysLanded_44 hA rfl (by omega) (fun M hA => ?_)
      refine aj.iincN (a := i) (c := 1) (lv' := [(3, .int (nI (i + 1))), (0, .ref b), (1, .int x_s), (2, .int x_aim)]) dX12_laysLanded_45 rfl (Nat.le_of_ble_eq_true rfl) rfl rfl rfl ?_
      refine aj.goto (tgt := 23) dX12_laysLanded_48 rfl ?_
      refine aj.pick [0, 1, 2, 3] rfl ?_
      rw [bx_uu] at hA
      exact ih (i + 1) _ M (by omega) (fun k hk => by
        show upd g (mLand sl (A 1 (13 + s)) (mN (A 1 (21 + s))) (mN (A 1 26)) aim i) (g (mLand sl (A 1 (13 + s)) (mN (A 1 (21 + s))) (mN (A 1 26)) aim i) + 1) k = nI (zcnt _ (i + 1))
        rw [zcnt_s]
        by_cases e : k = mLand sl (A 1 (13 + s)) (mN (A 1 (21 + s))) (mN (A 1 26)) aim i
        · rw [e, pk_us, hg _ (by omega), nI_1, if_pos rfl]
        · rw [pk_un e, hg k hk, if_neg (fun z => e z.symm)]; rfl) ⟨_, _, _, hA⟩
theorem lays_mid {G : zG} {l : Launch} {b : Nat} {M0 : zM} {I : Nat → Int32} {A : Nat → Nat → Int32} {L : Nat → Nat → Int64} (s : Nat) {x_s : Int32} (e_s : x_s = nI s) (aim : Nat) {x_aim : Int32} (e_aim : x_aim = nI aim) {sl ol : Option (List Nat)} {T : Nat} (hB : mOK (A 1) sl ol T) (hs : s < 4) (haim : aim ≤ 20) (g : Nat → Int32) (M : zM) (hg : ∀ k, k < 21 → g k = 0) (hM : mW b M0 M I (va_up A 21 g) L) : aj G l kX12_laysLanded 4 21 [(0, .ref b), (1, .int x_s), (2, .int x_aim)] [] M 0 0 (zv (fun M' => ∃ g : Nat → Int32, (∀ k, k < 21 → g k = nI (mCnt (A 1) sl s aim k 10)) ∧ mW b M0 M' I (va_up A 21 g) L)) := by
  obtain ⟨u, v, w, hA⟩ := hM
  refine aj.iconst (v := 0) dX12_laysLanded_21 rfl ?_
  refine aj.istore_n (lv' := [(3, .int 0), (0, .ref b), (1, .int x_s), (2, .int x_aim)]) dX12_laysLanded_22 (Nat.le_of_ble_eq_true rfl) rfl ?_
  refine aj.pick [0, 1, 2, 3] rfl ?_
  exact lays_l2 s e_s aim e_aim hB hs haim 10 0 g M (by omega) hg ⟨_, _, _, hA⟩
theorem c_laysLanded {G : zG} {l : Launch} {b : Nat} {M0 M : zM} {I : Nat → Int32} {A : Nat → Nat → Int32} {L : Nat → Nat → Int64} (s : Nat) {x_s : Int32} (e_s : x_s = nI s) (aim : Nat) {x_aim : Int32} (e_aim : x_aim = nI aim) {sl ol : Option (List Nat)} {T : Nat} (hM : mV b M0 M I A L) (hB : mOK (A 1) sl ol T) (hs : s < 4) (haim : aim ≤ 20) : am G l kX12_laysLanded 4 [.ref b, .int x_s, .int x_aim] M 0 0 (zv (fun M' => ∃ g : Nat → Int32, (∀ k, k < 21 → g k = nI (mCnt (A 1) sl s aim k 10)) ∧ mW b M0 M' I (va_up A 21 g) L)) := by
  obtain ⟨g, u, v, w, hA⟩ := hM
  refine am.of (by decide) (Nat.le_of_ble_eq_true rfl) ?_
  refine aj.iconst (v := 0) dX12_laysLanded_0 rfl ?_
  refine aj.istore_n (lv' := [(3, .int 0), (0, .ref b), (1, .int x_s), (2, .int x_aim)]) dX12_laysLanded_1 (Nat.le_of_ble_eq_true rfl) rfl ?_
  refine aj.pick [0, 1, 2, 3] rfl ?_
  refine lays_l1 x_s x_aim (fun g M hg hM => ?_) 21 0 g M (by omega) (fun k hk => absurd hk (by omega)) ⟨_, _, _, hA⟩
  obtain ⟨u, v, w, hA⟩ := hM
  exact lays_mid s e_s aim e_aim hB hs haim g M hg ⟨_, _, _, hA⟩
theorem likeliest_loop {G : zG} {l : Launch} {b : Nat} {M0 : zM} {I : Nat → Int32} {A : Nat → Nat → Int32} {L : Nat → Nat → Int64} (x y : Int32) (g : Nat → Int32) : ∀ (n i best : Nat) (M : zM), i + n = 21 → best = zmax g (i - 1) → best < i → 0 < i → mW b M0 M I (va_up A 21 g) L → aj G l kX12_likeliest 5 36 [(4, .int (nI i)), (3, .int (nI best)), (0, .ref b)] [] M 0 0 (zr (.int (nI (zmax g 20))) (fun M' => mV b M0 M' I A L)) := by
  intro n
  induction n with
  | zero =>
    intro i best M hin hbest hb20 hi0 hM
    obtain ⟨u, v, w, hA⟩ := hM
    refine aj.iload dX12_likeliest_36 rfl ?_
    refine aj.bipush (v := 21) dX12_likeliest_38 rfl ?_
    refine aj.icmp_geN (a := i) (b := 21) (tgt := 68) dX12_likeliest_40 rfl rfl (by omega) (by omega) rfl (fun c40 => ?_) (fun c40 => ?_)
    · refine aj.iload_n dX12_likeliest_68 rfl ?_
      exact aj.iret rfl dX12_likeliest_69 ⟨by rw [hbest, show i - 1 = 20 by omega], _, _, _, _, hA⟩
    · exact absurd c40 (by omega)
  | succ n ih =>
    intro i best M hin hbest hb20 hi0 hM
    obtain ⟨u, v, w, hA⟩ := hM
    refine aj.iload dX12_likeliest_36 rfl ?_
    refine aj.bipush (v := 21) dX12_likeliest_38 rfl ?_
    refine aj.icmp_geN (a := i) (b := 21) (tgt := 68) dX12_likeliest_40 rfl rfl (by omega) (by omega) rfl (fun c40 => ?_) (fun c40 => ?_)
    · exact absurd c40 (by omega)
    · refine aj.aload_n dX12_likeliest_43 rfl ?_
      refine gM21 rfl dX12_likeliest_44 hA ?_
      refine aj.iload dX12_likeliest_47 rfl ?_
      refine aM21N (i := i) dX12_likeliest_49 hA rfl (by omega) ?_
      refine aj.aload_n dX12_likeliest_50 rfl ?_
      refine gM21 rfl dX12_likeliest_51 hA ?_
      refine aj.iload_n dX12_likeliest_54 rfl ?_
      refine aM21N (i := best) dX12_likeliest_55 hA rfl (by omega) ?_
      refine aj.icmp_le (tgt := 62) dX12_likeliest_56 rfl (fun c56 => ?_) (fun c56 => ?_)
      · refine aj.iincN (a := i) (c := 1) (lv' := [(4, .int (nI (i + 1))), (3, .int (nI best)), (0, .ref b)]) dX12_likeliest_62 rfl (Nat.le_of_ble_eq_true rfl) rfl rfl rfl ?_
        refine aj.goto (tgt := 36) dX12_likeliest_65 rfl ?_
        refine aj.pick [0, 1, 2] rfl ?_
        exact ih (i + 1) best M (by omega) (by obtain ⟨j, rfl⟩ : ∃ j, i = j + 1 := ⟨i - 1, by omega⟩; show best = zmax _ (j + 1); rw [zmax_s, if_pos (by have e : best = zmax _ j := hbest; rw [← e]; exact c56)]; exact hbest) (by omega) (by omega) ⟨_, _, _, hA⟩
      · refine aj.iload dX12_likeliest_59 rfl ?_
        refine aj.istore_n (lv' := [(3, .int (nI i)), (4, .int (nI i)), (0, .ref b)]) dX12_likeliest_61 (Nat.le_of_ble_eq_true rfl) rfl ?_
        refine aj.iincN (a := i) (c := 1) (lv' := [(4, .int (nI (i + 1))), (3, .int (nI i)), (0, .ref b)]) dX12_likeliest_62 rfl (Nat.le_of_ble_eq_true rfl) rfl rfl rfl ?_
        refine aj.goto (tgt := 36) dX12_likeliest_65 rfl ?_
        refine aj.pick [0, 1, 2] rfl ?_
        exact ih (i + 1) i M (by omega) (by obtain ⟨j, rfl⟩ : ∃ j, i = j + 1 := ⟨i - 1, by omega⟩; show j + 1 = zmax _ (j + 1); rw [zmax_s, if_neg (by have e : best = zmax _ j := hbest; rw [← e]; exact c56)]) (by omega) (by omega) ⟨_, _, _, hA⟩
theorem q_likeliest {G : zG} {l : Launch} {b : Nat} {M0 M : zM} {I : Nat → Int32} {A : Nat → Nat → Int32} {L : Nat → Nat → Int64} (s : Int32) (aim : Int32) (hM : mW b M0 M I A L) {sl ol : Option (List Nat)} {T : Nat} (hB : mOK (A 1) sl ol T) : am G l kX12_likeliest 5 [.ref b, .int s, .int aim] M 0 0 (zr (.int (if inR s 0 ((mN (A 1 6) : Int) - 1) ∧ inR aim 0 20 then nI (zmax (fun k => nI (mCnt (A 1) sl (mN s) (mN aim) k 10)) 20) else -2)) (fun M' => mV b M0 M' I A L)) := by
  obtain ⟨u, v, w, hA⟩ := hM
  have hT := hB.2.2.2.2.2.2.2.2.1
  have hN6 := hB.2.2.1.2
  have hN25 := hB.2.2.2.2.2.1.2
  have hN26 := hB.2.2.2.2.2.2.1.2
  have hN27 := hB.2.2.2.2.2.2.2.1.2
  have hN1 := hB.1.1.2
  have hN2 := hB.1.2.1.2
  refine am.of (by decide) (Nat.le_of_ble_eq_true rfl) ?_
  refine aj.aload_n dX12_likeliest_0 rfl ?_
  refine aj.iconst (v := 0) dX12_likeliest_1 rfl ?_
  refine pM0 rfl dX12_likeliest_2 hA (fun M hA => ?_)
  refine aj.aload_n dX12_likeliest_5 rfl ?_
  refine aj.iload_n dX12_likeliest_6 rfl ?_
  refine aj.i2l dX12_likeliest_7 ?_
  refine aj.callV1 (d' := 1) (As := [.long (Int32.toInt64 s)]) (rest := []) dX12_likeliest_8 v_X12_236 li_X12_isShooter hA.1 rfl rfl rfl (Nat.le_of_ble_eq_true rfl) (Nat.le_of_ble_eq_true rfl) (c_isShooter s ⟨_, _, _, hA⟩ hB) (fun M hM => ?_)
  obtain ⟨u, v, w, hA⟩ := hM
  refine aj.if_eqB (tgt := 22) dX12_likeliest_11 rfl (fun c11 => ?_) (fun c11 => ?_)
  · refine aj.bipush (v := (-2)) dX12_likeliest_22 rfl ?_
    exact aj.iret rfl dX12_likeliest_24 ⟨by rw [if_neg (fun z => c11 z.1)], mV.of ⟨_, _, _, hA⟩⟩
  · have h_s := inR_bdS c11 (by omega)
    have h2_s := h_s.2
    refine aj.iload_n dX12_likeliest_14 rfl ?_
    refine aj.i2l dX12_likeliest_15 ?_
    refine aj.callS1 (d' := 1) (As := [.long (Int32.toInt64 aim)]) (rest := []) dX12_likeliest_16 v_X12_241 w1506 rfl rfl (Nat.le_of_ble_eq_true rfl) (Nat.le_of_ble_eq_true rfl) (c_isPlaceI _ aim) (fun M hM => ?_)
    subst hM
    refine aj.if_neB (tgt := 25) dX12_likeliest_19 rfl (fun c19 => ?_) (fun c19 => ?_)
    · have h_aim := inR_bd (n := 20) c19 (by decide)
      have h2_aim := h_aim.2
      refine aj.aload_n dX12_likeliest_25 rfl ?_
      refine aj.iload_n dX12_likeliest_26 rfl ?_
      refine aj.iload_n dX12_likeliest_27 rfl ?_
      refine aj.callV0 (d' := 4) (As := [.int s, .int aim]) (rest := []) dX12_likeliest_28 v_X12_336 li_X12_laysLanded hA.1 rfl rfl rfl (Nat.le_of_ble_eq_true rfl) (Nat.le_of_ble_eq_true rfl) (c_laysLanded (mN s) h_s.1 (mN aim) h_aim.1 (mV.of ⟨_, _, _, hA⟩) hB (by omega) (by omega)) (fun M hM => ?_)
      obtain ⟨g, hg, u, v, w, hA⟩ := hM
      refine aj.iconst (v := 0) dX12_likeliest_31 rfl ?_
      refine aj.istore_n (lv' := [(3, .int 0), (0, .ref b), (1, .int s), (2, .int aim)]) dX12_likeliest_32 (Nat.le_of_ble_eq_true rfl) rfl ?_
      refine aj.iconst (v := 1) dX12_likeliest_33 rfl ?_
      refine aj.istore (lv' := [(4, .int 1), (3, .int 0), (0, .ref b), (1, .int s), (2, .int aim)]) dX12_likeliest_34 (Nat.le_of_ble_eq_true rfl) rfl ?_
      refine aj.pick [0, 1, 2] rfl ?_
      rw [if_pos (⟨c11, c19⟩ : _ ∧ _), ← zmax_congr (f := g) (fun k hk => hg k (by omega))]
      exact likeliest_loop s aim g 20 1 0 M (by omega) rfl (by omega) (by omega) ⟨_, _, _, hA⟩
    · refine aj.bipush (v := (-2)) dX12_likeliest_22 rfl ?_
      exact aj.iret rfl dX12_likeliest_24 ⟨by rw [if_neg (fun z => c19 z.2)], mV.of ⟨_, _, _, hA⟩⟩
