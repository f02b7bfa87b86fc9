def zlst (f : Nat → Int64) (d : Nat) (g : Nat → Nat) (n : Nat) : Nat → Int64 := fun j => if d ≤ j ∧ j < d + n then lN (g (j - d)) else f j
theorem zlst_s {f : Nat → Int64} {d i : Nat} {g : Nat → Nat} : vp_updL (zlst f d g i) (d + i) (lN (g i)) = zlst f d g (i + 1) := by
  funext j
  unfold vp_updL zlst
  by_cases h : j = d + i
  · rw [if_pos h, if_pos (by omega), show j - d = i by omega]
  · rw [if_neg h]
    by_cases h2 : d ≤ j ∧ j < d + i
    · rw [if_pos h2, if_pos (by omega)]
    · rw [if_neg h2, if_neg (by omega)]
theorem zlst_0 {f : Nat → Int64} {d : Nat} {g : Nat → Nat} : zlst f d g 0 = f := by
  funext j
  unfold zlst
  rw [if_neg (by omega)]
theorem lists_loop {G : zG} {l : Launch} {b : Nat} {M0 : zM} {I : Nat → Int32} {A : Nat → Nat → Int32} {L : Nat → Nat → Int64} {P : zM → Prop} (t : Nat) {x_t : Int32} (e_t : x_t = nI t) (s : Nat) {x_s : Int32} (e_s : x_s = nI s) (aim : Nat) {x_aim : Int32} (e_aim : x_aim = nI aim) (n0 : Nat) {x_n0 : Int32} (e_n0 : x_n0 = nI n0) {sl ol : Option (List Nat)} {T : Nat} (hB : mOK (A 1) sl ol T) (ht : t < 4) (hs : s < 4) (haim : aim ≤ 20) (hn : n0 ≤ 10) (hP : ∀ M, mW b M0 M I A (va_up L 34 (zlst (L 34) (40 * t) (fun k => mLn (A 1) sl s aim k) n0)) → P M) : ∀ (n i : Nat) (M : zM), i + n = n0 → mW b M0 M I A (va_up L 34 (zlst (L 34) (40 * t) (fun k => mLn (A 1) sl s aim k) i)) → aj G l kX12_lists 4 79 [(6, .int (nI i)), (5, .int x_n0), (0, .ref b), (1, .int x_t), (2, .int x_s), (3, .int x_aim)] [] M 0 0 (zr (.int (nI n0)) P) := by
  have hT := hB.2.2.2.2.2.2.2.2.1
  have hN6 := hB.2.2.1.2
  have hN25 := hB.2.2.2.2.2.1.2
  have hN26 := hB.2.2.2.2.2.2.1.2
  have hN27 := hB.2.2.2.2.2.2.2.1.2
  have hN1 := hB.1.1.2
  have hN2 := hB.1.2.1.2
  intro n
  induction n with
  | zero =>
    intro i M hin hM
    obtain ⟨u, v, w, hA⟩ := hM
    refine aj.iload dX12_lists_79 rfl ?_
    refine aj.iload dX12_lists_81 rfl ?_
    refine aj.icmp_geN (a := i) (b := n0) (tgt := 113) dX12_lists_83 rfl e_n0 (by omega) (by omega) rfl (fun c83 => ?_) (fun c83 => ?_)
    · refine aj.iload dX12_lists_113 rfl ?_
      exact aj.iret rfl dX12_lists_115 ⟨by rw [e_n0], hP M ⟨_, _, _, by rw [← show i = n0 by omega]; exact hA⟩⟩
    · exact absurd c83 (by omega)
  | succ n ih =>
    intro i M hin hM
    obtain ⟨u, v, w, hA⟩ := hM
    have hml : mLand sl (A 1 (13 + s)) (mN (A 1 (21 + s))) (mN (A 1 26)) aim i ≤ 20 := mLand_le _ _ _ _ _ _
    refine aj.iload dX12_lists_79 rfl ?_
    refine aj.iload dX12_lists_81 rfl ?_
    refine aj.icmp_geN (a := i) (b := n0) (tgt := 113) dX12_lists_83 rfl e_n0 (by omega) (by omega) rfl (fun c83 => ?_) (fun c83 => ?_)
    · exact absurd c83 (by omega)
    · refine aj.aload_n dX12_lists_86 rfl ?_
      refine gM34 rfl dX12_lists_87 hA ?_
      refine aj.bipush (v := 40) dX12_lists_90 rfl ?_
      refine aj.iload_n dX12_lists_92 rfl ?_
      refine aj.imulN (a := 40) (b := t) dX12_lists_93 rfl e_t ?_
      refine aj.iload dX12_lists_94 rfl ?_
      refine aj.iaddN (a := 40 * t) (b := i) dX12_lists_96 rfl rfl ?_
      refine aj.aload_n dX12_lists_97 rfl ?_
      refine aj.iload_n dX12_lists_98 rfl ?_
      refine aj.iload_n dX12_lists_99 rfl ?_
      refine aj.iload dX12_lists_100 rfl ?_
      refine aj.callV1 (d' := 3) (As := [.int x_s, .int x_aim, .int (nI i)]) (rest := [.int (nI ((40 * t) + i)), .ref (b + 19)]) dX12_lists_102 v_X12_247 li_X12_landsNow hA.1 rfl rfl rfl (Nat.le_of_ble_eq_true rfl) (Nat.le_of_ble_eq_true rfl) (c_landsNow s e_s aim e_aim i rfl ⟨_, _, _, hA⟩ hB (by omega) (by omega) (by omega)) (fun M hM => ?_)
      obtain ⟨u, v, w, hA⟩ := hM
      refine aj.i2lN (a := mLand sl (A 1 (13 + s)) (mN (A 1 (21 + s))) (mN (A 1 26)) aim i) dX12_lists_105 rfl (by omega) ?_
      refine sM34N (i := (40 * t) + i) dX12_lists_106 hA rfl (by omega) (fun M hA => ?_)
      refine aj.iincN (a := i) (c := 1) (lv' := [(6, .int (nI (i + 1))), (5, .int x_n0), (0, .ref b), (1, .int x_t), (2, .int x_s), (3, .int x_aim)]) dX12_lists_107 rfl (Nat.le_of_ble_eq_true rfl) rfl rfl rfl ?_
      refine aj.goto (tgt := 79) dX12_lists_110 rfl ?_
      refine aj.pick [0, 1, 2, 3, 4, 5] rfl ?_
      rw [bx_uu] at hA
      exact ih (i + 1) M (by omega) ⟨_, _, _, by rw [← zlst_s]; exact hA⟩
theorem q_lists {G : zG} {l : Launch} {b : Nat} {M0 M : zM} {I : Nat → Int32} {A : Nat → Nat → Int32} {L : Nat → Nat → Int64} (t : Int32) (s : Int32) (aim : Int32) (hM : mW b M0 M I A L) (hTr : ∀ j, j < 4 → bd (A 33 j) 40) {sl ol : Option (List Nat)} {T : Nat} (hB : mOK (A 1) sl ol T) : am G l kX12_lists 4 [.ref b, .int t, .int s, .int aim] M 0 0 (zr (.int (if inR t 0 3 ∧ inR s 0 ((mN (A 1 6) : Int) - 1) ∧ inR aim 0 20 then (if A 32 (mN t) = -1 then -6 else nI (if mN (A 33 (mN t)) < 10 then mN (A 33 (mN t)) else 10)) else -2)) (fun M' => ∃ L', mW b M0 M' I A L' ∧ L' 34 = (if (inR t 0 3 ∧ inR s 0 ((mN (A 1 6) : Int) - 1) ∧ inR aim 0 20) ∧ ¬ A 32 (mN t) = -1 then zlst (L 34) (40 * mN t) (fun k => mLn (A 1) sl (mN s) (mN aim) k) (if mN (A 33 (mN t)) < 10 then mN (A 33 (mN t)) else 10) else L 34) ∧ ∀ j, j ≠ 34 → L' j = L j)) := by
  obtain ⟨u, v, w, hA⟩ := hM
  have hT := hB.2.2.2.2.2.2.2.2.1
  have hN6 := hB.2.2.1.2
  have hN25 := hB.2.2.2.2.2.1.2
  have hN26 := hB.2.2.2.2.2.2.1.2
  have hN27 := hB.2.2.2.2.2.2.2.1.2
  have hN1 := hB.1.1.2
  have hN2 := hB.1.2.1.2
  refine am.of (by decide) (Nat.le_of_ble_eq_true rfl) ?_
  refine aj.aload_n dX12_lists_0 rfl ?_
  refine aj.iconst (v := 0) dX12_lists_1 rfl ?_
  refine pM0 rfl dX12_lists_2 hA (fun M hA => ?_)
  refine aj.iload_n dX12_lists_5 rfl ?_
  refine aj.i2l dX12_lists_6 ?_
  refine aj.lconst (v := 0) dX12_lists_7 rfl ?_
  refine aj.ldc2 dX12_lists_8 w1608 ?_
  refine aj.callS1 (d' := 0) (As := [.long (Int32.toInt64 t), .long 0, .long 3]) (rest := []) dX12_lists_11 v_X12_142 w1380 rfl rfl (Nat.le_of_ble_eq_true rfl) (Nat.le_of_ble_eq_true rfl) (c_withinI (a := 0) (c := 3) _ t 0 3 rfl rfl) (fun M hM => ?_)
  subst hM
  refine aj.if_eqB (tgt := 34) dX12_lists_14 rfl (fun c14 => ?_) (fun c14 => ?_)
  · refine aj.bipush (v := (-2)) dX12_lists_34 rfl ?_
    exact aj.iret rfl dX12_lists_36 ⟨by rw [if_neg (fun z => c14 z.1)], _, ⟨_, _, _, hA⟩, by rw [if_neg (fun z => c14 z.1.1)], fun _ _ => rfl⟩
  · have h_t := inR_bd (n := 3) c14 (by decide)
    have h2_t := h_t.2
    refine aj.aload_n dX12_lists_17 rfl ?_
    refine aj.iload_n dX12_lists_18 rfl ?_
    refine aj.i2l dX12_lists_19 ?_
    refine aj.callV1 (d' := 1) (As := [.long (Int32.toInt64 s)]) (rest := []) dX12_lists_20 v_X12_236 li_X12_isShooter hA.1 rfl rfl rfl (Nat.le_of_ble_eq_true rfl) (Nat.le_of_ble_eq_true rfl) (c_isShooter s ⟨_, _, _, hA⟩ hB) (fun M hM => ?_)
    obtain ⟨u, v, w, hA⟩ := hM
    refine aj.if_eqB (tgt := 34) dX12_lists_23 rfl (fun c23 => ?_) (fun c23 => ?_)
    · refine aj.bipush (v := (-2)) dX12_lists_34 rfl ?_
      exact aj.iret rfl dX12_lists_36 ⟨by rw [if_neg (fun z => c23 z.2.1)], _, ⟨_, _, _, hA⟩, by rw [if_neg (fun z => c23 z.1.2.1)], fun _ _ => rfl⟩
    · have h_s := inR_bdS c23 (by omega)
      have h2_s := h_s.2
      refine aj.iload_n dX12_lists_26 rfl ?_
      refine aj.i2l dX12_lists_27 ?_
      refine aj.callS1 (d' := 1) (As := [.long (Int32.toInt64 aim)]) (rest := []) dX12_lists_28 v_X12_241 w1506 rfl rfl (Nat.le_of_ble_eq_true rfl) (Nat.le_of_ble_eq_true rfl) (c_isPlaceI _ aim) (fun M hM => ?_)
      subst hM
      refine aj.if_neB (tgt := 37) dX12_lists_31 rfl (fun c31 => ?_) (fun c31 => ?_)
      · have h_aim := inR_bd (n := 20) c31 (by decide)
        have h2_aim := h_aim.2
        refine aj.aload_n dX12_lists_37 rfl ?_
        refine aj.iload_n dX12_lists_38 rfl ?_
        refine aj.callV1 (d' := 1) (As := [.int t]) (rest := []) dX12_lists_39 v_X12_294 li_X12_noTray hA.1 rfl rfl rfl (Nat.le_of_ble_eq_true rfl) (Nat.le_of_ble_eq_true rfl) (q_noTray t ⟨_, _, _, hA⟩ hB) (fun M hM => ?_)
        obtain ⟨u, v, w, hA⟩ := hM
        refine aj.istore (lv' := [(4, .int (if inR t 0 3 then (if A 32 (mN t) = -1 then (-6 : Int32) else 0) else -2)), (0, .ref b), (1, .int t), (2, .int s), (3, .int aim)]) dX12_lists_42 (Nat.le_of_ble_eq_true rfl) rfl ?_
        refine aj.iload dX12_lists_44 rfl ?_
        refine aj.if_eq (tgt := 52) dX12_lists_46 rfl (fun c46 => ?_) (fun c46 => ?_)
        · have g2 : ¬ A 32 (mN t) = -1 := fun q => by rw [if_pos c14, if_pos q] at c46; exact absurd c46 (by decide)
          have hm40 := (hTr (mN t) (by omega)).2
          refine aj.aload_n dX12_lists_52 rfl ?_
          refine gM33 rfl dX12_lists_53 hA ?_
          refine aj.iload_n dX12_lists_56 rfl ?_
          refine aM33N (i := mN t) dX12_lists_57 hA h_t.1 (by omega) ?_
          refine aj.bipush (v := 10) dX12_lists_58 rfl ?_
          refine aj.icmp_geN (a := mN (A 33 (mN t))) (b := 10) (tgt := 72) dX12_lists_60 (hTr (mN t) (by omega)).1 rfl (by omega) (by omega) rfl (fun c60 => ?_) (fun c60 => ?_)
          · refine aj.bipush (v := 10) dX12_lists_72 rfl ?_
            refine aj.istore (lv' := [(5, .int 10), (4, .int (if inR t 0 3 then (if A 32 (mN t) = -1 then (-6 : Int32) else 0) else -2)), (0, .ref b), (1, .int t), (2, .int s), (3, .int aim)]) dX12_lists_74 (Nat.le_of_ble_eq_true rfl) rfl ?_
            refine aj.iconst (v := 0) dX12_lists_76 rfl ?_
            refine aj.istore (lv' := [(6, .int 0), (5, .int 10), (4, .int (if inR t 0 3 then (if A 32 (mN t) = -1 then (-6 : Int32) else 0) else -2)), (0, .ref b), (1, .int t), (2, .int s), (3, .int aim)]) dX12_lists_77 (Nat.le_of_ble_eq_true rfl) rfl ?_
            refine aj.pick [0, 1, 3, 4, 5, 6] rfl ?_
            have eMN : (if mN (A 33 (mN t)) < 10 then mN (A 33 (mN t)) else 10) = 10 := if_neg (by omega)
            rw [if_pos (⟨c14, c23, c31⟩ : _ ∧ _ ∧ _), if_neg g2, if_neg g2, if_pos (⟨⟨c14, c23, c31⟩, g2⟩ : (_ ∧ _ ∧ _) ∧ _), eMN]
            exact lists_loop (mN t) h_t.1 (mN s) h_s.1 (mN aim) h_aim.1 10 (rfl) hB (by omega) (by omega) h2_aim (by omega) (fun M hM => ⟨_, hM, rfl, fun j h => va_up_ne _ _ h⟩) 10 0 M (by omega) ⟨_, _, _, by rw [zlst_0, va_up_id]; exact hA⟩
          · refine aj.aload_n dX12_lists_63 rfl ?_
            refine gM33 rfl dX12_lists_64 hA ?_
            refine aj.iload_n dX12_lists_67 rfl ?_
            refine aM33N (i := mN t) dX12_lists_68 hA h_t.1 (by omega) ?_
            refine aj.goto (tgt := 74) dX12_lists_69 rfl ?_
            refine aj.istore (lv' := [(5, .int (A 33 (mN t))), (4, .int (if inR t 0 3 then (if A 32 (mN t) = -1 then (-6 : Int32) else 0) else -2)), (0, .ref b), (1, .int t), (2, .int s), (3, .int aim)]) dX12_lists_74 (Nat.le_of_ble_eq_true rfl) rfl ?_
            refine aj.iconst (v := 0) dX12_lists_76 rfl ?_
            refine aj.istore (lv' := [(6, .int 0), (5, .int (A 33 (mN t))), (4, .int (if inR t 0 3 then (if A 32 (mN t) = -1 then (-6 : Int32) else 0) else -2)), (0, .ref b), (1, .int t), (2, .int s), (3, .int aim)]) dX12_lists_77 (Nat.le_of_ble_eq_true rfl) rfl ?_
            refine aj.pick [0, 1, 3, 4, 5, 6] rfl ?_
            have eMN : (if mN (A 33 (mN t)) < 10 then mN (A 33 (mN t)) else 10) = (mN (A 33 (mN t))) := if_pos c60
            rw [if_pos (⟨c14, c23, c31⟩ : _ ∧ _ ∧ _), if_neg g2, if_neg g2, if_pos (⟨⟨c14, c23, c31⟩, g2⟩ : (_ ∧ _ ∧ _) ∧ _), eMN]
            exact lists_loop (mN t) h_t.1 (mN s) h_s.1 (mN aim) h_aim.1 (mN (A 33 (mN t))) ((hTr (mN t) (by omega)).1) hB (by omega) (by omega) h2_aim (by omega) (fun M hM => ⟨_, hM, rfl, fun j h => va_up_ne _ _ h⟩) (mN (A 33 (mN t))) 0 M (by omega) ⟨_, _, _, by rw [zlst_0, va_up_id]; exact hA⟩
        · refine aj.iload dX12_lists_49 rfl ?_
          exact aj.iret rfl dX12_lists_51 ⟨by rw [if_pos (⟨c14, c23, c31⟩ : _ ∧ _ ∧ _)]; by_cases c2 : A 32 (mN t) = -1; (rw [if_pos c14, if_pos c2, if_pos c2]); exact absurd (by rw [if_pos c14, if_neg c2]) c46, _, ⟨_, _, _, hA⟩, by rw [if_neg (fun z => c46 (by rw [if_pos c14, if_neg z.2]))], fun _ _ => rfl⟩
      · refine aj.bipush (v := (-2)) dX12_lists_34 rfl ?_
        exact aj.iret rfl dX12_lists_36 ⟨by rw [if_neg (fun z => c31 z.2.2)], _, ⟨_, _, _, hA⟩, by rw [if_neg (fun z => c31 z.1.2.2)], fun _ _ => rfl⟩
theorem image_loop {G : zG} {l : Launch} {b : Nat} {M0 : zM} {I : Nat → Int32} {A : Nat → Nat → Int32} {L : Nat → Nat → Int64} {Q : Option Value → zM → Prop} (i0 : Nat) {x_i0 : Int32} (e_i0 : x_i0 = nI i0) (hi0 : i0 < 2) (hk : ∀ M : zM, mW b M0 M I (va_up A 1 (va_cpy (A 1) (A 1) 0 (1040 * (i0 + 1)) 1040)) L → aj G l kX12_image 1 53 [(0, .ref b), (1, .int x_i0)] [] M 0 0 Q) : ∀ (n i : Nat) (M : zM), i + n = 1040 → mW b M0 M I (va_up A 1 (va_cpy (A 1) (A 1) 0 (1040 * (i0 + 1)) i)) L → aj G l kX12_image 1 20 [(2, .int (nI i)), (0, .ref b), (1, .int x_i0)] [] M 0 0 Q := by
  intro n
  induction n with
  | zero =>
    intro i M hin hM
    obtain ⟨u, v, w, hA⟩ := hM
    have hi : i = 1040 := by omega
    refine aj.iload_n dX12_image_20 rfl ?_
    refine aj.sipush (v := 1040) dX12_image_21 rfl ?_
    refine aj.icmp_geN (a := i) (b := 1040) (tgt := 53) dX12_image_24 rfl rfl (by omega) (by omega) rfl (fun c24 => ?_) (fun c24 => ?_)
    · refine aj.pick [1, 2] rfl ?_
      rw [hi] at hA
      exact hk M ⟨_, _, _, hA⟩
    · exact absurd c24 (by omega)
  | succ n ih =>
    intro i M hin hM
    obtain ⟨u, v, w, hA⟩ := hM
    refine aj.iload_n dX12_image_20 rfl ?_
    refine aj.sipush (v := 1040) dX12_image_21 rfl ?_
    refine aj.icmp_geN (a := i) (b := 1040) (tgt := 53) dX12_image_24 rfl rfl (by omega) (by omega) rfl (fun c24 => ?_) (fun c24 => ?_)
    · exact absurd c24 (by omega)
    · refine aj.aload_n dX12_image_27 rfl ?_
      refine gM1 rfl dX12_image_28 hA ?_
      refine aj.sipush (v := 1040) dX12_image_31 rfl ?_
      refine aj.iload_n dX12_image_34 rfl ?_
      refine aj.iconst (v := 1) dX12_image_35 rfl ?_
      refine aj.iaddN (a := i0) (b := 1) dX12_image_36 e_i0 rfl ?_
      refine aj.imulN (a := 1040) (b := i0 + 1) dX12_image_37 rfl rfl ?_
      refine aj.iload_n dX12_image_38 rfl ?_
      refine aj.iaddN (a := 1040 * (i0 + 1)) (b := i) dX12_image_39 rfl rfl ?_
      refine aj.aload_n dX12_image_40 rfl ?_
      refine gM1 rfl dX12_image_41 hA ?_
      refine aj.iload_n dX12_image_44 rfl ?_
      refine aM1N (i := i) dX12_image_45 hA rfl (by omega) ?_
      refine sM1N (i := (1040 * (i0 + 1)) + i) dX12_image_46 hA rfl (by omega) (fun M hA => ?_)
      refine aj.iincN (a := i) (c := 1) (lv' := [(2, .int (nI (i + 1))), (0, .ref b), (1, .int x_i0)]) dX12_image_47 rfl (Nat.le_of_ble_eq_true rfl) rfl rfl rfl ?_
      refine aj.goto (tgt := 20) dX12_image_50 rfl ?_
      refine aj.pick [0, 1, 2] rfl ?_
      exact ih (i + 1) M (by omega) ⟨_, _, _, by
        rw [bx_uu] at hA
        have e := cpy_step (f := A 1) (g := A 1) (sp := 0) (dp := 1040 * (i0 + 1)) (i := i)
        rw [← e]
        exact (by rw [va_up_self, pk_cpy_out (Or.inl (by omega))] at hA; rw [Nat.zero_add]; exact hA)⟩
theorem image_end {G : zG} {l : Launch} {b : Nat} {M0 : zM} {I : Nat → Int32} {A : Nat → Nat → Int32} {L : Nat → Nat → Int64} {P : zM → Prop} (i0 : Nat) {x_i0 : Int32} (e_i0 : x_i0 = nI i0) (hi0 : i0 < 2) (hP : ∀ M, mW b M0 M I (va_up A 2 (upd (A 2) i0 1)) L → P M) (M : zM) (hM : mW b M0 M I A L) : aj G l kX12_image 1 53 [(0, .ref b), (1, .int x_i0)] [] M 0 0 (zr (.int 0) P) := by
  obtain ⟨u, v, w, hA⟩ := hM
  refine aj.aload_n dX12_image_53 rfl ?_
  refine gM2 rfl dX12_image_54 hA ?_
  refine aj.iload_n dX12_image_57 rfl ?_
  refine aj.iconst (v := 1) dX12_image_58 rfl ?_
  refine sM2N (i := i0) dX12_image_59 hA e_i0 (by omega) (fun M hA => ?_)
  refine aj.iconst (v := 0) dX12_image_60 rfl ?_
  exact aj.iret rfl dX12_image_61 ⟨rfl, hP M ⟨_, _, _, hA⟩⟩
theorem q_image {G : zG} {l : Launch} {b : Nat} {M0 M : zM} {I : Nat → Int32} {A : Nat → Nat → Int32} {L : Nat → Nat → Int64} (q : Int32) (hM : mW b M0 M I A L) : am G l kX12_image 1 [.ref b, .int q] M 0 0 (zr (.int (if inR q 0 1 then 0 else -2)) (fun M' => ∃ A', mW b M0 M' I A' L ∧ A' 1 = (if inR q 0 1 then va_cpy (A 1) (A 1) 0 (1040 * (mN q + 1)) 1040 else A 1) ∧ A' 2 = (if inR q 0 1 then upd (A 2) (mN q) 1 else A 2) ∧ ∀ j, j ≠ 1 → j ≠ 2 → A' j = A j)) := by
  obtain ⟨u, v, w, hA⟩ := hM
  refine am.of (by decide) (Nat.le_of_ble_eq_true rfl) ?_
  refine aj.aload_n dX12_image_0 rfl ?_
  refine aj.iconst (v := 0) dX12_image_1 rfl ?_
  refine pM0 rfl dX12_image_2 hA (fun M hA => ?_)
  refine aj.iload_n dX12_image_5 rfl ?_
  refine aj.i2l dX12_image_6 ?_
  refine aj.lconst (v := 0) dX12_image_7 rfl ?_
  refine aj.lconst (v := 1) dX12_image_8 rfl ?_
  refine aj.callS1 (d' := 0) (As := [.long (Int32.toInt64 q), .long 0, .long 1]) (rest := []) dX12_image_9 v_X12_142 w1380 rfl rfl (Nat.le_of_ble_eq_true rfl) (Nat.le_of_ble_eq_true rfl) (c_withinI (a := 0) (c := 1) _ q 0 1 rfl rfl) (fun M hM => ?_)
  subst hM
  refine aj.if_neB (tgt := 18) dX12_image_12 rfl (fun c12 => ?_) (fun c12 => ?_)
  · have h_q := inR_bd (n := 1) c12 (by decide)
    have h2_q := h_q.2
    refine aj.iconst (v := 0) dX12_image_18 rfl ?_
    refine aj.istore_n (lv' := [(2, .int 0), (0, .ref b), (1, .int q)]) dX12_image_19 (Nat.le_of_ble_eq_true rfl) rfl ?_
    refine aj.pick [0, 1, 2] rfl ?_
    rw [if_pos c12, if_pos c12, if_pos c12]
    exact image_loop (mN q) h_q.1 (by omega) (fun M hM => image_end (A := va_up A 1 (va_cpy (A 1) (A 1) 0 (1040 * (mN q + 1)) 1040)) (mN q) h_q.1 (by omega) (fun M hM => ⟨_, hM, rfl, rfl, fun j h1 h2 => by rw [va_up_ne _ _ h2, va_up_ne _ _ h1]⟩) M hM) 1040 0 M (by omega) (by rw [cpy_0, va_up_id]; exact ⟨_, _, _, hA⟩)
  · refine aj.bipush (v := (-2)) dX12_image_15 rfl ?_
    exact aj.iret rfl dX12_image_17 ⟨by rw [if_neg c12], _, ⟨_, _, _, hA⟩, by rw [if_neg c12], by rw [if_neg c12], fun _ _ _ => rfl⟩
theorem restore_loop {G : zG} {l : Launch} {b : Nat} {M0 : zM} {I : Nat → Int32} {A : Nat → Nat → Int32} {L : Nat → Nat → Int64} {Q : Option Value → zM → Prop} (i0 : Nat) {x_i0 : Int32} (e_i0 : x_i0 = nI i0) (hi0 : i0 < 2) (hk : ∀ M : zM, mW b M0 M I (va_up A 1 (va_cpy (A 1) (A 1) (1040 * (i0 + 1)) 0 1040)) L → aj G l kX12_restore 1 65 [(0, .ref b), (1, .int x_i0)] [] M 0 0 Q) : ∀ (n i : Nat) (M : zM), i + n = 1040 → mW b M0 M I (va_up A 1 (va_cpy (A 1) (A 1) (1040 * (i0 + 1)) 0 i)) L → aj G l kX12_restore 1 32 [(2, .int (nI i)), (0, .ref b), (1, .int x_i0)] [] M 0 0 Q := by
  intro n
  induction n with
  | zero =>
    intro i M hin hM
    obtain ⟨u, v, w, hA⟩ := hM
    have hi : i = 1040 := by omega
    refine aj.iload_n dX12_restore_32 rfl ?_
    refine aj.sipush (v := 1040) dX12_restore_33 rfl ?_
    refine aj.icmp_geN (a := i) (b := 1040) (tgt := 65) dX12_restore_36 rfl rfl (by omega) (by omega) rfl (fun c36 => ?_) (fun c36 => ?_)
    · refine aj.pick [1, 2] rfl ?_
      rw [hi] at hA
      exact hk M ⟨_, _, _, hA⟩
    · exact absurd c36 (by omega)
  | succ n ih =>
    intro i M hin hM
    obtain ⟨u, v, w, hA⟩ := hM
    refine aj.iload_n dX12_restore_32 rfl ?_
    refine aj.sipush (v := 1040) dX12_restore_33 rfl ?_
    refine aj.icmp_geN (a := i) (b := 1040) (tgt := 65) dX12_restore_36 rfl rfl (by omega) (by omega) rfl (fun c36 => ?_) (fun c36 => ?_)
    · exact absurd c36 (by omega)
    · refine aj.aload_n dX12_restore_39 rfl ?_
      refine gM1 rfl dX12_restore_40 hA ?_
      refine aj.iload_n dX12_restore_43 rfl ?_
      refine aj.aload_n dX12_restore_44 rfl ?_
      refine gM1 rfl dX12_restore_45 hA ?_
      refine aj.sipush (v := 1040) dX12_restore_48 rfl ?_
      refine aj.iload_n dX12_restore_51 rfl ?_
      refine aj.iconst (v := 1) dX12_restore_52 rfl ?_
      refine aj.iaddN (a := i0) (b := 1) dX12_restore_53 e_i0 rfl ?_
      refine aj.imulN (a := 1040) (b := i0 + 1) dX12_restore_54 rfl rfl ?_
      refine aj.iload_n dX12_restore_55 rfl ?_
      refine aj.iaddN (a := 1040 * (i0 + 1)) (b := i) dX12_restore_56 rfl rfl ?_
      refine aM1N (i := (1040 * (i0 + 1)) + i) dX12_restore_57 hA rfl (by omega) ?_
      refine sM1N (i := i) dX12_restore_58 hA rfl (by omega) (fun M hA => ?_)
      refine aj.iincN (a := i) (c := 1) (lv' := [(2, .int (nI (i + 1))), (0, .ref b), (1, .int x_i0)]) dX12_restore_59 rfl (Nat.le_of_ble_eq_true rfl) rfl rfl rfl ?_
      refine aj.goto (tgt := 32) dX12_restore_62 rfl ?_
      refine aj.pick [0, 1, 2] rfl ?_
      exact ih (i + 1) M (by omega) ⟨_, _, _, by
        rw [bx_uu] at hA
        have e := cpy_step (f := A 1) (g := A 1) (sp := 1040 * (i0 + 1)) (dp := 0) (i := i)
        rw [← e]
        exact (by rw [va_up_self, pk_cpy_out (Or.inr (by omega))] at hA; rw [Nat.zero_add]; exact hA)⟩
theorem restore_end {G : zG} {l : Launch} {b : Nat} {M0 : zM} {I : Nat → Int32} {A : Nat → Nat → Int32} {L : Nat → Nat → Int64} {P : zM → Prop} {x : Int32} (hP : ∀ M, mW b M0 M I (va_up A 1 (upd (A 1) 28 0)) L → P M) (M : zM) (hM : mW b M0 M I A L) : aj G l kX12_restore 1 65 [(0, .ref b), (1, .int x)] [] M 0 0 (zr (.int 0) P) := by
  obtain ⟨u, v, w, hA⟩ := hM
  refine aj.aload_n dX12_restore_65 rfl ?_
  refine gM1 rfl dX12_restore_66 hA ?_
  refine aj.bipush (v := 28) dX12_restore_69 rfl ?_
  refine aj.iconst (v := 0) dX12_restore_71 rfl ?_
  refine sM1N (i := 28) dX12_restore_72 hA rfl (by omega) (fun M hA => ?_)
  refine aj.iconst (v := 0) dX12_restore_73 rfl ?_
  exact aj.iret rfl dX12_restore_74 ⟨rfl, hP M ⟨_, _, _, hA⟩⟩
theorem q_restore {G : zG} {l : Launch} {b : Nat} {M0 M : zM} {I : Nat → Int32} {A : Nat → Nat → Int32} {L : Nat → Nat → Int64} (q : Int32) (hM : mW b M0 M I A L) : am G l kX12_restore 1 [.ref b, .int q] M 0 0 (zr (.int (if inR q 0 1 then (if A 2 (mN q) = 0 then -5 else 0) else -2)) (fun M' => ∃ A', mW b M0 M' I A' L ∧ A' 1 = (if inR q 0 1 ∧ ¬ A 2 (mN q) = 0 then upd (va_cpy (A 1) (A 1) (1040 * (mN q + 1)) 0 1040) 28 0 else A 1) ∧ ∀ j, j ≠ 1 → A' j = A j)) := by
  obtain ⟨u, v, w, hA⟩ := hM
  refine am.of (by decide) (Nat.le_of_ble_eq_true rfl) ?_
  refine aj.aload_n dX12_restore_0 rfl ?_
  refine aj.iconst (v := 0) dX12_restore_1 rfl ?_
  refine pM0 rfl dX12_restore_2 hA (fun M hA => ?_)
  refine aj.iload_n dX12_restore_5 rfl ?_
  refine aj.i2l dX12_restore_6 ?_
  refine aj.lconst (v := 0) dX12_restore_7 rfl ?_
  refine aj.lconst (v := 1) dX12_restore_8 rfl ?_
  refine aj.callS1 (d' := 0) (As := [.long (Int32.toInt64 q), .long 0, .long 1]) (rest := []) dX12_restore_9 v_X12_142 w1380 rfl rfl (Nat.le_of_ble_eq_true rfl) (Nat.le_of_ble_eq_true rfl) (c_withinI (a := 0) (c := 1) _ q 0 1 rfl rfl) (fun M hM => ?_)
  subst hM
  refine aj.if_neB (tgt := 18) dX12_restore_12 rfl (fun c12 => ?_) (fun c12 => ?_)
  · have h_q := inR_bd (n := 1) c12 (by decide)
    have h2_q := h_q.2
    refine aj.aload_n dX12_restore_18 rfl ?_
    refine gM2 rfl dX12_restore_19 hA ?_
    refine aj.iload_n dX12_restore_22 rfl ?_
    refine aM2N (i := mN q) dX12_restore_23 hA h_q.1 (by omega) ?_
    refine aj.if_ne (tgt := 30) dX12_restore_24 rfl (fun c24 => ?_) (fun c24 => ?_)
    · refine aj.iconst (v := 0) dX12_restore_30 rfl ?_
      refine aj.istore_n (lv' := [(2, .int 0), (0, .ref b), (1, .int q)]) dX12_restore_31 (Nat.le_of_ble_eq_true rfl) rfl ?_
      refine aj.pick [0, 1, 2] rfl ?_
      rw [if_pos c12, if_neg c24, if_pos (⟨c12, c24⟩ : _ ∧ _)]
      exact restore_loop (mN q) h_q.1 (by omega) (fun M hM => restore_end (A := va_up A 1 (va_cpy (A 1) (A 1) (1040 * (mN q + 1)) 0 1040)) (fun M hM => ⟨_, hM, rfl, fun j h1 => by rw [va_up_ne _ _ h1, va_up_ne _ _ h1]⟩) M hM) 1040 0 M (by omega) (by rw [cpy_0, va_up_id]; exact ⟨_, _, _, hA⟩)
    · refine aj.bipush (v := (-5)) dX12_restore_27 rfl ?_
      exact aj.iret rfl dX12_restore_29 ⟨by rw [if_pos c12, if_pos c24], _, ⟨_, _, _, hA⟩, by rw [if_neg (fun z => z.2 c24)], fun _ _ => rfl⟩
  · refine aj.bipush (v := (-2)) dX12_restore_15 rfl ?_
    exact aj.iret rfl dX12_restore_17 ⟨by rw [if_neg c12], _, ⟨_, _, _, hA⟩, by rw [if_neg (fun z => c12 z.1)], fun _ _ => rfl⟩
/-- the byte that a fed word has there -/
def fedV (a c d e f : Int32) (k : Nat) : Int32 := ((if k < 4 then a else if k < 8 then c else if k < 12 then d else if k < 16 then e else f) >>> (nI (24 - 8 * (k % 4)) &&& 31)) &&& 255
theorem feed_loop {G : zG} {l : Launch} {b : Nat} {M0 : zM} {I : Nat → Int32} {A : Nat → Nat → Int32} {L : Nat → Nat → Int64} (a c d e f : Int32) (tp : Nat) (htp : tp + 20 ≤ 900) : ∀ (n i : Nat) (M : zM), i + n = 20 → mW b M0 M (va_up I 5 (nI (tp + i))) (va_up A 3 (va_cpy (fedV a c d e f) (A 3) 0 tp i)) L → aj G l kX12_feed 0 24 [(6, .int (nI i)), (0, .ref b), (1, .int a), (2, .int c), (3, .int d), (4, .int e), (5, .int f)] [] M 0 0 (zr (.int (nI (tp + 20))) (fun M' => mW b M0 M' (va_up I 5 (nI (tp + 20))) (va_up A 3 (va_cpy (fedV a c d e f) (A 3) 0 tp 20)) L)) := by
  intro n
  induction n with
  | zero =>
    intro i M hin hM
    obtain ⟨u, v, w, hA⟩ := hM
    have hi : i = 20 := by omega
    subst hi
    refine aj.iload dX12_feed_24 rfl ?_
    refine aj.bipush (v := 20) dX12_feed_26 rfl ?_
    refine aj.icmp_geN (a := 20) (b := 20) (tgt := 121) dX12_feed_28 rfl rfl (by omega) (by omega) rfl (fun c28 => ?_) (fun c28 => ?_)
    · refine aj.aload_n dX12_feed_121 rfl ?_
      refine gM5 rfl dX12_feed_122 hA ?_
      exact aj.iret rfl dX12_feed_125 ⟨rfl, _, _, _, hA⟩
    · exact absurd c28 (by omega)
  | succ n ih =>
    intro i M hin hM
    obtain ⟨u, v, w, hA⟩ := hM
    refine aj.iload dX12_feed_24 rfl ?_
    refine aj.bipush (v := 20) dX12_feed_26 rfl ?_
    refine aj.icmp_geN (a := i) (b := 20) (tgt := 121) dX12_feed_28 rfl rfl (by omega) (by omega) rfl (fun c28 => ?_) (fun c28 => ?_)
    · exact absurd c28 (by omega)
    · refine aj.iload dX12_feed_31 rfl ?_
      refine aj.iconst (v := 4) dX12_feed_33 rfl ?_
      refine aj.icmp_geN (a := i) (b := 4) (tgt := 41) dX12_feed_34 rfl rfl (by omega) (by omega) rfl (fun c34 => ?_) (fun c34 => ?_)
      · refine aj.iload dX12_feed_41 rfl ?_
        refine aj.bipush (v := 8) dX12_feed_43 rfl ?_
        refine aj.icmp_geN (a := i) (b := 8) (tgt := 52) dX12_feed_45 rfl rfl (by omega) (by omega) rfl (fun c45 => ?_) (fun c45 => ?_)
        · refine aj.iload dX12_feed_52 rfl ?_
          refine aj.bipush (v := 12) dX12_feed_54 rfl ?_
          refine aj.icmp_geN (a := i) (b := 12) (tgt := 63) dX12_feed_56 rfl rfl (by omega) (by omega) rfl (fun c56 => ?_) (fun c56 => ?_)
          · refine aj.iload dX12_feed_63 rfl ?_
            refine aj.bipush (v := 16) dX12_feed_65 rfl ?_
            refine aj.icmp_geN (a := i) (b := 16) (tgt := 75) dX12_feed_67 rfl rfl (by omega) (by omega) rfl (fun c67 => ?_) (fun c67 => ?_)
            · refine aj.iload dX12_feed_75 rfl ?_
              refine aj.istore (lv' := [(7, .int f), (6, .int (nI i)), (0, .ref b), (1, .int a), (2, .int c), (3, .int d), (4, .int e), (5, .int f)]) dX12_feed_77 (Nat.le_of_ble_eq_true rfl) rfl ?_
              refine aj.aload_n dX12_feed_79 rfl ?_
              refine gM3 rfl dX12_feed_80 hA ?_
              refine aj.aload_n dX12_feed_83 rfl ?_
              refine gM5 rfl dX12_feed_84 hA ?_
              refine aj.iload dX12_feed_87 rfl ?_
              refine aj.bipush (v := 24) dX12_feed_89 rfl ?_
              refine aj.bipush (v := 8) dX12_feed_91 rfl ?_
              refine aj.iload dX12_feed_93 rfl ?_
              refine aj.iconst (v := 4) dX12_feed_95 rfl ?_
              refine aj.iremN (a := i) (b := 4) dX12_feed_96 rfl rfl (by omega) (by omega) (by omega) ?_
              refine aj.imulN (a := 8) (b := i % 4) dX12_feed_97 rfl rfl ?_
              refine aj.isubN (a := 24) (b := 8 * (i % 4)) dX12_feed_98 rfl rfl (by omega) ?_
              refine aj.ishr dX12_feed_99 ?_
              refine aj.sipush (v := 255) dX12_feed_100 rfl ?_
              refine aj.iand dX12_feed_103 ?_
              refine sM3N (i := tp + i) dX12_feed_104 hA rfl (by omega) (fun M hA => ?_)
              refine aj.aload_n dX12_feed_105 rfl ?_
              refine aj.dup dX12_feed_106 rfl ?_
              refine gM5 rfl dX12_feed_107 hA ?_
              refine aj.iconst (v := 1) dX12_feed_110 rfl ?_
              refine aj.iaddN (a := tp + i) (b := 1) dX12_feed_111 rfl rfl ?_
              refine pM5 rfl dX12_feed_112 hA (fun M hA => ?_)
              refine aj.iincN (a := i) (c := 1) (lv' := [(6, .int (nI (i + 1))), (7, .int f), (0, .ref b), (1, .int a), (2, .int c), (3, .int d), (4, .int e), (5, .int f)]) dX12_feed_115 rfl (Nat.le_of_ble_eq_true rfl) rfl rfl rfl ?_
              refine aj.goto (tgt := 24) dX12_feed_118 rfl ?_
              refine aj.pick [0, 2, 3, 4, 5, 6, 7] rfl ?_
              rw [bx_uu, bx_uu] at hA
              exact ih (i + 1) M (by omega) ⟨_, _, _, by
                have e1 : fedV a c d e f (0 + i) = (f >>> (nI (24 - 8 * (i % 4)) &&& 31)) &&& 255 := by unfold fedV; rw [Nat.zero_add, if_neg (by omega), if_neg (by omega), if_neg (by omega), if_neg (by omega)]
                rw [← cpy_step, e1]
                exact hA⟩
            · refine aj.iload dX12_feed_70 rfl ?_
              refine aj.goto (tgt := 77) dX12_feed_72 rfl ?_
              refine aj.istore (lv' := [(7, .int e), (6, .int (nI i)), (0, .ref b), (1, .int a), (2, .int c), (3, .int d), (4, .int e), (5, .int f)]) dX12_feed_77 (Nat.le_of_ble_eq_true rfl) rfl ?_
              refine aj.aload_n dX12_feed_79 rfl ?_
              refine gM3 rfl dX12_feed_80 hA ?_
              refine aj.aload_n dX12_feed_83 rfl ?_
              refine gM5 rfl dX12_feed_84 hA ?_
              refine aj.iload dX12_feed_87 rfl ?_
              refine aj.bipush (v := 24) dX12_feed_89 rfl ?_
              refine aj.bipush (v := 8) dX12_feed_91 rfl ?_
              refine aj.iload dX12_feed_93 rfl ?_
              refine aj.iconst (v := 4) dX12_feed_95 rfl ?_
              refine aj.iremN (a := i) (b := 4) dX12_feed_96 rfl rfl (by omega) (by omega) (by omega) ?_
              refine aj.imulN (a := 8) (b := i % 4) dX12_feed_97 rfl rfl ?_
              refine aj.isubN (a := 24) (b := 8 * (i % 4)) dX12_feed_98 rfl rfl (by omega) ?_
              refine aj.ishr dX12_feed_99 ?_
              refine aj.sipush (v := 255) dX12_feed_100 rfl ?_
              refine aj.iand dX12_feed_103 ?_
              refine sM3N (i := tp + i) dX12_feed_104 hA rfl (by omega) (fun M hA => ?_)
              refine aj.aload_n dX12_feed_105 rfl ?_
              refine aj.dup dX12_feed_106 rfl ?_
              refine gM5 rfl dX12_feed_107 hA ?_
              refine aj.iconst (v := 1) dX12_feed_110 rfl ?_
              refine aj.iaddN (a := tp + i) (b := 1) dX12_feed_111 rfl rfl ?_
              refine pM5 rfl dX12_feed_112 hA (fun M hA => ?_)
              refine aj.iincN (a := i) (c := 1) (lv' := [(6, .int (nI (i + 1))), (7, .int e), (0, .ref b), (1, .int a), (2, .int c), (3, .int d), (4, .int e), (5, .int f)]) dX12_feed_115 rfl (Nat.le_of_ble_eq_true rfl) rfl rfl rfl ?_
              refine aj.goto (tgt := 24) dX12_feed_118 rfl ?_
              refine aj.pick [0, 2, 3, 4, 5, 6, 7] rfl ?_
              rw [bx_uu, bx_uu] at hA
              exact ih (i + 1) M (by omega) ⟨_, _, _, by
                have e1 : fedV a c d e f (0 + i) = (e >>> (nI (24 - 8 * (i % 4)) &&& 31)) &&& 255 := by unfold fedV; rw [Nat.zero_add, if_neg (by omega), if_neg (by omega), if_neg (by omega), if_pos (by omega)]
                rw [← cpy_step, e1]
                exact hA⟩
          · refine aj.iload_n dX12_feed_59 rfl ?_
            refine aj.goto (tgt := 77) dX12_feed_60 rfl ?_
            refine aj.istore (lv' := [(7, .int d), (6, .int (nI i)), (0, .ref b), (1, .int a), (2, .int c), (3, .int d), (4, .int e), (5, .int f)]) dX12_feed_77 (Nat.le_of_ble_eq_true rfl) rfl ?_
            refine aj.aload_n dX12_feed_79 rfl ?_
            refine gM3 rfl dX12_feed_80 hA ?_
            refine aj.aload_n dX12_feed_83 rfl ?_
            refine gM5 rfl dX12_feed_84 hA ?_
            refine aj.iload dX12_feed_87 rfl ?_
            refine aj.bipush (v := 24) dX12_feed_89 rfl ?_
            refine aj.bipush (v := 8) dX12_feed_91 rfl ?_
            refine aj.iload dX12_feed_93 rfl ?_
            refine aj.iconst (v := 4) dX12_feed_95 rfl ?_
            refine aj.iremN (a := i) (b := 4) dX12_feed_96 rfl rfl (by omega) (by omega) (by omega) ?_
            refine aj.imulN (a := 8) (b := i % 4) dX12_feed_97 rfl rfl ?_
            refine aj.isubN (a := 24) (b := 8 * (i % 4)) dX12_feed_98 rfl rfl (by omega) ?_
            refine aj.ishr dX12_feed_99 ?_
            refine aj.sipush (v := 255) dX12_feed_100 rfl ?_
            refine aj.iand dX12_feed_103 ?_
            refine sM3N (i := tp + i) dX12_feed_104 hA rfl (by omega) (fun M hA => ?_)
            refine aj.aload_n dX12_feed_105 rfl ?_
            refine aj.dup dX12_feed_106 rfl ?_
            refine gM5 rfl dX12_feed_107 hA ?_
            refine aj.iconst (v := 1) dX12_feed_110 rfl ?_
            refine aj.iaddN (a := tp + i) (b := 1) dX12_feed_111 rfl rfl ?_
            refine pM5 rfl dX12_feed_112 hA (fun M hA => ?_)
            refine aj.iincN (a := i) (c := 1) (lv' := [(6, .int (nI (i + 1))), (7, .int d), (0, .ref b), (1, .int a), (2, .int c), (3, .int d), (4, .int e), (5, .int f)]) dX12_feed_115 rfl (Nat.le_of_ble_eq_true rfl) rfl rfl rfl ?_
            refine aj.goto (tgt := 24) dX12_feed_118 rfl ?_
            refine aj.pick [0, 2, 3, 4, 5, 6, 7] rfl ?_
            rw [bx_uu, bx_uu] at hA
            exact ih (i + 1) M (by omega) ⟨_, _, _, by
              have e1 : fedV a c d e f (0 + i) = (d >>> (nI (24 - 8 * (i % 4)) &&& 31)) &&& 255 := by unfold fedV; rw [Nat.zero_add, if_neg (by omega), if_neg (by omega), if_pos (by omega)]
              rw [← cpy_step, e1]
              exact hA⟩
        · refine aj.iload_n dX12_feed_48 rfl ?_
          refine aj.goto (tgt := 77) dX12_feed_49 rfl ?_
          refine aj.istore (lv' := [(7, .int c), (6, .int (nI i)), (0, .ref b), (1, .int a), (2, .int c), (3, .int d), (4, .int e), (5, .int f)]) dX12_feed_77 (Nat.le_of_ble_eq_true rfl) rfl ?_
          refine aj.aload_n dX12_feed_79 rfl ?_
          refine gM3 rfl dX12_feed_80 hA ?_
          refine aj.aload_n dX12_feed_83 rfl ?_
          refine gM5 rfl dX12_feed_84 hA ?_
          refine aj.iload dX12_feed_87 rfl ?_
          refine aj.bipush (v := 24) dX12_feed_89 rfl ?_
          refine aj.bipush (v := 8) dX12_feed_91 rfl ?_
          refine aj.iload dX12_feed_93 rfl ?_
          refine aj.iconst (v := 4) dX12_feed_95 rfl ?_
          refine aj.iremN (a := i) (b := 4) dX12_feed_96 rfl rfl (by omega) (by omega) (by omega) ?_
          refine aj.imulN (a := 8) (b := i % 4) dX12_feed_97 rfl rfl ?_
          refine aj.isubN (a := 24) (b := 8 * (i % 4)) dX12_feed_98 rfl rfl (by omega) ?_
          refine aj.ishr dX12_feed_99 ?_
          refine aj.sipush (v := 255) dX12_feed_100 rfl ?_
          refine aj.iand dX12_feed_103 ?_
          refine sM3N (i := tp + i) dX12_feed_104 hA rfl (by omega) (fun M hA => ?_)
          refine aj.aload_n dX12_feed_105 rfl ?_
          refine aj.dup dX12_feed_106 rfl ?_
          refine gM5 rfl dX12_feed_107 hA ?_
          refine aj.iconst (v := 1) dX12_feed_110 rfl ?_
          refine aj.iaddN (a := tp + i) (b := 1) dX12_feed_111 rfl rfl ?_
          refine pM5 rfl dX12_feed_112 hA (fun M hA => ?_)
          refine aj.iincN (a := i) (c := 1) (lv' := [(6, .int (nI (i + 1))), (7, .int c), (0, .ref b), (1, .int a), (2, .int c), (3, .int d), (4, .int e), (5, .int f)]) dX12_feed_115 rfl (Nat.le_of_ble_eq_true rfl) rfl rfl rfl ?_
          refine aj.goto (tgt := 24) dX12_feed_118 rfl ?_
          refine aj.pick [0, 2, 3, 4, 5, 6, 7] rfl ?_
          rw [bx_uu, bx_uu] at hA
          exact ih (i + 1) M (by omega) ⟨_, _, _, by
            have e1 : fedV a c d e f (0 + i) = (c >>> (nI (24 - 8 * (i % 4)) &&& 31)) &&& 255 := by unfold fedV; rw [Nat.zero_add, if_neg (by omega), if_pos (by omega)]
            rw [← cpy_step, e1]
            exact hA⟩
      · refine aj.iload_n dX12_feed_37 rfl ?_
        refine aj.goto (tgt := 77) dX12_feed_38 rfl ?_
        refine aj.istore (lv' := [(7, .int a), (6, .int (nI i)), (0, .ref b), (1, .int a), (2, .int c), (3, .int d), (4, .int e), (5, .int f)]) dX12_feed_77 (Nat.le_of_ble_eq_true rfl) rfl ?_
        refine aj.aload_n dX12_feed_79 rfl ?_
        refine gM3 rfl dX12_feed_80 hA ?_
        refine aj.aload_n dX12_feed_83 rfl ?_
        refine gM5 rfl dX12_feed_84 hA ?_
        refine aj.iload dX12_feed_87 rfl ?_
        refine aj.bipush (v := 24) dX12_feed_89 rfl ?_
        refine aj.bipush (v := 8) dX12_feed_91 rfl ?_
        refine aj.iload dX12_feed_93 rfl ?_
        refine aj.iconst (v := 4) dX12_feed_95 rfl ?_
        refine aj.iremN (a := i) (b := 4) dX12_feed_96 rfl rfl (by omega) (by omega) (by omega) ?_
        refine aj.imulN (a := 8) (b := i % 4) dX12_feed_97 rfl rfl ?_
        refine aj.isubN (a := 24) (b := 8 * (i % 4)) dX12_feed_98 rfl rfl (by omega) ?_
        refine aj.ishr dX12_feed_99 ?_
        refine aj.sipush (v := 255) dX12_feed_100 rfl ?_
        refine aj.iand dX12_feed_103 ?_
        refine sM3N (i := tp + i) dX12_feed_104 hA rfl (by omega) (fun M hA => ?_)
        refine aj.aload_n dX12_feed_105 rfl ?_
        refine aj.dup dX12_feed_106 rfl ?_
        refine gM5 rfl dX12_feed_107 hA ?_
        refine aj.iconst (v := 1) dX12_feed_110 rfl ?_
        refine aj.iaddN (a := tp + i) (b := 1) dX12_feed_111 rfl rfl ?_
        refine pM5 rfl dX12_feed_112 hA (fun M hA => ?_)
        refine aj.iincN (a := i) (c := 1) (lv' := [(6, .int (nI (i + 1))), (7, .int a), (0, .ref b), (1, .int a), (2, .int c), (3, .int d), (4, .int e), (5, .int f)]) dX12_feed_115 rfl (Nat.le_of_ble_eq_true rfl) rfl rfl rfl ?_
        refine aj.goto (tgt := 24) dX12_feed_118 rfl ?_
        refine aj.pick [0, 2, 3, 4, 5, 6, 7] rfl ?_
        rw [bx_uu, bx_uu] at hA
        exact ih (i + 1) M (by omega) ⟨_, _, _, by
          have e1 : fedV a c d e f (0 + i) = (a >>> (nI (24 - 8 * (i % 4)) &&& 31)) &&& 255 := by unfold fedV; rw [Nat.zero_add, if_pos (by omega)]
          rw [← cpy_step, e1]
          exact hA⟩
theorem q_feed {G : zG} {l : Launch} {b : Nat} {M0 M : zM} {I : Nat → Int32} {A : Nat → Nat → Int32} {L : Nat → Nat → Int64} (a : Int32) (c : Int32) (d : Int32) (e : Int32) (f : Int32) (hM : mW b M0 M I A L) (h5 : bd (I 5) 900) : am G l kX12_feed 0 [.ref b, .int a, .int c, .int d, .int e, .int f] M 0 0 (zr (.int (if mN (I 5) + 20 ≤ 900 then nI (mN (I 5) + 20) else -5)) (fun M' => mW b M0 M' (if mN (I 5) + 20 ≤ 900 then va_up I 5 (nI (mN (I 5) + 20)) else I) (if mN (I 5) + 20 ≤ 900 then va_up A 3 (va_cpy (fedV a c d e f) (A 3) 0 (mN (I 5)) 20) else A) L)) := by
  obtain ⟨u, v, w, hA⟩ := hM
  have h52 := h5.2
  refine am.of (by decide) (Nat.le_of_ble_eq_true rfl) ?_
  refine aj.aload_n dX12_feed_0 rfl ?_
  refine aj.iconst (v := 0) dX12_feed_1 rfl ?_
  refine pM0 rfl dX12_feed_2 hA (fun M hA => ?_)
  refine aj.aload_n dX12_feed_5 rfl ?_
  refine gM5 rfl dX12_feed_6 hA ?_
  refine aj.bipush (v := 20) dX12_feed_9 rfl ?_
  refine aj.iaddN (a := mN (I 5)) (b := 20) dX12_feed_11 h5.1 rfl ?_
  refine aj.sipush (v := 900) dX12_feed_12 rfl ?_
  refine aj.icmp_leN (a := (mN (I 5)) + 20) (b := 900) (tgt := 21) dX12_feed_15 rfl rfl (by omega) (by omega) rfl (fun c15 => ?_) (fun c15 => ?_)
  · refine aj.iconst (v := 0) dX12_feed_21 rfl ?_
    refine aj.istore (lv' := [(6, .int 0), (0, .ref b), (1, .int a), (2, .int c), (3, .int d), (4, .int e), (5, .int f)]) dX12_feed_22 (Nat.le_of_ble_eq_true rfl) rfl ?_
    refine aj.pick [0, 1, 2, 3, 4, 5, 6] rfl ?_
    rw [if_pos c15, if_pos c15, if_pos c15]
    exact feed_loop a c d e f (mN (I 5)) c15 20 0 M (by omega) ⟨_, _, _, by rw [cpy_0, va_up_id, Nat.add_zero, ← h5.1, va_up_id]; exact hA⟩
  · refine aj.bipush (v := (-5)) dX12_feed_18 rfl ?_
    exact aj.iret rfl dX12_feed_20 ⟨by rw [if_neg (by omega)], by rw [if_neg (by omega), if_neg (by omega)]; exact ⟨_, _, _, hA⟩⟩
