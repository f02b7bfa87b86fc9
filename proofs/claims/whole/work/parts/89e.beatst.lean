theorem wP_N (a n : Nat) : wP (lN a) n = lN (a * 10 ^ n) := by
  induction n with
  | zero => rw [Nat.pow_zero, Nat.mul_one]; rfl
  | succ n ih =>
    show wP (lN a) n * 10 = _
    rw [ih, show (10 : Int64) = lN 10 from rfl, lN_mul, Nat.pow_succ, Nat.mul_assoc]
theorem sg_1 {x : Int32} : (1 * x).toInt = x.toInt := by rw [Int32.one_mul]
theorem sg_m {x : Int32} (h : -99 ≤ x.toInt ∧ x.toInt ≤ 99) : ((-1) * x).toInt = - x.toInt := by
  rw [Int32.toInt_mul, show ((-1 : Int32)).toInt = -1 from rfl, show (-1 : Int) * x.toInt = - x.toInt by omega]
  exact Int.bmod_eq_of_le (by omega) (by omega)
theorem mSc_bdK {B : Nat → Int32} {sl ol : Option (List Nat)} {Tm : Nat} (hB : mOK B sl ol Tm) (s aim : Nat) (op : Prop) [Decidable op] : ∀ k, k < 10 → -99 ≤ mSc B sl s aim op k ∧ mSc B sl s aim op k ≤ 99 := fun k _ => by
  obtain ⟨q1, q2, q3⟩ := mScore_bd (n := mLn B sl s aim k) hB (mLand_le _ _ _ _ _ _) op
  exact ⟨q1, q2⟩
theorem beats_t {G : zG} {l : Launch} {a : Nat} {M0 M : zM} {V : Nat → Nat → Int32} {W : Nat → Nat → Int64} {R : Nat → Nat → Option Nat} {V0 : Nat → Nat → Int32} {T : Nat} {B : Nat → Int32} {sl ol : Option (List Nat)} {Tm : Nat} {F : zM} {t p q : Nat} {f g s : Nat → Int32} {w : Int64} (s1 : Nat) {x_s1 : Int32} (e_s1 : x_s1 = nI s1) (s2 : Nat) {x_s2 : Int32} (e_s2 : x_s2 = nI s2) (n : Nat) {x_n : Int32} (e_n : x_n = nI n) (qq : Int32) (h14 : s1 < 4) (h24 : s2 < 4) (hn3 : n ≤ 3) (hko : t + 4 ≤ a ∨ a + 87 ≤ t) (hT : R 0 0 = some T) (hR1 : R 0 1 = some t) (hbF : bW a (rs F t) T B sl ol) (hS : stR V0 8 B) (hB : mOK B sl ol Tm) (hv : ∀ i, ¬ sc i → V i = V0 i) (hm : mt F M0 t p q p q f g s w) (hA : kA a M0 M V W R) : aj G l kX11_beats 7 65 [(0, .ref a), (1, .int x_s1), (2, .int x_s2), (3, .int x_n), (4, .int qq)] [] M 0 0 (zr (.long (mPart (lN (mBeat (mSc B sl s1 (mBest B sl s1 (mN (B (21 + s1))) (mOpen ol (mN (B 26)) (mN (B 27)) (mN (B 25)) = true) 20) (mOpen ol (mN (B 26)) (mN (B 27)) (mN (B 25)) = true)) (mSc B sl s2 (mBest B sl s2 (mN (B (21 + s2))) (mOpen ol (mN (B 26)) (mN (B 27)) (mN (B 25)) = true) 20) (mOpen ol (mN (B 26)) (mN (B 27)) (mN (B 25)) = true)) n)) (lN (10 ^ (2 * n))) qq)) (fun M' => ∃ V1 M1 p q f g s w, kA a M1 M' V1 W R ∧ (∀ i, ¬ sc i → V1 i = V0 i) ∧ mt F M1 t p q p q f g s w)) := by
  have hb1 := mSc_bdK hB s1 (mBest B sl s1 (mN (B (21 + s1))) (mOpen ol (mN (B 26)) (mN (B 27)) (mN (B 25)) = true) 20) (mOpen ol (mN (B 26)) (mN (B 27)) (mN (B 25)) = true)
  have hb2 := mSc_bdK hB s2 (mBest B sl s2 (mN (B (21 + s2))) (mOpen ol (mN (B 26)) (mN (B 27)) (mN (B 25)) = true) 20) (mOpen ol (mN (B 26)) (mN (B 27)) (mN (B 25)) = true)
  have hl6 : (List.replicate n (fun k => - (mSc B sl s2 (mBest B sl s2 (mN (B (21 + s2))) (mOpen ol (mN (B 26)) (mN (B 27)) (mN (B 25)) = true) 20) (mOpen ol (mN (B 26)) (mN (B 27)) (mN (B 25)) = true)) k) ++ (List.replicate n (mSc B sl s1 (mBest B sl s1 (mN (B (21 + s1))) (mOpen ol (mN (B 26)) (mN (B 27)) (mN (B 25)) = true) 20) (mOpen ol (mN (B 26)) (mN (B 27)) (mN (B 25)) = true)) ++ [])).length ≤ 6 := by rw [List.append_nil, List.length_append, List.length_replicate, List.length_replicate]; omega
  have hwn := (hW_won (eB_rep hb1 hb2 n n) hl6).trans (hW_beat (mSc B sl s1 (mBest B sl s1 (mN (B (21 + s1))) (mOpen ol (mN (B 26)) (mN (B 27)) (mN (B 25)) = true) 20) (mOpen ol (mN (B 26)) (mN (B 27)) (mN (B 25)) = true)) (mSc B sl s2 (mBest B sl s2 (mN (B (21 + s2))) (mOpen ol (mN (B 26)) (mN (B 27)) (mN (B 25)) = true) 20) (mOpen ol (mN (B 26)) (mN (B 27)) (mN (B 25)) = true)) n)
  have hww : wP (wP 1 n) n = lN (10 ^ (2 * n)) := by
    rw [show (1 : Int64) = lN 1 from rfl, wP_N, wP_N, Nat.one_mul, ← Nat.pow_add, show n + n = 2 * n by omega]
  have hp6 : 10 ^ (2 * n) ≤ 10 ^ 6 := Nat.pow_le_pow_right (by decide) (by omega)
  have hp0 : 0 < 10 ^ (2 * n) := Nat.pow_pos (by decide)
  have h106 : (10 : Nat) ^ 6 = 1000000 := by decide
  have hbl := mBeat_le (mSc B sl s1 (mBest B sl s1 (mN (B (21 + s1))) (mOpen ol (mN (B 26)) (mN (B 27)) (mN (B 25)) = true) 20) (mOpen ol (mN (B 26)) (mN (B 27)) (mN (B 25)) = true)) (mSc B sl s2 (mBest B sl s2 (mN (B (21 + s2))) (mOpen ol (mN (B 26)) (mN (B 27)) (mN (B 25)) = true) 20) (mOpen ol (mN (B 26)) (mN (B 27)) (mN (B 25)) = true)) n
  have hpp : 10 ^ n * 10 ^ n = 10 ^ (2 * n) := by rw [← Nat.pow_add, show n + n = 2 * n by omega]
  refine aj.aload_n dX11_beats_65 rfl ?_
  refine gMt hR1 hA w389 dX11_beats_66 ?_
  refine aj.callE0 (d' := 1) (As := []) (rest := []) dX11_beats_69 v_X11_258 li_X3_begin (km_in hko hA hm).ob rfl rfl rfl (Nat.le_of_ble_eq_true rfl) (Nat.le_of_ble_eq_true rfl) (k_mtBegin (km_in hko hA hm)) (fun M hM => ?_)
  obtain ⟨M0, hA, hm⟩ := km_out hko hA hm hM
  have hb := mt_bW hm hbF
  have hH : cH a M0 V0 R T B sl ol Tm := ⟨hT, hb, hS, hB⟩
  refine aj.aload_n dX11_beats_72 rfl ?_
  refine aj.aload_n dX11_beats_73 rfl ?_
  refine aj.iload_n dX11_beats_74 rfl ?_
  refine aj.callE1 (d' := 5) (As := [.int x_s1]) (rest := [.ref a]) dX11_beats_75 v_X11_220 li_X11_tableNow ⟨_, hA.ob (i := 0) rfl (by decide)⟩ rfl rfl rfl (Nat.le_of_ble_eq_true rfl) (Nat.le_of_ble_eq_true rfl) (k_tableNow s1 e_s1 (by omega) hH hv hA) (fun M hM => ?_)
  obtain ⟨V, hA, hE, hF⟩ := hM
  have hv := k_tbv hE (by decide) hv
  refine aj.iload_n dX11_beats_78 rfl ?_
  refine aj.iconst (v := 1) dX11_beats_79 rfl ?_
  refine aj.callE0 (d' := 6) (As := [.ref (a + 71), .int x_n, .int 1]) (rest := []) dX11_beats_80 v_X11_260 li_X11_addToMatch ⟨_, hA.ob (i := 0) rfl (by decide)⟩ rfl rfl rfl (Nat.le_of_ble_eq_true rfl) (Nat.le_of_ble_eq_true rfl) (k_addToMatch (si := s1) (cs := (mSc B sl s1 (mBest B sl s1 (mN (B (21 + s1))) (mOpen ol (mN (B 26)) (mN (B 27)) (mN (B 25)) = true) 20) (mOpen ol (mN (B 26)) (mN (B 27)) (mN (B 25)) = true))) (gs := ([] : List (Nat → Int))) n e_n 1 (by omega) hko hT hR1 hbF hS hB hv hF (fun j hj => sg_1) hb1 (by show 0 + n ≤ 6; omega) (fun g hg => absurd hg (List.not_mem_nil)) hm hA) (fun M hM => ?_)
  obtain ⟨V2, M0, p, q, g, s, hA, hVE, hm⟩ := hM
  have hv : ∀ i, ¬ sc i → V2 i = V0 i := fun i hi => by rw [hVE i (fun e => hi (by subst e; decide)) (fun e => hi (by subst e; decide))]; exact hv i hi
  obtain ⟨V, eV⟩ : ∃ z, z = V2 := ⟨_, rfl⟩
  rw [← eV] at hA hv
  have hb := mt_bW hm hbF
  have hH : cH a M0 V0 R T B sl ol Tm := ⟨hT, hb, hS, hB⟩
  refine aj.aload_n dX11_beats_83 rfl ?_
  refine aj.aload_n dX11_beats_84 rfl ?_
  refine aj.iload_n dX11_beats_85 rfl ?_
  refine aj.callE1 (d' := 5) (As := [.int x_s2]) (rest := [.ref a]) dX11_beats_86 v_X11_220 li_X11_tableNow ⟨_, hA.ob (i := 0) rfl (by decide)⟩ rfl rfl rfl (Nat.le_of_ble_eq_true rfl) (Nat.le_of_ble_eq_true rfl) (k_tableNow s2 e_s2 (by omega) hH hv hA) (fun M hM => ?_)
  obtain ⟨V, hA, hE, hF⟩ := hM
  have hv := k_tbv hE (by decide) hv
  refine aj.iload_n dX11_beats_89 rfl ?_
  refine aj.iconst (v := (-1)) dX11_beats_90 rfl ?_
  refine aj.callE0 (d' := 6) (As := [.ref (a + 71), .int x_n, .int (-1)]) (rest := []) dX11_beats_91 v_X11_260 li_X11_addToMatch ⟨_, hA.ob (i := 0) rfl (by decide)⟩ rfl rfl rfl (Nat.le_of_ble_eq_true rfl) (Nat.le_of_ble_eq_true rfl) (k_addToMatch (si := s2) (cs := (fun k => - (mSc B sl s2 (mBest B sl s2 (mN (B (21 + s2))) (mOpen ol (mN (B 26)) (mN (B 27)) (mN (B 25)) = true) 20) (mOpen ol (mN (B 26)) (mN (B 27)) (mN (B 25)) = true)) k)) (gs := (List.replicate n (mSc B sl s1 (mBest B sl s1 (mN (B (21 + s1))) (mOpen ol (mN (B 26)) (mN (B 27)) (mN (B 25)) = true) 20) (mOpen ol (mN (B 26)) (mN (B 27)) (mN (B 25)) = true)) ++ [])) n e_n (-1) (by omega) hko hT hR1 hbF hS hB hv hF (fun j hj => sg_m (hb2 j hj)) (fun j hj => by have := hb2 j hj; show -99 ≤ - (mSc B sl s2 (mBest B sl s2 (mN (B (21 + s2))) (mOpen ol (mN (B 26)) (mN (B 27)) (mN (B 25)) = true) 20) (mOpen ol (mN (B 26)) (mN (B 27)) (mN (B 25)) = true)) j ∧ - (mSc B sl s2 (mBest B sl s2 (mN (B (21 + s2))) (mOpen ol (mN (B 26)) (mN (B 27)) (mN (B 25)) = true) 20) (mOpen ol (mN (B 26)) (mN (B 27)) (mN (B 25)) = true)) j ≤ 99; omega) (by rw [List.append_nil, List.length_replicate]; omega) (by have := eB_rep hb1 hb1 0 n; exact this) hm hA) (fun M hM => ?_)
  obtain ⟨V2, M0, p, q, g, s, hA, hVE, hm⟩ := hM
  have hv : ∀ i, ¬ sc i → V2 i = V0 i := fun i hi => by rw [hVE i (fun e => hi (by subst e; decide)) (fun e => hi (by subst e; decide))]; exact hv i hi
  obtain ⟨V, eV⟩ : ∃ z, z = V2 := ⟨_, rfl⟩
  rw [← eV] at hA hv
  have hb := mt_bW hm hbF
  have hH : cH a M0 V0 R T B sl ol Tm := ⟨hT, hb, hS, hB⟩
  refine aj.aload_n dX11_beats_94 rfl ?_
  refine gMt hR1 hA w389 dX11_beats_95 ?_
  refine aj.callE1 (d' := 0) (As := []) (rest := []) dX11_beats_98 v_X11_264 li_X3_won (km_in hko hA hm).ob rfl rfl rfl (Nat.le_of_ble_eq_true rfl) (Nat.le_of_ble_eq_true rfl) (k_won hl6 (fun j _ => rfl) (km_in hko hA hm)) (fun M hM => ?_)
  subst hM
  refine aj.aload_n dX11_beats_101 rfl ?_
  refine gMt hR1 hA w389 dX11_beats_102 ?_
  refine mt.gW (km_in hko hA hm) w1016 dX11_beats_105 ?_
  refine aj.iload dX11_beats_108 rfl ?_
  refine aj.callS1 (d' := 1) (As := [.long (lN (nsum (fun k => hW (List.replicate n (fun k => - (mSc B sl s2 (mBest B sl s2 (mN (B (21 + s2))) (mOpen ol (mN (B 26)) (mN (B 27)) (mN (B 25)) = true) 20) (mOpen ol (mN (B 26)) (mN (B 27)) (mN (B 25)) = true)) k) ++ (List.replicate n (mSc B sl s1 (mBest B sl s1 (mN (B (21 + s1))) (mOpen ol (mN (B 26)) (mN (B 27)) (mN (B 25)) = true) 20) (mOpen ol (mN (B 26)) (mN (B 27)) (mN (B 25)) = true)) ++ [])) (595 + k)) 594)), .long (wP (wP 1 n) n), .int qq]) (rest := []) dX11_beats_110 v_X11_236 w953 rfl rfl (Nat.le_of_ble_eq_true rfl) (Nat.le_of_ble_eq_true rfl) (k_lowest _ (lN (nsum (fun k => hW (List.replicate n (fun k => - (mSc B sl s2 (mBest B sl s2 (mN (B (21 + s2))) (mOpen ol (mN (B 26)) (mN (B 27)) (mN (B 25)) = true) 20) (mOpen ol (mN (B 26)) (mN (B 27)) (mN (B 25)) = true)) k) ++ (List.replicate n (mSc B sl s1 (mBest B sl s1 (mN (B (21 + s1))) (mOpen ol (mN (B 26)) (mN (B 27)) (mN (B 25)) = true) 20) (mOpen ol (mN (B 26)) (mN (B 27)) (mN (B 25)) = true)) ++ [])) (595 + k)) 594)) (wP (wP 1 n) n) qq (by rw [hww, pk_lT (by omega)]; omega) (by rw [hwn, pk_lT (by omega)]; omega)) (fun M hM => ?_)
  subst hM
  exact aj.lret rfl dX11_beats_113 ⟨by rw [hwn, hww], V, M0, p, q, _, g, s, _, hA, hv, hm⟩
