def taE (V V1 : Nat → Nat → Int32) : Prop := ∀ q, q ≠ 50 → q ≠ 51 → q < 71 → V1 q = V q
theorem ta_v {V V1 V0 : Nat → Nat → Int32} (hE : taE V V1) (hv : ∀ i, ¬ sc i → V i = V0 i) : ∀ i, ¬ sc i → V1 i = V0 i := fun i hi => by
  rw [hE i (fun e => hi (by subst e; decide)) (fun e => hi (by subst e; decide)) (Nat.not_le.mp (fun e => hi (by unfold sc; omega)))]
  exact hv i hi
theorem tR_pls {B : Nat → Int32} {sl : Option (List Nat)} {s aim : Nat} {V : Nat → Nat → Int32} {o : Nat} (hF : tbF B sl (B (13 + s)) (mN (B (21 + s))) (mN (B 26)) V o) (ha : aim ≤ 20) : ∀ n, n ≤ 10 → tR (fun lot => V (o + 1) (aim * 10 + lot)) n = mPls B sl s aim n
  | 0, _ => rfl
  | n + 1, hn => by
    show tR (fun lot => V (o + 1) (aim * 10 + lot)) n ||| ((1 : Int32) <<< (V (o + 1) (aim * 10 + n) &&& 31)) = mPls B sl s aim n ||| (1 <<< (nI (mLn B sl s aim n) &&& 31))
    rw [tR_pls hF ha n (by omega), (hF aim (by omega)).1 n (by omega)]
theorem z_sh31 : ∀ k : Nat, k < 32 → ((nI k &&& 31).toBitVec.smod 32).toNat = k := by decide
theorem z_bit (f : Nat → Prop) [DecidablePred f] {n k : Nat} (hn : n ≤ 30) (hk : k < 32) : ((zbits f n) >>> (nI k &&& 31)) &&& 1 = nI (if k < n ∧ f k then 1 else 0) := by
  have h1 := nbits_lt f n
  have h2 : 2 ^ n ≤ 2 ^ 30 := Nat.pow_le_pow_right (by decide) hn
  have h3 : nbits f n / 2 ^ k ≤ nbits f n := Nat.div_le_self _ _
  rw [nbits_z f (by omega), pk_shrN (by omega) _ k (z_sh31 k hk), z_and1 (by omega), nbits_bit]
/-- pairs as the class counts them -/
def cU (P : Nat → Nat → Prop) [∀ x y, Decidable (P x y)] (s : Nat) : Nat → Nat → Nat
  | 0, _ => 0
  | n + 1, j => (if P s j then 1 else 0) + cU P s n (j + 1)
def cO (P : Nat → Nat → Prop) [∀ x y, Decidable (P x y)] : Nat → Nat → Nat
  | 0, _ => 0
  | n + 1, i => cU P i n (i + 1) + cO P n (i + 1)
theorem cU_le (P : Nat → Nat → Prop) [∀ x y, Decidable (P x y)] (s : Nat) : ∀ n j, cU P s n j ≤ n
  | 0, _ => Nat.le_refl 0
  | n + 1, j => by
    have := cU_le P s n (j + 1)
    unfold cU
    split <;> omega
theorem cO_all (P : Nat → Nat → Prop) [∀ x y, Decidable (P x y)] (hs : ∀ x y, P x y ↔ P y x) : cO P 4 0 = nsum (fun s => zcnt (fun o => P s o) s) 4 := by
  have e : ∀ x y, (if P x y then 1 else 0 : Nat) = if P y x then 1 else 0 := fun x y => by
    by_cases h : P x y
    · rw [if_pos h, if_pos ((hs x y).mp h)]
    · rw [if_neg h, if_neg (fun z => h ((hs x y).mpr z))]
  have e10 := e 1 0
  have e20 := e 2 0
  have e21 := e 2 1
  have e30 := e 3 0
  have e31 := e 3 1
  have e32 := e 3 2
  simp only [cO, cU, nsum, zcnt, Nat.zero_add, Nat.reduceAdd]
  omega
theorem nsum_cut {f : Nat → Nat} {n : Nat} : ∀ k, (∀ j, n ≤ j → f j = 0) → nsum f (n + k) = nsum f n
  | 0, _ => rfl
  | k + 1, h => by
    show nsum f (n + k) + f (n + k) = _
    rw [nsum_cut k h, h (n + k) (by omega), Nat.add_zero]
theorem zcnt_none {f : Nat → Prop} [DecidablePred f] : ∀ {n : Nat}, (∀ j, j < n → ¬ f j) → zcnt f n = 0
  | 0, _ => rfl
  | n + 1, h => by rw [zcnt_s, zcnt_none (fun j hj => h j (by omega)), if_neg (h n (by omega))]
theorem mAlike_of {B : Nat → Int32} {sl : Option (List Nat)} {f : Nat → Prop} [DecidablePred f] {nS aim : Nat} (h : nS ≤ 4) : cO (fun s o => mMeet B sl f nS aim s o) 4 0 = mAlike B sl f nS aim nS := by
  rw [cO_all _ (fun x y => by unfold mMeet; rw [Int32.and_comm]; exact ⟨fun z => ⟨z.2.1, z.1, z.2.2⟩, fun z => ⟨z.2.1, z.1, z.2.2⟩⟩)]
  have := nsum_cut (f := fun s => zcnt (fun o => mMeet B sl f nS aim s o) s) (n := nS) (4 - nS) (fun j hj => zcnt_none (fun o ho z => absurd z.1.1 (by omega)))
  rw [show nS + (4 - nS) = 4 by omega] at this
  exact this
theorem fillAll_lp {G : zG} {l : Launch} {a : Nat} {M0 : zM} {V : Nat → Nat → Int32} {W : Nat → Nat → Int64} {R : Nat → Nat → Option Nat} {V0 : Nat → Nat → Int32} {T : Nat} {B : Nat → Int32} {sl ol : Option (List Nat)} {Tm : Nat} (hH : cH a M0 V0 R T B sl ol Tm) (hv : ∀ i, ¬ sc i → V i = V0 i) : ∀ (n i : Nat) (V1 : Nat → Nat → Int32) (M : zM), i + n = mN (B 6) → (∀ s, s < i → tbF B sl (B (13 + s)) (mN (B (21 + s))) (mN (B 26)) V1 (71 + 4 * s)) → taE V V1 → kA a M0 M V1 W R → aj G l kX11_fillAllTables 5 2 [(1, .int (nI i)), (0, .ref a)] [] M 0 0 (zv (fun M' => ∃ V1, kA a M0 M' V1 W R ∧ taE V V1 ∧ ∀ s, s < mN (B 6) → tbF B sl (B (13 + s)) (mN (B (21 + s))) (mN (B 26)) V1 (71 + 4 * s))) := by
  obtain ⟨hT, hb, hS, hB⟩ := id hH
  have hd0 := (dLaw_of hB).1
  have hd1 := (dLaw_of hB).2
  have h25 := hB.2.2.2.2.2.1
  have h26 := hB.2.2.2.2.2.2.1
  have h27 := hB.2.2.2.2.2.2.2.1
  have h6 := hB.2.2.1
  have hag := hB.2.2.2.2.1
  have hTm := hB.2.2.2.2.2.2.2.2.1
  have h25b := h25.2
  have h26b := h26.2
  have h27b := h27.2
  have h6b := h6.2
  intro n
  induction n with
  | zero =>
    intro i V1 M hin hI hE hA
    refine aj.iload_n dX11_fillAllTables_2 rfl ?_
    refine aj.aload_n dX11_fillAllTables_3 rfl ?_
    refine gT hT hA w378 dX11_fillAllTables_4 ?_
    refine gB_shooterCount (hA.bw hb) w226 dX11_fillAllTables_7 ?_
    refine aj.icmp_geN (a := i) (b := mN (B 6)) (tgt := 68) dX11_fillAllTables_10 rfl h6.1 (by omega) (by omega) rfl (fun c10 => ?_) (fun c10 => ?_)
    · exact aj.vret rfl dX11_fillAllTables_68 ⟨rfl, V1, hA, hE, fun s hs => hI s (by omega)⟩
    · exact absurd c10 (by omega)
  | succ n ih =>
    intro i V1 M hin hI hE hA
    have hv1 := ta_v hE hv
    have hks := kTb_j i (by omega)
    have hag1 := (hag i (by omega)).2
    refine aj.iload_n dX11_fillAllTables_2 rfl ?_
    refine aj.aload_n dX11_fillAllTables_3 rfl ?_
    refine gT hT hA w378 dX11_fillAllTables_4 ?_
    refine gB_shooterCount (hA.bw hb) w226 dX11_fillAllTables_7 ?_
    refine aj.icmp_geN (a := i) (b := mN (B 6)) (tgt := 68) dX11_fillAllTables_10 rfl h6.1 (by omega) (by omega) rfl (fun c10 => ?_) (fun c10 => ?_)
    · exact absurd c10 (by omega)
    · refine aj.iload_n dX11_fillAllTables_13 rfl ?_
      refine aj.aload_n dX11_fillAllTables_14 rfl ?_
      refine gX11_tables (i := 0) rfl hA w386 dX11_fillAllTables_15 ?_
      refine aj.kN (i := 52) (n := 4) (v := nI 4) rfl (by decide) (by decide) dX11_fillAllTables_18 hA rfl ?_
      refine aj.icmp_geN (a := i) (b := 4) (tgt := 68) dX11_fillAllTables_19 rfl rfl (by omega) (by omega) rfl (fun c19 => ?_) (fun c19 => ?_)
      · exact absurd c19 (by omega)
      · refine aj.aload_n dX11_fillAllTables_22 rfl ?_
        refine gX11_tables (i := 0) rfl hA w386 dX11_fillAllTables_23 ?_
        refine aj.iload_n dX11_fillAllTables_26 rfl ?_
        refine aj.kR70 (j := i) rfl dX11_fillAllTables_27 hA rfl (by omega) (by decide) ?_
        refine aj.aload_n dX11_fillAllTables_28 rfl ?_
        refine gX11_range (i := 0) rfl hA w385 dX11_fillAllTables_29 ?_
        refine aj.aload_n dX11_fillAllTables_32 rfl ?_
        refine gT hT hA w378 dX11_fillAllTables_33 ?_
        refine aj.aload_n dX11_fillAllTables_36 rfl ?_
        refine gT hT hA w378 dX11_fillAllTables_37 ?_
        refine aj.iload_n dX11_fillAllTables_40 rfl ?_
        refine aj.callE1 (d' := 0) (As := [.int (nI i)]) (rest := [.ref T, .ref (a + 49), .ref (a + (71 + 4 * i))]) dX11_fillAllTables_41 v_X11_131 li_X0_shakeOf (hA.bw hb).ob rfl rfl rfl (Nat.le_of_ble_eq_true rfl) (Nat.le_of_ble_eq_true rfl) (k_shakeOf i rfl (by omega) (hA.bw hb)) (fun M hM => ?_)
        subst hM
        refine aj.aload_n dX11_fillAllTables_44 rfl ?_
        refine gX11_now (i := 0) rfl hA w379 dX11_fillAllTables_45 ?_
        refine aj.iload_n dX11_fillAllTables_48 rfl ?_
        refine aj.callE1 (d' := 0) (As := [.int (nI i)]) (rest := [.int (B (13 + i)), .ref T, .ref (a + 49), .ref (a + (71 + 4 * i))]) dX11_fillAllTables_49 v_X11_135 li_X7_ageOf ⟨_, hA.ob (i := 8) rfl (by decide)⟩ rfl rfl rfl (Nat.le_of_ble_eq_true rfl) (Nat.le_of_ble_eq_true rfl) (k_ageOf (o := 8) ⟨rfl, rfl, rfl⟩ i rfl (by omega) hA) (fun M hM => ?_)
        subst hM
        refine aj.aload_n dX11_fillAllTables_52 rfl ?_
        refine gX11_now (i := 0) rfl hA w379 dX11_fillAllTables_53 ?_
        refine gX7_wind (i := 8) rfl hA w269 dX11_fillAllTables_56 ?_
        refine aj.callE0 (d' := 4) (As := [.ref (a + 49), .ref T, .int (B (13 + i)), .int (V1 10 i), .int (V1 8 1)]) (rest := []) dX11_fillAllTables_59 v_X11_247 li_X8_fill ⟨_, hA.ob (i := (71 + 4 * i)) hks.1 (by decide)⟩ rfl rfl rfl (Nat.le_of_ble_eq_true rfl) (Nat.le_of_ble_eq_true rfl) (k_fill (o := (71 + 4 * i)) (sh := B (13 + i)) hks (mN (B (21 + i))) (((congrFun (hv1 10 (by decide)) i).trans ((hS.2.1 i (by omega)).trans (hag i (by omega)).1))) (mN (B 26)) (((congrFun (hv1 8 (by decide)) 1).trans (hS.2.2.2.1.trans h26.1))) (by omega) hb hd0 hA) (fun M hM => ?_)
        obtain ⟨V2, hA, hE2, hF⟩ := hM
        refine aj.iincN (a := i) (c := 1) (lv' := [(1, .int (nI (i + 1))), (0, .ref a)]) dX11_fillAllTables_62 rfl (Nat.le_of_ble_eq_true rfl) rfl rfl rfl ?_
        refine aj.goto (tgt := 2) dX11_fillAllTables_65 rfl ?_
        refine aj.pick [0, 1] rfl ?_
        refine ih (i + 1) V2 M (by omega) (fun s hs => ?_) (fun q q0 q1 q2 => by rw [hE2 q q0 q1 (by omega) (by omega) (by omega)]; exact hE q q0 q1 q2) hA
        by_cases e : s = i
        · subst e; exact hF
        · exact tbF_E (hI s (by omega)) hE2 ⟨by omega, by omega⟩
theorem k_fillAll {G : zG} {l : Launch} {a : Nat} {M0 M : zM} {V : Nat → Nat → Int32} {W : Nat → Nat → Int64} {R : Nat → Nat → Option Nat} {V0 : Nat → Nat → Int32} {T : Nat} {B : Nat → Int32} {sl ol : Option (List Nat)} {Tm : Nat} (hH : cH a M0 V0 R T B sl ol Tm) (hv : ∀ i, ¬ sc i → V i = V0 i) (hA : kA a M0 M V W R) : am G l kX11_fillAllTables 5 [.ref a] M 0 0 (zv (fun M' => ∃ V1, kA a M0 M' V1 W R ∧ taE V V1 ∧ ∀ s, s < mN (B 6) → tbF B sl (B (13 + s)) (mN (B (21 + s))) (mN (B 26)) V1 (71 + 4 * s))) := by
  refine am.of (by decide) (Nat.le_of_ble_eq_true rfl) ?_
  refine aj.iconst (v := 0) dX11_fillAllTables_0 rfl ?_
  refine aj.istore_n (lv' := [(1, .int 0), (0, .ref a)]) dX11_fillAllTables_1 (Nat.le_of_ble_eq_true rfl) rfl ?_
  refine aj.pick [0, 1] rfl ?_
  exact fillAll_lp hH hv (mN (B 6)) 0 V M (by omega) (fun s hs => absurd hs (Nat.not_lt_zero s)) (fun _ _ _ _ => rfl) hA
theorem pairs_in {G : zG} {l : Launch} {a : Nat} {M0 M : zM} {V : Nat → Nat → Int32} {W : Nat → Nat → Int64} {R : Nat → Nat → Option Nat} {B : Nat → Int32} {sl : Option (List Nat)} {f : Nat → Prop} [DecidablePred f] {nS : Nat} (hnS : nS ≤ 4) (aim : Nat) {x_aim : Int32} (e_aim : x_aim = nI aim) (ha : aim ≤ 20) (hTb : ∀ s, s < nS → tbF B sl (B (13 + s)) (mN (B (21 + s))) (mN (B 26)) V (71 + 4 * s)) (hA : kA a M0 M V W R) {Q : Option Value → zM → Prop} {s : Nat} (hs : s < 4) {r : Nat} (hr : r ≤ 100) (hk : aj G l kX11_pairsThatMeet 3 98 [(3, .int (nI r)), (4, .int (nI s)), (0, .ref a), (1, .int (zbits f nS)), (2, .int x_aim)] [] M 0 0 Q) : ∀ (n j p : Nat), j + n = 4 → p + cU (fun s o => mMeet B sl f nS aim s o) s n j = r → aj G l kX11_pairsThatMeet 3 21 [(5, .int (nI j)), (3, .int (nI p)), (4, .int (nI s)), (0, .ref a), (1, .int (zbits f nS)), (2, .int x_aim)] [] M 0 0 Q := by
  have hks := kTb_j s hs
  intro n
  induction n with
  | zero =>
    intro j p hin hp
    refine aj.iload dX11_pairsThatMeet_21 rfl ?_
    refine aj.aload_n dX11_pairsThatMeet_23 rfl ?_
    refine gX11_tables (i := 0) rfl hA w386 dX11_pairsThatMeet_24 ?_
    refine aj.kN (i := 52) (n := 4) (v := nI 4) rfl (by decide) (by decide) dX11_pairsThatMeet_27 hA rfl ?_
    refine aj.icmp_geN (a := j) (b := 4) (tgt := 98) dX11_pairsThatMeet_28 rfl rfl (by (first | omega | (split <;> omega))) (by (first | omega | (split <;> omega))) rfl (fun c28 => ?_) (fun c28 => ?_)
    · have hp0 : p = r := hp
      refine aj.pick [1, 2, 3, 4, 5] rfl ?_
      rw [hp0]
      exact hk
    · exact absurd c28 (by omega)
  | succ n ih =>
    intro j p hin hp
    have hkj := kTb_j j (by omega)
    have hul := cU_le (fun s o => mMeet B sl f nS aim s o) s n (j + 1)
    have hcu : cU (fun s o => mMeet B sl f nS aim s o) s (n + 1) j = (if mMeet B sl f nS aim s j then 1 else 0) + cU (fun s o => mMeet B sl f nS aim s o) s n (j + 1) := rfl
    refine aj.iload dX11_pairsThatMeet_21 rfl ?_
    refine aj.aload_n dX11_pairsThatMeet_23 rfl ?_
    refine gX11_tables (i := 0) rfl hA w386 dX11_pairsThatMeet_24 ?_
    refine aj.kN (i := 52) (n := 4) (v := nI 4) rfl (by decide) (by decide) dX11_pairsThatMeet_27 hA rfl ?_
    refine aj.icmp_geN (a := j) (b := 4) (tgt := 98) dX11_pairsThatMeet_28 rfl rfl (by (first | omega | (split <;> omega))) (by (first | omega | (split <;> omega))) rfl (fun c28 => ?_) (fun c28 => ?_)
    · exact absurd c28 (by omega)
    · refine aj.iload_n dX11_pairsThatMeet_31 rfl ?_
      refine aj.iload dX11_pairsThatMeet_32 rfl ?_
      refine aj.ishr dX11_pairsThatMeet_34 ?_
      refine aj.iconst (v := 1) dX11_pairsThatMeet_35 rfl ?_
      refine aj.iand dX11_pairsThatMeet_36 ?_
      refine aj.iconst (v := 1) dX11_pairsThatMeet_37 rfl ?_
      refine aj.icmp_neN (a := if s < nS ∧ f s then 1 else 0) (b := 1) (tgt := 55) dX11_pairsThatMeet_38 (z_bit f (by omega) (by omega)) rfl (by (first | omega | (split <;> omega))) (by (first | omega | (split <;> omega))) rfl (fun c38 => ?_) (fun c38 => ?_)
      · refine aj.iconst (v := 0) dX11_pairsThatMeet_55 rfl ?_
        refine aj.istore (lv' := [(6, .int 0), (5, .int (nI j)), (3, .int (nI p)), (4, .int (nI s)), (0, .ref a), (1, .int (zbits f nS)), (2, .int x_aim)]) dX11_pairsThatMeet_56 (Nat.le_of_ble_eq_true rfl) rfl ?_
        refine aj.iload dX11_pairsThatMeet_58 rfl ?_
        refine aj.if_eqN (a := 0) (tgt := 92) dX11_pairsThatMeet_60 rfl (by (first | omega | (split <;> omega))) rfl (fun c60 => ?_) (fun c60 => ?_)
        · refine aj.iincN (a := j) (c := 1) (lv' := [(5, .int (nI (j + 1))), (6, .int 0), (3, .int (nI p)), (4, .int (nI s)), (0, .ref a), (1, .int (zbits f nS)), (2, .int x_aim)]) dX11_pairsThatMeet_92 rfl (Nat.le_of_ble_eq_true rfl) rfl rfl rfl ?_
          refine aj.goto (tgt := 21) dX11_pairsThatMeet_95 rfl ?_
          refine aj.pick [0, 2, 3, 4, 5, 6] rfl ?_
          exact ih (j + 1) p (by omega) (by rw [hcu, if_neg (show ¬ mMeet B sl f nS aim s j from fun z => c38 (by rw [if_pos z.1]))] at hp; omega)
        · exact absurd c60 (by decide)
      · have hb1 : s < nS ∧ f s := Classical.byContradiction fun z => by rw [if_neg z] at c38; exact absurd c38 (by decide)
        refine aj.iload_n dX11_pairsThatMeet_41 rfl ?_
        refine aj.iload dX11_pairsThatMeet_42 rfl ?_
        refine aj.ishr dX11_pairsThatMeet_44 ?_
        refine aj.iconst (v := 1) dX11_pairsThatMeet_45 rfl ?_
        refine aj.iand dX11_pairsThatMeet_46 ?_
        refine aj.iconst (v := 1) dX11_pairsThatMeet_47 rfl ?_
        refine aj.icmp_neN (a := if j < nS ∧ f j then 1 else 0) (b := 1) (tgt := 55) dX11_pairsThatMeet_48 (z_bit f (by omega) (by omega)) rfl (by (first | omega | (split <;> omega))) (by (first | omega | (split <;> omega))) rfl (fun c48 => ?_) (fun c48 => ?_)
        · refine aj.iconst (v := 0) dX11_pairsThatMeet_55 rfl ?_
          refine aj.istore (lv' := [(6, .int 0), (5, .int (nI j)), (3, .int (nI p)), (4, .int (nI s)), (0, .ref a), (1, .int (zbits f nS)), (2, .int x_aim)]) dX11_pairsThatMeet_56 (Nat.le_of_ble_eq_true rfl) rfl ?_
          refine aj.iload dX11_pairsThatMeet_58 rfl ?_
          refine aj.if_eqN (a := 0) (tgt := 92) dX11_pairsThatMeet_60 rfl (by (first | omega | (split <;> omega))) rfl (fun c60 => ?_) (fun c60 => ?_)
          · refine aj.iincN (a := j) (c := 1) (lv' := [(5, .int (nI (j + 1))), (6, .int 0), (3, .int (nI p)), (4, .int (nI s)), (0, .ref a), (1, .int (zbits f nS)), (2, .int x_aim)]) dX11_pairsThatMeet_92 rfl (Nat.le_of_ble_eq_true rfl) rfl rfl rfl ?_
            refine aj.goto (tgt := 21) dX11_pairsThatMeet_95 rfl ?_
            refine aj.pick [0, 2, 3, 4, 5, 6] rfl ?_
            exact ih (j + 1) p (by omega) (by rw [hcu, if_neg (show ¬ mMeet B sl f nS aim s j from fun z => c48 (by rw [if_pos z.2.1]))] at hp; omega)
          · exact absurd c60 (by decide)
        · have hb2 : j < nS ∧ f j := Classical.byContradiction fun z => by rw [if_neg z] at c48; exact absurd c48 (by decide)
          refine aj.iconst (v := 1) dX11_pairsThatMeet_51 rfl ?_
          refine aj.goto (tgt := 56) dX11_pairsThatMeet_52 rfl ?_
          refine aj.istore (lv' := [(6, .int 1), (5, .int (nI j)), (3, .int (nI p)), (4, .int (nI s)), (0, .ref a), (1, .int (zbits f nS)), (2, .int x_aim)]) dX11_pairsThatMeet_56 (Nat.le_of_ble_eq_true rfl) rfl ?_
          refine aj.iload dX11_pairsThatMeet_58 rfl ?_
          refine aj.if_eqN (a := 1) (tgt := 92) dX11_pairsThatMeet_60 rfl (by (first | omega | (split <;> omega))) rfl (fun c60 => ?_) (fun c60 => ?_)
          · exact absurd c60 (by decide)
          · refine aj.aload_n dX11_pairsThatMeet_63 rfl ?_
            refine gX11_tables (i := 0) rfl hA w386 dX11_pairsThatMeet_64 ?_
            refine aj.iload dX11_pairsThatMeet_67 rfl ?_
            refine aj.kR70 (j := s) rfl dX11_pairsThatMeet_69 hA rfl (by (first | omega | (split <;> omega))) (by decide) ?_
            refine aj.iload_n dX11_pairsThatMeet_70 rfl ?_
            refine aj.callE1 (d' := 2) (As := [.int x_aim]) (rest := []) dX11_pairsThatMeet_71 v_X11_431 li_X8_reached ⟨_, hA.ob (i := (71 + 4 * s)) hks.1 (by decide)⟩ rfl rfl rfl (Nat.le_of_ble_eq_true rfl) (Nat.le_of_ble_eq_true rfl) (k_reached (o := (71 + 4 * s)) hks aim e_aim (by omega) hA) (fun M hM => ?_)
            subst hM
            refine aj.aload_n dX11_pairsThatMeet_74 rfl ?_
            refine gX11_tables (i := 0) rfl hA w386 dX11_pairsThatMeet_75 ?_
            refine aj.iload dX11_pairsThatMeet_78 rfl ?_
            refine aj.kR70 (j := j) rfl dX11_pairsThatMeet_80 hA rfl (by (first | omega | (split <;> omega))) (by decide) ?_
            refine aj.iload_n dX11_pairsThatMeet_81 rfl ?_
            refine aj.callE1 (d' := 2) (As := [.int x_aim]) (rest := [.int (tR (fun lot => V ((71 + 4 * s) + 1) (aim * 10 + lot)) 10)]) dX11_pairsThatMeet_82 v_X11_431 li_X8_reached ⟨_, hA.ob (i := (71 + 4 * j)) hkj.1 (by decide)⟩ rfl rfl rfl (Nat.le_of_ble_eq_true rfl) (Nat.le_of_ble_eq_true rfl) (k_reached (o := (71 + 4 * j)) hkj aim e_aim (by omega) hA) (fun M hM => ?_)
            subst hM
            refine aj.iand dX11_pairsThatMeet_85 ?_
            refine aj.if_eq (tgt := 92) dX11_pairsThatMeet_86 rfl (fun c86 => ?_) (fun c86 => ?_)
            · refine aj.iincN (a := j) (c := 1) (lv' := [(5, .int (nI (j + 1))), (6, .int 1), (3, .int (nI p)), (4, .int (nI s)), (0, .ref a), (1, .int (zbits f nS)), (2, .int x_aim)]) dX11_pairsThatMeet_92 rfl (Nat.le_of_ble_eq_true rfl) rfl rfl rfl ?_
              refine aj.goto (tgt := 21) dX11_pairsThatMeet_95 rfl ?_
              refine aj.pick [0, 2, 3, 4, 5, 6] rfl ?_
              exact ih (j + 1) p (by omega) (by rw [hcu, if_neg (show ¬ mMeet B sl f nS aim s j from fun z => z.2.2 (by rw [← tR_pls (hTb s hb1.1) ha 10 (by decide), ← tR_pls (hTb j hb2.1) ha 10 (by decide)]; exact c86))] at hp; omega)
            · refine aj.iincN (a := p) (c := 1) (lv' := [(3, .int (nI (p + 1))), (6, .int 1), (5, .int (nI j)), (4, .int (nI s)), (0, .ref a), (1, .int (zbits f nS)), (2, .int x_aim)]) dX11_pairsThatMeet_89 rfl (Nat.le_of_ble_eq_true rfl) rfl rfl rfl ?_
              refine aj.iincN (a := j) (c := 1) (lv' := [(5, .int (nI (j + 1))), (3, .int (nI (p + 1))), (6, .int 1), (4, .int (nI s)), (0, .ref a), (1, .int (zbits f nS)), (2, .int x_aim)]) dX11_pairsThatMeet_92 rfl (Nat.le_of_ble_eq_true rfl) rfl rfl rfl ?_
              refine aj.goto (tgt := 21) dX11_pairsThatMeet_95 rfl ?_
              refine aj.pick [0, 1, 3, 4, 5, 6] rfl ?_
              exact ih (j + 1) (p + 1) (by omega) (by rw [hcu, if_pos (⟨hb1, hb2, by rw [← tR_pls (hTb s hb1.1) ha 10 (by decide), ← tR_pls (hTb j hb2.1) ha 10 (by decide)]; exact c86⟩ : mMeet B sl f nS aim s j)] at hp; omega)
theorem pairs_out {G : zG} {l : Launch} {a : Nat} {M0 M : zM} {V : Nat → Nat → Int32} {W : Nat → Nat → Int64} {R : Nat → Nat → Option Nat} {B : Nat → Int32} {sl : Option (List Nat)} {f : Nat → Prop} [DecidablePred f] {nS : Nat} (hnS : nS ≤ 4) (aim : Nat) {x_aim : Int32} (e_aim : x_aim = nI aim) (ha : aim ≤ 20) (hTb : ∀ s, s < nS → tbF B sl (B (13 + s)) (mN (B (21 + s))) (mN (B 26)) V (71 + 4 * s)) (hA : kA a M0 M V W R) {r : Nat} (hr : r ≤ 100) : ∀ (n s p : Nat), s + n = 4 → p + cO (fun s o => mMeet B sl f nS aim s o) n s = r → aj G l kX11_pairsThatMeet 3 5 [(4, .int (nI s)), (3, .int (nI p)), (0, .ref a), (1, .int (zbits f nS)), (2, .int x_aim)] [] M 0 0 (zr (.int (nI r)) (fun M' => M' = M)) := by
  intro n
  induction n with
  | zero =>
    intro s p hin hp
    refine aj.iload dX11_pairsThatMeet_5 rfl ?_
    refine aj.aload_n dX11_pairsThatMeet_7 rfl ?_
    refine gX11_tables (i := 0) rfl hA w386 dX11_pairsThatMeet_8 ?_
    refine aj.kN (i := 52) (n := 4) (v := nI 4) rfl (by decide) (by decide) dX11_pairsThatMeet_11 hA rfl ?_
    refine aj.icmp_geN (a := s) (b := 4) (tgt := 104) dX11_pairsThatMeet_12 rfl rfl (by omega) (by omega) rfl (fun c12 => ?_) (fun c12 => ?_)
    · refine aj.iload_n dX11_pairsThatMeet_104 rfl ?_
      have hp0 : p = r := hp
      exact aj.iret rfl dX11_pairsThatMeet_105 ⟨by rw [hp0], rfl⟩
    · exact absurd c12 (by omega)
  | succ n ih =>
    intro s p hin hp
    have hco : cO (fun s o => mMeet B sl f nS aim s o) (n + 1) s = cU (fun s o => mMeet B sl f nS aim s o) s n (s + 1) + cO (fun s o => mMeet B sl f nS aim s o) n (s + 1) := rfl
    refine aj.iload dX11_pairsThatMeet_5 rfl ?_
    refine aj.aload_n dX11_pairsThatMeet_7 rfl ?_
    refine gX11_tables (i := 0) rfl hA w386 dX11_pairsThatMeet_8 ?_
    refine aj.kN (i := 52) (n := 4) (v := nI 4) rfl (by decide) (by decide) dX11_pairsThatMeet_11 hA rfl ?_
    refine aj.icmp_geN (a := s) (b := 4) (tgt := 104) dX11_pairsThatMeet_12 rfl rfl (by omega) (by omega) rfl (fun c12 => ?_) (fun c12 => ?_)
    · exact absurd c12 (by omega)
    · refine aj.iload dX11_pairsThatMeet_15 rfl ?_
      refine aj.iconst (v := 1) dX11_pairsThatMeet_17 rfl ?_
      refine aj.iaddN (a := s) (b := 1) dX11_pairsThatMeet_18 rfl rfl ?_
      refine aj.istore (lv' := [(5, .int (nI (s + 1))), (4, .int (nI s)), (3, .int (nI p)), (0, .ref a), (1, .int (zbits f nS)), (2, .int x_aim)]) dX11_pairsThatMeet_19 (Nat.le_of_ble_eq_true rfl) rfl ?_
      refine aj.pick [0, 2, 1, 3, 4, 5] rfl ?_
      refine pairs_in hnS aim e_aim ha hTb hA (by omega) (r := p + cU (fun s o => mMeet B sl f nS aim s o) s n (s + 1)) (by omega) ?_ n (s + 1) p (by omega) rfl
      refine aj.iincN (a := s) (c := 1) (lv' := [(4, .int (nI (s + 1))), (3, .int (nI (p + cU (fun s o => mMeet B sl f nS aim s o) s n (s + 1)))), (0, .ref a), (1, .int (zbits f nS)), (2, .int x_aim)]) dX11_pairsThatMeet_98 rfl (Nat.le_of_ble_eq_true rfl) rfl rfl rfl ?_
      refine aj.goto (tgt := 5) dX11_pairsThatMeet_101 rfl ?_
      refine aj.pick [0, 1, 2, 3, 4] rfl ?_
      exact ih (s + 1) _ (by omega) (by rw [hco] at hp; omega)
theorem k_pairs {G : zG} {l : Launch} {a : Nat} {M0 M : zM} {V : Nat → Nat → Int32} {W : Nat → Nat → Int64} {R : Nat → Nat → Option Nat} {B : Nat → Int32} {sl : Option (List Nat)} {f : Nat → Prop} [DecidablePred f] {nS : Nat} (hnS : nS ≤ 4) (aim : Nat) {x_aim : Int32} (e_aim : x_aim = nI aim) (ha : aim ≤ 20) (hTb : ∀ s, s < nS → tbF B sl (B (13 + s)) (mN (B (21 + s))) (mN (B 26)) V (71 + 4 * s)) (hA : kA a M0 M V W R) : am G l kX11_pairsThatMeet 3 [.ref a, .int (zbits f nS), .int x_aim] M 0 0 (zr (.int (nI (mAlike B sl f nS aim nS))) (fun M' => M' = M)) := by
  have hal := mAlike_le B sl f (aim := aim) hnS
  refine am.of (by decide) (Nat.le_of_ble_eq_true rfl) ?_
  refine aj.iconst (v := 0) dX11_pairsThatMeet_0 rfl ?_
  refine aj.istore_n (lv' := [(3, .int 0), (0, .ref a), (1, .int (zbits f nS)), (2, .int x_aim)]) dX11_pairsThatMeet_1 (Nat.le_of_ble_eq_true rfl) rfl ?_
  refine aj.iconst (v := 0) dX11_pairsThatMeet_2 rfl ?_
  refine aj.istore (lv' := [(4, .int 0), (3, .int 0), (0, .ref a), (1, .int (zbits f nS)), (2, .int x_aim)]) dX11_pairsThatMeet_3 (Nat.le_of_ble_eq_true rfl) rfl ?_
  refine aj.pick [0, 1, 2, 3, 4] rfl ?_
  exact pairs_out hnS aim e_aim ha hTb hA (by omega) 4 0 0 (by omega) (by rw [Nat.zero_add]; exact mAlike_of hnS)
theorem tells_lp {G : zG} {l : Launch} {a : Nat} {M0 M : zM} {V : Nat → Nat → Int32} {W : Nat → Nat → Int64} {R : Nat → Nat → Option Nat} {B : Nat → Int32} {sl : Option (List Nat)} {f : Nat → Prop} [DecidablePred f] {nS : Nat} (hnS : nS ≤ 4) (hTb : ∀ s, s < nS → tbF B sl (B (13 + s)) (mN (B (21 + s))) (mN (B 26)) V (71 + 4 * s)) (hA : kA a M0 M V W R) : ∀ (n i g y : Nat), i + n = 20 → g = zmin (fun j => mAlike B sl f nS j nS) i → y = mAlike B sl f nS g nS → aj G l kX11_tells 8 47 [(7, .int (nI (i + 1))), (5, .int (nI g)), (6, .int (nI y)), (4, .int (zbits f nS)), (0, .ref a)] [] M 0 0 (zr (.int (nI (zmin (fun j => mAlike B sl f nS j nS) 20))) (fun M' => M' = M)) := by
  intro n
  induction n with
  | zero =>
    intro i g y hin hg hy
    have hgl := zmin_le (fun j => mAlike B sl f nS j nS) i
    have haly := mAlike_le B sl f (aim := g) hnS
    refine aj.iload dX11_tells_47 rfl ?_
    refine aj.bipush (v := 21) dX11_tells_49 rfl ?_
    refine aj.icmp_geN (a := i + 1) (b := 21) (tgt := 85) dX11_tells_51 rfl rfl (by omega) (by omega) rfl (fun c51 => ?_) (fun c51 => ?_)
    · refine aj.iload dX11_tells_85 rfl ?_
      exact aj.iret rfl dX11_tells_87 ⟨by rw [hg, show i = 20 by omega], rfl⟩
    · exact absurd c51 (by omega)
  | succ n ih =>
    intro i g y hin hg hy
    have hgl := zmin_le (fun j => mAlike B sl f nS j nS) i
    have haly := mAlike_le B sl f (aim := g) hnS
    refine aj.iload dX11_tells_47 rfl ?_
    refine aj.bipush (v := 21) dX11_tells_49 rfl ?_
    refine aj.icmp_geN (a := i + 1) (b := 21) (tgt := 85) dX11_tells_51 rfl rfl (by omega) (by omega) rfl (fun c51 => ?_) (fun c51 => ?_)
    · exact absurd c51 (by omega)
    · refine aj.aload_n dX11_tells_54 rfl ?_
      refine aj.iload dX11_tells_55 rfl ?_
      refine aj.iload dX11_tells_57 rfl ?_
      refine aj.callE1 (d' := 3) (As := [.int (zbits f nS), .int (nI (i + 1))]) (rest := []) dX11_tells_59 v_X11_303 li_X11_pairsThatMeet ⟨_, hA.ob (i := 0) rfl (by decide)⟩ rfl rfl rfl (Nat.le_of_ble_eq_true rfl) (Nat.le_of_ble_eq_true rfl) (k_pairs hnS (i + 1) rfl (by omega) hTb hA) (fun M hM => ?_)
      subst hM
      have hal59 := mAlike_le B sl f (aim := i + 1) hnS
      refine aj.istore (lv' := [(8, .int (nI (mAlike B sl f nS (i + 1) nS))), (7, .int (nI (i + 1))), (5, .int (nI g)), (6, .int (nI y)), (4, .int (zbits f nS)), (0, .ref a)]) dX11_tells_62 (Nat.le_of_ble_eq_true rfl) rfl ?_
      refine aj.iload dX11_tells_64 rfl ?_
      refine aj.iload dX11_tells_66 rfl ?_
      refine aj.icmp_geN (a := mAlike B sl f nS (i + 1) nS) (b := y) (tgt := 79) dX11_tells_68 rfl rfl (by omega) (by omega) rfl (fun c68 => ?_) (fun c68 => ?_)
      · refine aj.iincN (a := i + 1) (c := 1) (lv' := [(7, .int (nI (i + 1 + 1))), (8, .int (nI (mAlike B sl f nS (i + 1) nS))), (5, .int (nI g)), (6, .int (nI y)), (4, .int (zbits f nS)), (0, .ref a)]) dX11_tells_79 rfl (Nat.le_of_ble_eq_true rfl) rfl rfl rfl ?_
        refine aj.goto (tgt := 47) dX11_tells_82 rfl ?_
        refine aj.pick [0, 2, 3, 4, 5] rfl ?_
        exact ih (i + 1) g y (by omega) (by rw [zmin_s, ← hg, if_neg (show ¬ mAlike B sl f nS (i + 1) nS < mAlike B sl f nS g nS by rw [← hy]; omega)]) hy
      · refine aj.iload dX11_tells_71 rfl ?_
        refine aj.istore (lv' := [(5, .int (nI (i + 1))), (8, .int (nI (mAlike B sl f nS (i + 1) nS))), (7, .int (nI (i + 1))), (6, .int (nI y)), (4, .int (zbits f nS)), (0, .ref a)]) dX11_tells_73 (Nat.le_of_ble_eq_true rfl) rfl ?_
        refine aj.iload dX11_tells_75 rfl ?_
        refine aj.istore (lv' := [(6, .int (nI (mAlike B sl f nS (i + 1) nS))), (5, .int (nI (i + 1))), (8, .int (nI (mAlike B sl f nS (i + 1) nS))), (7, .int (nI (i + 1))), (4, .int (zbits f nS)), (0, .ref a)]) dX11_tells_77 (Nat.le_of_ble_eq_true rfl) rfl ?_
        refine aj.iincN (a := i + 1) (c := 1) (lv' := [(7, .int (nI (i + 1 + 1))), (6, .int (nI (mAlike B sl f nS (i + 1) nS))), (5, .int (nI (i + 1))), (8, .int (nI (mAlike B sl f nS (i + 1) nS))), (4, .int (zbits f nS)), (0, .ref a)]) dX11_tells_79 rfl (Nat.le_of_ble_eq_true rfl) rfl rfl rfl ?_
        refine aj.goto (tgt := 47) dX11_tells_82 rfl ?_
        refine aj.pick [0, 2, 1, 4, 5] rfl ?_
        exact ih (i + 1) (i + 1) _ (by omega) (by rw [zmin_s, ← hg, if_pos (show mAlike B sl f nS (i + 1) nS < mAlike B sl f nS g nS by rw [← hy]; omega)]) rfl
theorem p_tells {G : zG} {l : Launch} {a : Nat} {M0 M : zM} {V0 : Nat → Nat → Int32} {W0 : Nat → Nat → Int64} {R : Nat → Nat → Option Nat} {T : Nat} {B : Nat → Int32} {sl ol : Option (List Nat)} {Tm : Nat} (t : Int32) (aim : Int32) (hM : kW a M0 M V0 W0 R) (hH : cH a M0 V0 R T B sl ol Tm) {A : Nat → Nat → Int32} {L : Nat → Nat → Int64} (hTr : trR V0 W0 A L) : am G l kX11_tells 8 [.ref a, .int t, .int aim] M 0 0 (zr (.int (if mSeenC A L t aim = 0 then (if zbits (fun s => 0 < mWays B sl L (mN t) s (mN aim) (mN (A 33 (mN t)))) (mN (B 6)) = 0 then -1 else nI (zmin (fun j => mAlike B sl (fun s => 0 < mWays B sl L (mN t) s (mN aim) (mN (A 33 (mN t)))) (mN (B 6)) j (mN (B 6))) 20)) else mSeenC A L t aim)) (fun M' => kW a M0 M' V0 W0 R)) := by
  obtain ⟨V, W, hA, hv, hw⟩ := hM
  obtain ⟨hT, hb, hS, hB⟩ := id hH
  have hd0 := (dLaw_of hB).1
  have hd1 := (dLaw_of hB).2
  have h25 := hB.2.2.2.2.2.1
  have h26 := hB.2.2.2.2.2.2.1
  have h27 := hB.2.2.2.2.2.2.2.1
  have h6 := hB.2.2.1
  have hag := hB.2.2.2.2.1
  have hTm := hB.2.2.2.2.2.2.2.2.1
  have h25b := h25.2
  have h26b := h26.2
  have h27b := h27.2
  have h6b := h6.2
  refine am.of (by decide) (Nat.le_of_ble_eq_true rfl) ?_
  refine aj.aload_n dX11_tells_0 rfl ?_
  refine aj.iload_n dX11_tells_1 rfl ?_
  refine aj.iload_n dX11_tells_2 rfl ?_
  refine aj.callE1 (d' := 1) (As := [.int t, .int aim]) (rest := []) dX11_tells_3 v_X11_288 li_X11_refusedSeen ⟨_, hA.ob (i := 0) rfl (by decide)⟩ rfl rfl rfl (Nat.le_of_ble_eq_true rfl) (Nat.le_of_ble_eq_true rfl) (k_refusedSeen t aim hTr hv hw hA) (fun M hM => ?_)
  subst hM
  refine aj.istore_n (lv' := [(3, .int (mSeenC A L t aim)), (0, .ref a), (1, .int t), (2, .int aim)]) dX11_tells_6 (Nat.le_of_ble_eq_true rfl) rfl ?_
  refine aj.iload_n dX11_tells_7 rfl ?_
  refine aj.if_eq (tgt := 13) dX11_tells_8 rfl (fun c8 => ?_) (fun c8 => ?_)
  · obtain ⟨ct, ca, hno, h18, hz0⟩ := mSeenC_0 c8
    have h_t := inR_bd (n := 3) ct (by decide)
    have h2_t := h_t.2
    have h_aim := inR_bd (n := 20) ca (by decide)
    have h2_aim := h_aim.2
    have hb8 := inR_bd1 (n := 8) h18 (by decide)
    refine aj.aload_n dX11_tells_13 rfl ?_
    refine aj.iload_n dX11_tells_14 rfl ?_
    refine aj.iload_n dX11_tells_15 rfl ?_
    refine aj.callE1 (d' := 7) (As := [.int t, .int aim]) (rest := []) dX11_tells_16 v_X11_291 li_X11_seenShooters ⟨_, hA.ob (i := 0) rfl (by decide)⟩ rfl rfl rfl (Nat.le_of_ble_eq_true rfl) (Nat.le_of_ble_eq_true rfl) (k_seenSh (mN t) h_t.1 (mN aim) h_aim.1 (by omega) h2_aim hno hb8.1 hb8.2.1 (seenOK_of hb8.2.1 hz0) hTr hw hH hv hA) (fun M hM => ?_)
    obtain ⟨V, hA, hE⟩ := hM
    have hv := sp_v hE hv
    refine aj.istore (lv' := [(4, .int (zbits (fun s => 0 < mWays B sl L (mN t) s (mN aim) (mN (A 33 (mN t)))) (mN (B 6)))), (3, .int (mSeenC A L t aim)), (0, .ref a), (1, .int t), (2, .int aim)]) dX11_tells_19 (Nat.le_of_ble_eq_true rfl) rfl ?_
    refine aj.iload dX11_tells_21 rfl ?_
    refine aj.if_ne (tgt := 28) dX11_tells_23 rfl (fun c23 => ?_) (fun c23 => ?_)
    · refine aj.aload_n dX11_tells_28 rfl ?_
      refine aj.callE0 (d' := 5) (As := []) (rest := []) dX11_tells_29 v_X11_300 li_X11_fillAllTables ⟨_, hA.ob (i := 0) rfl (by decide)⟩ rfl rfl rfl (Nat.le_of_ble_eq_true rfl) (Nat.le_of_ble_eq_true rfl) (k_fillAll hH hv hA) (fun M hM => ?_)
      obtain ⟨V, hA, hE, hTb⟩ := hM
      have hv := ta_v hE hv
      refine aj.iconst (v := 0) dX11_tells_32 rfl ?_
      refine aj.istore (lv' := [(5, .int 0), (4, .int (zbits (fun s => 0 < mWays B sl L (mN t) s (mN aim) (mN (A 33 (mN t)))) (mN (B 6)))), (3, .int (mSeenC A L t aim)), (0, .ref a), (1, .int t), (2, .int aim)]) dX11_tells_33 (Nat.le_of_ble_eq_true rfl) rfl ?_
      refine aj.aload_n dX11_tells_35 rfl ?_
      refine aj.iload dX11_tells_36 rfl ?_
      refine aj.iconst (v := 0) dX11_tells_38 rfl ?_
      refine aj.callE1 (d' := 3) (As := [.int (zbits (fun s => 0 < mWays B sl L (mN t) s (mN aim) (mN (A 33 (mN t)))) (mN (B 6))), .int 0]) (rest := []) dX11_tells_39 v_X11_303 li_X11_pairsThatMeet ⟨_, hA.ob (i := 0) rfl (by decide)⟩ rfl rfl rfl (Nat.le_of_ble_eq_true rfl) (Nat.le_of_ble_eq_true rfl) (k_pairs (f := (fun s => 0 < mWays B sl L (mN t) s (mN aim) (mN (A 33 (mN t))))) h6b 0 rfl (by decide) hTb hA) (fun M hM => ?_)
      subst hM
      refine aj.istore (lv' := [(6, .int (nI (mAlike B sl (fun s => 0 < mWays B sl L (mN t) s (mN aim) (mN (A 33 (mN t)))) (mN (B 6)) 0 (mN (B 6))))), (5, .int 0), (4, .int (zbits (fun s => 0 < mWays B sl L (mN t) s (mN aim) (mN (A 33 (mN t)))) (mN (B 6)))), (3, .int (mSeenC A L t aim)), (0, .ref a), (1, .int t), (2, .int aim)]) dX11_tells_42 (Nat.le_of_ble_eq_true rfl) rfl ?_
      refine aj.iconst (v := 1) dX11_tells_44 rfl ?_
      refine aj.istore (lv' := [(7, .int 1), (6, .int (nI (mAlike B sl (fun s => 0 < mWays B sl L (mN t) s (mN aim) (mN (A 33 (mN t)))) (mN (B 6)) 0 (mN (B 6))))), (5, .int 0), (4, .int (zbits (fun s => 0 < mWays B sl L (mN t) s (mN aim) (mN (A 33 (mN t)))) (mN (B 6)))), (3, .int (mSeenC A L t aim)), (0, .ref a), (1, .int t), (2, .int aim)]) dX11_tells_45 (Nat.le_of_ble_eq_true rfl) rfl ?_
      refine aj.pick [0, 2, 1, 3, 5] rfl ?_
      refine aj.mono (tells_lp (f := (fun s => 0 < mWays B sl L (mN t) s (mN aim) (mN (A 33 (mN t))))) h6b hTb hA 20 0 0 _ (by omega) rfl rfl) (fun r M' hq => ⟨hq.1.trans (by rw [if_pos c8, if_neg c23]), ?_⟩)
      rw [hq.2]
      exact ⟨_, _, hA, hv, hw⟩
    · refine aj.iconst (v := (-1)) dX11_tells_26 rfl ?_
      exact aj.iret rfl dX11_tells_27 ⟨by rw [if_pos c8, if_pos c23], ⟨_, _, hA, hv, hw⟩⟩
  · refine aj.iload_n dX11_tells_11 rfl ?_
    exact aj.iret rfl dX11_tells_12 ⟨by rw [if_neg c8], ⟨_, _, hA, hv, hw⟩⟩
