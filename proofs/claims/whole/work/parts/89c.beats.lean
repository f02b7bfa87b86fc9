theorem k_addToMatch {G : zG} {l : Launch} {a : Nat} {M0 M : zM} {V : Nat → Nat → Int32} {W : Nat → Nat → Int64} {R : Nat → Nat → Option Nat} {V0 : Nat → Nat → Int32} {T : Nat} {B : Nat → Int32} {sl ol : Option (List Nat)} {Tm : Nat} {F : zM} {t si p q : Nat} {g s : Nat → Int32} {w : Int64} (n : Nat) {x_n : Int32} (e_n : x_n = nI n) (sg : Int32) (hn3 : n ≤ 3) {cs : Nat → Int} {gs : List (Nat → Int)} (hko : t + 4 ≤ a ∨ a + 87 ≤ t) (hT : R 0 0 = some T) (hR1 : R 0 1 = some t) (hbF : bW a (rs F t) T B sl ol) (hS : stR V0 8 B) (hB : mOK B sl ol Tm) (hv : ∀ i, ¬ sc i → V i = V0 i) (hF : tbF B sl (B (13 + si)) (mN (B (21 + si))) (mN (B 26)) V 71) (hsc : ∀ j, j < 10 → (sg * mScore B (nI (mLn B sl si (mBest B sl si (mN (B (21 + si))) (mOpen ol (mN (B 26)) (mN (B 27)) (mN (B 25)) = true) 20) j)) (mOpen ol (mN (B 26)) (mN (B 27)) (mN (B 25)) = true)).toInt = cs j) (hbs : ∀ j, j < 10 → -99 ≤ cs j ∧ cs j ≤ 99) (hgl : gs.length + n ≤ 6) (hgB : eB gs) (hm : mt F M0 t p q p q (fun k => nI (hW gs k)) g s w) (hA : kA a M0 M V W R) : am G l kX11_addToMatch 6 [.ref a, .ref (a + 71), .int x_n, .int sg] M 0 0 (zv (fun M' => ∃ V1 M1 p q g s, kA a M1 M' V1 W R ∧ (∀ x, x ≠ 50 → x ≠ 51 → V1 x = V x) ∧ mt F M1 t p q p q (fun k => nI (hW (List.replicate n cs ++ gs) k)) g s (wP w n))) := by
  have hb := mt_bW hm hbF
  have hH : cH a M0 V0 R T B sl ol Tm := ⟨hT, hb, hS, hB⟩
  obtain ⟨hT, hb, hS, hB⟩ := id hH
  have hd0 := (dLaw_of hB).1
  have hd1 := (dLaw_of hB).2
  have h25 := hB.2.2.2.2.2.1
  have h26 := hB.2.2.2.2.2.2.1
  have h27 := hB.2.2.2.2.2.2.2.1
  have h6 := hB.2.2.1
  have hag := hB.2.2.2.2.1
  have hTm := hB.2.2.2.2.2.2.2.2.1
  have h25b := h25.2
  have h26b := h26.2
  have h27b := h27.2
  have h6b := h6.2
  obtain ⟨Vb, eVb⟩ : ∃ z, z = V := ⟨_, rfl⟩
  rw [← eVb]
  have hVE : ∀ q, q ≠ 50 → q ≠ 51 → V q = Vb q := fun q _ _ => by rw [eVb]
  refine am.of (by decide) (Nat.le_of_ble_eq_true rfl) ?_
  refine aj.aload_n dX11_addToMatch_0 rfl ?_
  refine gMt hR1 hA w389 dX11_addToMatch_1 ?_
  refine aj.ifnonnull (tgt := 8) dX11_addToMatch_4 rfl ?_
  refine aj.aload_n dX11_addToMatch_8 rfl ?_
  refine aj.callE1 (d' := 4) (As := []) (rest := []) dX11_addToMatch_9 v_X11_157 li_X11_isOpenNow ⟨_, hA.ob (i := 0) rfl (by decide)⟩ rfl rfl rfl (Nat.le_of_ble_eq_true rfl) (Nat.le_of_ble_eq_true rfl) (k_isOpenNow hH hv hA) (fun M hM => ?_)
  obtain ⟨v1, v2, hA⟩ := hM
  obtain ⟨V, hN, hA, hv⟩ := k_norm hA hv
  have hF := tbF_N hF hN (by decide)
  have hVE : ∀ q, q ≠ 50 → q ≠ 51 → V q = Vb q := fun q a b => (hN q a b).trans (hVE q a b)
  refine aj.istore (lv' := [(4, .int (zb (mOpen ol (mN (B 26)) (mN (B 27)) (mN (B 25)) = true))), (0, .ref a), (1, .ref (a + 71)), (2, .int x_n), (3, .int sg)]) dX11_addToMatch_12 (Nat.le_of_ble_eq_true rfl) rfl ?_
  refine aj.aload_n dX11_addToMatch_14 rfl ?_
  refine aj.aload_n dX11_addToMatch_15 rfl ?_
  refine aj.callE1 (d' := 5) (As := []) (rest := [.ref (a + 71)]) dX11_addToMatch_16 v_X11_227 li_X11_costNow ⟨_, hA.ob (i := 0) rfl (by decide)⟩ rfl rfl rfl (Nat.le_of_ble_eq_true rfl) (Nat.le_of_ble_eq_true rfl) (k_costNow hH hv hA) (fun M hM => ?_)
  obtain ⟨v1, v2, hA⟩ := hM
  obtain ⟨V, hN, hA, hv⟩ := k_norm hA hv
  have hF := tbF_N hF hN (by decide)
  have hVE : ∀ q, q ≠ 50 → q ≠ 51 → V q = Vb q := fun q a b => (hN q a b).trans (hVE q a b)
  refine aj.callE1 (d' := 2) (As := [.int (if mOpen ol (mN (B 26)) (mN (B 27)) (mN (B 25)) = true then B 5 else 0)]) (rest := []) dX11_addToMatch_19 v_X11_240 li_X8_best ⟨_, hA.ob (i := 71) rfl (by decide)⟩ rfl rfl rfl (Nat.le_of_ble_eq_true rfl) (Nat.le_of_ble_eq_true rfl) (k_best (o := 71) ⟨rfl, rfl, rfl, rfl⟩ (if mOpen ol (mN (B 26)) (mN (B 27)) (mN (B 25)) = true then B 5 else 0) hA) (fun M hM => ?_)
  subst hM
  have hz19 := zmax_le (tS V 71 (if mOpen ol (mN (B 26)) (mN (B 27)) (mN (B 25)) = true then B 5 else 0)) 20
  refine aj.istore (lv' := [(5, .int (nI (zmax (tS V 71 (if mOpen ol (mN (B 26)) (mN (B 27)) (mN (B 25)) = true then B 5 else 0)) 20))), (4, .int (zb (mOpen ol (mN (B 26)) (mN (B 27)) (mN (B 25)) = true))), (0, .ref a), (1, .ref (a + 71)), (2, .int x_n), (3, .int sg)]) dX11_addToMatch_22 (Nat.le_of_ble_eq_true rfl) rfl ?_
  refine aj.iconst (v := 0) dX11_addToMatch_24 rfl ?_
  refine aj.istore (lv' := [(6, .int 0), (5, .int (nI (zmax (tS V 71 (if mOpen ol (mN (B 26)) (mN (B 27)) (mN (B 25)) = true then B 5 else 0)) 20))), (4, .int (zb (mOpen ol (mN (B 26)) (mN (B 27)) (mN (B 25)) = true))), (0, .ref a), (1, .ref (a + 71)), (2, .int x_n), (3, .int sg)]) dX11_addToMatch_25 (Nat.le_of_ble_eq_true rfl) rfl ?_
  have hAim := tb_mBest hF (mOpen ol (mN (B 26)) (mN (B 27)) (mN (B 25)) = true)
  refine aj.pick [0, 1, 2, 3, 4, 5, 6] rfl ?_
  refine tellM_lp hko hT hR1 hbF n e_n (aim := (zmax (tS V 71 (if mOpen ol (mN (B 26)) (mN (B 27)) (mN (B 25)) = true then B 5 else 0)) 20)) (by omega) (mOpen ol (mN (B 26)) (mN (B 27)) (mN (B 25)) = true) (fun M0 M s2 hs2 hA hm => ?_) 10 0 M0 M s (by omega) (fun j hj => absurd hj (Nat.not_lt_zero j)) hA hm
  have hs3 : ∀ j, j < 10 → (s2 j).toInt = cs j := fun j hj => by
    rw [hs2 j hj, ← hsc j hj, hAim]
    congr 2
    exact congrArg (fun z => mScore B z (mOpen ol (mN (B 26)) (mN (B 27)) (mN (B 25)) = true)) ((hF _ (by omega)).1 j hj)
  refine aj.iconst (v := 0) dX11_addToMatch_68 rfl ?_
  refine aj.istore (lv' := [(6, .int 0), (5, .int (nI ((zmax (tS V 71 (if mOpen ol (mN (B 26)) (mN (B 27)) (mN (B 25)) = true then B 5 else 0)) 20)))), (4, .int (zb (mOpen ol (mN (B 26)) (mN (B 27)) (mN (B 25)) = true))), (0, .ref a), (1, .ref (a + 71)), (2, .int x_n), (3, .int sg)]) dX11_addToMatch_69 (Nat.le_of_ble_eq_true rfl) rfl ?_
  refine aj.pick [0, 1, 2, 3, 4, 5, 6] rfl ?_
  refine aj.mono (shotM_lp hko hT hR1 hbF n e_n (mOpen ol (mN (B 26)) (mN (B 27)) (mN (B 25)) = true) hn3 hs3 hbs hgl hgB n 0 p q g M0 M (by omega) hA hm) (fun r M' hq => ⟨hq.1, ?_⟩)
  obtain ⟨M1, p1, q1, g1, k1, k2⟩ := hq.2
  exact ⟨V, M1, p1, q1, g1, s2, k1, hVE, k2⟩
