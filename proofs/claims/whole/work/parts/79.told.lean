theorem doAll_loop {G : zG} {l : Launch} {a : Nat} {M0 : zM} {V : Nat → Nat → Int32} {W : Nat → Nat → Int64} {R : Nat → Nat → Option Nat} {T : Nat} {sl ol : Option (List Nat)} {o p many : Nat} (hs : kSt o) (ho : o = 8 ∨ o = 11) (ht : kTr p) (hp : 57 ≤ p) (hmany : V p 1 = nI many) (hm40 : many ≤ 40) (hT : R 0 0 = some T) {RR : Nat × (Nat → Int32)} : ∀ (n i : Nat) (B : Nat → Int32) (V1 : Nat → Nat → Int32) (Tm : Nat) (M : zM), i + n = many → mOK B sl ol Tm → Tm + n < 2 ^ 24 → bW a M0 T B sl ol → stR V1 o B → stE o V V1 → toldR sl ol (W (p + 1)) n i B = RR → kA a M0 M V1 W R → aj G l kX11_doAll 7 2 [(3, .int (nI i)), (0, .ref a), (1, .ref (a + o)), (2, .ref (a + p))] [] M 0 0 (zr (.int (nI RR.1)) (fun M' => ∃ V1, kA a M0 M' V1 W R ∧ stR V1 o RR.2 ∧ stE o V V1)) := by
  intro n
  induction n with
  | zero =>
    intro i B V1 Tm M hin hB hTn hb hS hE hR hA
    have hpm : V1 p 1 = nI many := by rw [hE p (by omega) (by omega) (by omega) (by omega) (by omega)]; exact hmany
    refine aj.iload_n dX11_doAll_2 rfl ?_
    refine aj.aload_n dX11_doAll_3 rfl ?_
    refine gX10_size (i := p) ht.1 hA w348 dX11_doAll_4 ?_
    refine aj.icmp_geN (a := i) (b := many) (tgt := 31) dX11_doAll_7 rfl hpm (by omega) (by omega) rfl (fun c7 => ?_) (fun c7 => ?_)
    · refine aj.aload_n dX11_doAll_31 rfl ?_
      refine gX10_size (i := p) ht.1 hA w348 dX11_doAll_32 ?_
      exact aj.iret rfl dX11_doAll_35 ⟨by rw [← hR, hpm, ← hin]; rfl, V1, hA, by rw [← hR]; exact hS, hE⟩
    · exact absurd c7 (by omega)
  | succ n ih =>
    intro i B V1 Tm M hin hB hTn hb hS hE hR hA
    have hpm : V1 p 1 = nI many := by rw [hE p (by omega) (by omega) (by omega) (by omega) (by omega)]; exact hmany
    rw [toldR_s] at hR
    have hE3 : ∀ V2, stE o V1 V2 → stE o V V2 := fun V2 h q h0 h1 q0 q1 q2 => (h q h0 h1 q0 q1 q2).trans (hE q h0 h1 q0 q1 q2)
    have h6b := hB.2.2.1.2
    refine aj.iload_n dX11_doAll_2 rfl ?_
    refine aj.aload_n dX11_doAll_3 rfl ?_
    refine gX10_size (i := p) ht.1 hA w348 dX11_doAll_4 ?_
    refine aj.icmp_geN (a := i) (b := many) (tgt := 31) dX11_doAll_7 rfl hpm (by omega) (by omega) rfl (fun c7 => ?_) (fun c7 => ?_)
    · exact absurd c7 (by omega)
    · refine aj.aload_n dX11_doAll_10 rfl ?_
      refine aj.aload_n dX11_doAll_11 rfl ?_
      refine aj.aload_n dX11_doAll_12 rfl ?_
      refine aj.iload_n dX11_doAll_13 rfl ?_
      refine aj.callE1 (d' := 0) (As := [.int (nI i)]) (rest := [.ref (a + o), .ref a]) dX11_doAll_14 v_X11_388 li_X10_at ⟨_, hA.ob (i := p) ht.1 (by decide)⟩ rfl rfl rfl (Nat.le_of_ble_eq_true rfl) (Nat.le_of_ble_eq_true rfl) (k_trAt (o := p) ht i rfl (by omega) hA) (fun M hM => ?_)
      subst hM
      refine aj.callE1 (d' := 6) (As := [.ref (a + o), .long (W (p + 1) i)]) (rest := []) dX11_doAll_17 v_X11_213 li_X11_doDeed ⟨_, hA.ob (i := 0) rfl (by decide)⟩ rfl rfl rfl (Nat.le_of_ble_eq_true rfl) (Nat.le_of_ble_eq_true rfl) (k_doDeed (o := o) hs ho (W (p + 1) i) hT hb hS hB hA) (fun M hM => ?_)
      obtain ⟨V2, hA, hS2, hE2⟩ := hM
      refine aj.if_neB (tgt := 25) dX11_doAll_20 rfl (fun c20 => ?_) (fun c20 => ?_)
      · refine aj.iincN (a := i) (c := 1) (lv' := [(3, .int (nI (i + 1))), (0, .ref a), (1, .ref (a + o)), (2, .ref (a + p))]) dX11_doAll_25 rfl (Nat.le_of_ble_eq_true rfl) rfl rfl rfl ?_
        refine aj.goto (tgt := 2) dX11_doAll_28 rfl ?_
        rw [if_pos c20] at hR hS2
        have q0 : 0 ≤ (W (p + 1) i).toInt := by omega
        have hq : dOK (mN (B 6)) (((W (p + 1) i).toInt.toNat : Nat) : Int) := by rw [Int.toNat_of_nonneg q0]; exact c20
        refine aj.pick [0, 1, 2, 3] rfl ?_
        exact ih (i + 1) _ V2 (Tm + 1) M (by omega) (mOK_do hB hq (by omega)) (by omega) (hb.cB (fun k hk => doB_k hq h6b (by omega))) hS2 (hE3 V2 hE2) hR hA
      · refine aj.iload_n dX11_doAll_23 rfl ?_
        rw [if_neg c20] at hR hS2
        exact aj.iret rfl dX11_doAll_24 ⟨by rw [← hR], V2, hA, by rw [← hR]; exact hS2, hE3 V2 hE2⟩
theorem k_doAll {G : zG} {l : Launch} {a : Nat} {M0 M : zM} {V : Nat → Nat → Int32} {W : Nat → Nat → Int64} {R : Nat → Nat → Option Nat} {T : Nat} {sl ol : Option (List Nat)} {o p many : Nat} (hs : kSt o) (ho : o = 8 ∨ o = 11) (ht : kTr p) (hp : 57 ≤ p) (hmany : V p 1 = nI many) (hm40 : many ≤ 40) (hT : R 0 0 = some T) {B : Nat → Int32} {Tm : Nat} (hTn : Tm + 40 < 2 ^ 24) (hb : bW a M0 T B sl ol) (hS : stR V o B) (hB : mOK B sl ol Tm) (hA : kA a M0 M V W R) : am G l kX11_doAll 7 [.ref a, .ref (a + o), .ref (a + p)] M 0 0 (zr (.int (nI (toldR sl ol (W (p + 1)) many 0 B).1)) (fun M' => ∃ V1, kA a M0 M' V1 W R ∧ stR V1 o (toldR sl ol (W (p + 1)) many 0 B).2 ∧ stE o V V1)) := by
  refine am.of (by decide) (Nat.le_of_ble_eq_true rfl) ?_
  refine aj.iconst (v := 0) dX11_doAll_0 rfl ?_
  refine aj.istore_n (lv' := [(3, .int 0), (0, .ref a), (1, .ref (a + o)), (2, .ref (a + p))]) dX11_doAll_1 (Nat.le_of_ble_eq_true rfl) rfl ?_
  refine aj.pick [0, 1, 2, 3] rfl ?_
  exact doAll_loop hs ho ht hp hmany hm40 hT many 0 B V Tm M (by omega) hB (by omega) hb hS (fun _ _ _ _ _ _ => rfl) rfl hA
theorem upd2 {f : Nat → Int32} {i : Nat} {x y : Int32} : upd (upd f i x) i y = upd f i y := by
  funext j
  by_cases e : j = i
  · rw [e, pk_us, pk_us]
  · rw [pk_un e, pk_un e, pk_un e]
theorem dr_norm {a : Nat} {M0 M : zM} {V V1 : Nat → Nat → Int32} {W : Nat → Nat → Int64} {R : Nat → Nat → Option Nat} {y : Int32} (hEq : ∀ z, va_up V1 0 (upd (V1 0) 1 z) = va_up V 0 (upd (V 0) 1 z)) (hM : kA a M0 M (va_up V1 0 (upd (V1 0) 1 y)) W R) : ∃ V2, V2 0 1 = y ∧ (∀ z, va_up V2 0 (upd (V2 0) 1 z) = va_up V 0 (upd (V 0) 1 z)) ∧ V2 = va_up V 0 (upd (V 0) 1 y) ∧ kA a M0 M V2 W R :=
  ⟨_, by rw [va_up_self, pk_us], fun z => by rw [bx_uu, va_up_self, upd2]; exact hEq z, hEq y, hM⟩
theorem k_draw {G : zG} {l : Launch} {a : Nat} {M0 M : zM} {V : Nat → Nat → Int32} {W : Nat → Nat → Int64} {R : Nat → Nat → Option Nat} {x : Int32} (hx : V 0 1 = x) (hA : kA a M0 M V W R) : am G l kX11_draw 0 [.ref a] M 0 0 (zr (.int (nI (drw (dx x)))) (fun M' => kA a M0 M' (va_up V 0 (upd (V 0) 1 (dx x))) W R)) := by
  refine am.of (by decide) (Nat.le_of_ble_eq_true rfl) ?_
  refine aj.aload_n dX11_draw_0 rfl ?_
  refine aj.ldcw dX11_draw_1 w913 ?_
  refine aj.aload_n dX11_draw_4 rfl ?_
  refine gX11_drawn (i := 0) rfl hA w391 dX11_draw_5 ?_
  refine aj.imul dX11_draw_8 ?_
  refine aj.sipush (v := 12345) dX11_draw_9 rfl ?_
  refine aj.iadd dX11_draw_12 ?_
  refine pX11_drawn (i := 0) rfl hA w391 dX11_draw_13 (fun M hA => ?_)
  refine aj.aload_n dX11_draw_16 rfl ?_
  refine gX11_drawn (i := 0) rfl hA w391 dX11_draw_17 ?_
  refine aj.bipush (v := 16) dX11_draw_20 rfl ?_
  refine aj.iushr16 dX11_draw_22 ?_
  exact aj.iret rfl dX11_draw_23 ⟨by rw [← hx, va_up_self, pk_us]; rfl, by rw [← hx]; exact hA⟩
theorem k_drawDeed {G : zG} {l : Launch} {a : Nat} {M0 M : zM} {V : Nat → Nat → Int32} {W : Nat → Nat → Int64} {R : Nat → Nat → Option Nat} {x : Int32} (hx : V 0 1 = x) (hA : kA a M0 M V W R) : am G l kX11_drawDeed 1 [.ref a] M 0 0 (zr (.int (nI (drV x))) (fun M' => kA a M0 M' (va_up V 0 (upd (V 0) 1 (drX x))) W R)) := by
  obtain ⟨V1, eV0⟩ : ∃ z, z = V := ⟨_, rfl⟩
  rw [← eV0] at hA hx
  have hEq : ∀ z, va_up V1 0 (upd (V1 0) 1 z) = va_up V 0 (upd (V 0) 1 z) := fun z => by rw [eV0]
  clear eV0
  refine am.of (by decide) (Nat.le_of_ble_eq_true rfl) ?_
  refine aj.aload_n dX11_drawDeed_0 rfl ?_
  refine aj.callE1 (d' := 0) (As := []) (rest := []) dX11_drawDeed_1 v_X11_399 li_X11_draw ⟨_, hA.ob (i := 0) rfl (by decide)⟩ rfl rfl rfl (Nat.le_of_ble_eq_true rfl) (Nat.le_of_ble_eq_true rfl) (k_draw hx hA) (fun M hM => ?_)
  obtain ⟨V1, hx, hEq, eV, hA⟩ := dr_norm hEq hM
  have hlt1 := drw_lt (dx (x))
  refine aj.bipush (v := 6) dX11_drawDeed_4 rfl ?_
  refine aj.iremN (a := drw (dx (x))) (b := 6) dX11_drawDeed_6 rfl rfl (by omega) (by omega) (by omega) ?_
  refine aj.istore_n (lv' := [(1, .int (nI ((drw (dx (x))) % 6))), (0, .ref a)]) dX11_drawDeed_7 (Nat.le_of_ble_eq_true rfl) rfl ?_
  refine aj.iload_n dX11_drawDeed_8 rfl ?_
  refine aj.iconst (v := 2) dX11_drawDeed_9 rfl ?_
  refine aj.icmp_geN (a := (drw (dx (x))) % 6) (b := 2) (tgt := 15) dX11_drawDeed_10 rfl rfl (by omega) (by omega) rfl (fun c10 => ?_) (fun c10 => ?_)
  · refine aj.iload_n dX11_drawDeed_15 rfl ?_
    refine aj.iconst (v := 2) dX11_drawDeed_16 rfl ?_
    refine aj.icmp_neN (a := (drw (dx (x))) % 6) (b := 2) (tgt := 31) dX11_drawDeed_17 rfl rfl (by omega) (by omega) rfl (fun c17 => ?_) (fun c17 => ?_)
    · refine aj.aload_n dX11_drawDeed_31 rfl ?_
      refine aj.callE1 (d' := 0) (As := []) (rest := []) dX11_drawDeed_32 v_X11_399 li_X11_draw ⟨_, hA.ob (i := 0) rfl (by decide)⟩ rfl rfl rfl (Nat.le_of_ble_eq_true rfl) (Nat.le_of_ble_eq_true rfl) (k_draw hx hA) (fun M hM => ?_)
      obtain ⟨V1, hx, hEq, eV, hA⟩ := dr_norm hEq hM
      have hlt32 := drw_lt (dx (dx (x)))
      refine aj.iconst (v := 4) dX11_drawDeed_35 rfl ?_
      refine aj.iremN (a := drw (dx (dx (x)))) (b := 4) dX11_drawDeed_36 rfl rfl (by omega) (by omega) (by omega) ?_
      refine aj.istore_n (lv' := [(2, .int (nI ((drw (dx (dx (x)))) % 4))), (1, .int (nI ((drw (dx (x))) % 6))), (0, .ref a)]) dX11_drawDeed_37 (Nat.le_of_ble_eq_true rfl) rfl ?_
      refine aj.aload_n dX11_drawDeed_38 rfl ?_
      refine aj.callE1 (d' := 0) (As := []) (rest := []) dX11_drawDeed_39 v_X11_399 li_X11_draw ⟨_, hA.ob (i := 0) rfl (by decide)⟩ rfl rfl rfl (Nat.le_of_ble_eq_true rfl) (Nat.le_of_ble_eq_true rfl) (k_draw hx hA) (fun M hM => ?_)
      obtain ⟨V1, hx, hEq, eV, hA⟩ := dr_norm hEq hM
      have hlt39 := drw_lt (dx (dx (dx (x))))
      refine aj.bipush (v := 21) dX11_drawDeed_42 rfl ?_
      refine aj.iremN (a := drw (dx (dx (dx (x))))) (b := 21) dX11_drawDeed_44 rfl rfl (by omega) (by omega) (by omega) ?_
      refine aj.istore_n (lv' := [(3, .int (nI ((drw (dx (dx (dx (x))))) % 21))), (2, .int (nI ((drw (dx (dx (x)))) % 4))), (1, .int (nI ((drw (dx (x))) % 6))), (0, .ref a)]) dX11_drawDeed_45 (Nat.le_of_ble_eq_true rfl) rfl ?_
      refine aj.aload_n dX11_drawDeed_46 rfl ?_
      refine aj.callE1 (d' := 0) (As := []) (rest := []) dX11_drawDeed_47 v_X11_399 li_X11_draw ⟨_, hA.ob (i := 0) rfl (by decide)⟩ rfl rfl rfl (Nat.le_of_ble_eq_true rfl) (Nat.le_of_ble_eq_true rfl) (k_draw hx hA) (fun M hM => ?_)
      obtain ⟨V1, hx, hEq, eV, hA⟩ := dr_norm hEq hM
      have hlt47 := drw_lt (dx (dx (dx (dx (x)))))
      refine aj.bipush (v := 10) dX11_drawDeed_50 rfl ?_
      refine aj.iremN (a := drw (dx (dx (dx (dx (x)))))) (b := 10) dX11_drawDeed_52 rfl rfl (by omega) (by omega) (by omega) ?_
      refine aj.istore (lv' := [(4, .int (nI ((drw (dx (dx (dx (dx (x)))))) % 10))), (3, .int (nI ((drw (dx (dx (dx (x))))) % 21))), (2, .int (nI ((drw (dx (dx (x)))) % 4))), (1, .int (nI ((drw (dx (x))) % 6))), (0, .ref a)]) dX11_drawDeed_53 (Nat.le_of_ble_eq_true rfl) rfl ?_
      refine aj.sipush (v := 10000) dX11_drawDeed_55 rfl ?_
      refine aj.iload_n dX11_drawDeed_58 rfl ?_
      refine aj.sipush (v := 10000) dX11_drawDeed_59 rfl ?_
      refine aj.imulN (a := (drw (dx (dx (x)))) % 4) (b := 10000) dX11_drawDeed_62 rfl rfl ?_
      refine aj.iaddN (a := 10000) (b := ((drw (dx (dx (x)))) % 4) * 10000) dX11_drawDeed_63 rfl rfl ?_
      refine aj.iload_n dX11_drawDeed_64 rfl ?_
      refine aj.bipush (v := 100) dX11_drawDeed_65 rfl ?_
      refine aj.imulN (a := (drw (dx (dx (dx (x))))) % 21) (b := 100) dX11_drawDeed_67 rfl rfl ?_
      refine aj.iaddN (a := 10000 + (((drw (dx (dx (x)))) % 4) * 10000)) (b := ((drw (dx (dx (dx (x))))) % 21) * 100) dX11_drawDeed_68 rfl rfl ?_
      refine aj.iload dX11_drawDeed_69 rfl ?_
      refine aj.iaddN (a := (10000 + (((drw (dx (dx (x)))) % 4) * 10000)) + (((drw (dx (dx (dx (x))))) % 21) * 100)) (b := (drw (dx (dx (dx (dx (x)))))) % 10) dX11_drawDeed_71 rfl rfl ?_
      exact aj.iret rfl dX11_drawDeed_72 ⟨by unfold drV; rw [if_neg (by omega)]; exact congrArg (fun z => some (Value.int (nI z))) (by omega), by unfold drX; rw [if_neg (by omega), ← eV]; exact hA⟩
    · refine aj.bipush (v := 10) dX11_drawDeed_20 rfl ?_
      refine aj.aload_n dX11_drawDeed_22 rfl ?_
      refine aj.callE1 (d' := 0) (As := []) (rest := [.int 10]) dX11_drawDeed_23 v_X11_399 li_X11_draw ⟨_, hA.ob (i := 0) rfl (by decide)⟩ rfl rfl rfl (Nat.le_of_ble_eq_true rfl) (Nat.le_of_ble_eq_true rfl) (k_draw hx hA) (fun M hM => ?_)
      obtain ⟨V1, hx, hEq, eV, hA⟩ := dr_norm hEq hM
      have hlt23 := drw_lt (dx (dx (x)))
      refine aj.bipush (v := 10) dX11_drawDeed_26 rfl ?_
      refine aj.iremN (a := drw (dx (dx (x)))) (b := 10) dX11_drawDeed_28 rfl rfl (by omega) (by omega) (by omega) ?_
      refine aj.iaddN (a := 10) (b := (drw (dx (dx (x)))) % 10) dX11_drawDeed_29 rfl rfl ?_
      exact aj.iret rfl dX11_drawDeed_30 ⟨by unfold drV; rw [if_pos (by omega), if_neg (by omega)], by unfold drX; rw [if_pos (by omega), if_neg (by omega), ← eV]; exact hA⟩
  · refine aj.iload_n dX11_drawDeed_13 rfl ?_
    exact aj.iret rfl dX11_drawDeed_14 ⟨by unfold drV; rw [if_pos (by omega), if_pos (by omega)], by unfold drX; rw [if_pos (by omega), if_pos (by omega), ← eV]; exact hA⟩
