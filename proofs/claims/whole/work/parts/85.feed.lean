theorem t_bv (x : BitVec 32) (n : Nat) (hn : n ≤ 24) : BitVec.signExtend 8 (x >>> n) = BitVec.signExtend 8 (x.sshiftRight n &&& 255#32) := by
  rw [BitVec.signExtend_eq_setWidth_of_le _ (by decide), BitVec.signExtend_eq_setWidth_of_le _ (by decide)]
  apply BitVec.eq_of_getLsbD_eq
  intro i hi
  have h255 : ∀ j, j < 8 → (255#32).getLsbD j = true := by decide
  rw [BitVec.getLsbD_setWidth, BitVec.getLsbD_setWidth, BitVec.getLsbD_and, h255 i hi, Bool.and_true, BitVec.getLsbD_ushiftRight, BitVec.getLsbD_sshiftRight, if_pos (show n + i < 32 by omega), show decide (32 ≤ i) = false from decide_eq_false (by omega)]
  rfl
theorem t_bits (x : Int32) : ∀ k, k < 4 → Int32.toInt8 ((x.toUInt32 >>> (Int32.toUInt32 (nI (24 - 8 * k)) &&& Int32.toUInt32 31)).toInt32) = Int32.toInt8 ((x >>> (nI (24 - 8 * k) &&& 31)) &&& 255)
  | 0, _ => Int8.toBitVec_inj.mp (t_bv x.toBitVec 24 (by decide))
  | 1, _ => Int8.toBitVec_inj.mp (t_bv x.toBitVec 16 (by decide))
  | 2, _ => Int8.toBitVec_inj.mp (t_bv x.toBitVec 8 (by decide))
  | 3, _ => Int8.toBitVec_inj.mp (t_bv x.toBitVec 0 (by decide))
theorem t_byte (x : Int32) {k : Nat} (hk : k < 4) : vp_nar .byte (((Int32.toInt8 ((x.toUInt32 >>> (Int32.toUInt32 (nI (24 - 8 * k)) &&& Int32.toUInt32 31)).toInt32)).toInt32)) = vp_nar .byte ((x >>> (nI (24 - 8 * k) &&& 31)) &&& 255) := by
  rw [t_bits x k hk, vp_nar_byte, vp_nar_byte, Int8.toInt8_toInt32]
/-- a byte put on the tape -/
def bX (x sh : Int32) : Int32 := vp_nar .byte ((Int32.toInt8 ((x.toUInt32 >>> (Int32.toUInt32 sh &&& Int32.toUInt32 31)).toInt32)).toInt32)
def tpS (V V1 : Nat → Nat → Int32) (p : Nat) (b : Int32) : Prop := V1 1 = upd (V 1) p b ∧ V1 0 = upd (V 0) 0 (nI (p + 1)) ∧ ∀ q, q ≠ 0 → q ≠ 1 → V1 q = V q
def tpF (V V1 : Nat → Nat → Int32) (p : Nat) (x : Int32) : Prop := V1 0 0 = nI (p + 4) ∧ V1 0 1 = V 0 1 ∧ (∀ q, q ≠ 0 → q ≠ 1 → V1 q = V q) ∧ ∀ j, V1 1 j = if p ≤ j ∧ j < p + 4 then vp_nar .byte ((x >>> (nI (24 - 8 * (j - p)) &&& 31)) &&& 255) else V 1 j
theorem tape_step {G : zG} {l : Launch} {a : Nat} {M0 M : zM} {V : Nat → Nat → Int32} {W : Nat → Nat → Int64} {R : Nat → Nat → Option Nat} {x sh sh' : Int32} {p : Nat} (hp : V 0 0 = nI p) (hp9 : p < 900) (hsh : ¬ sh < 0) (e : sh + (-8) = sh') {Q : Option Value → zM → Prop} (hk : ∀ V1 M, tpS V V1 p (bX x sh) → kA a M0 M V1 W R → aj G l kX11_putOnTape 0 3 [(2, .int sh'), (0, .ref a), (1, .int x)] [] M 0 0 Q) (hA : kA a M0 M V W R) : aj G l kX11_putOnTape 0 3 [(2, .int sh), (0, .ref a), (1, .int x)] [] M 0 0 Q := by
  refine aj.iload_n dX11_putOnTape_3 rfl ?_
  refine aj.if_lt (tgt := 48) dX11_putOnTape_4 rfl (fun c4 => ?_) (fun c4 => ?_)
  · exact absurd c4 hsh
  · refine aj.aload_n dX11_putOnTape_7 rfl ?_
    refine gX11_taped (i := 0) rfl hA w376 dX11_putOnTape_8 ?_
    refine aj.aload_n dX11_putOnTape_11 rfl ?_
    refine gX11_tape (i := 0) rfl hA w375 dX11_putOnTape_12 ?_
    refine aj.kN (i := 1) (n := 900) (v := nI 900) rfl (by decide) (by decide) dX11_putOnTape_15 hA rfl ?_
    refine aj.icmp_geN (a := p) (b := 900) (tgt := 48) dX11_putOnTape_16 hp rfl (by omega) (by omega) rfl (fun c16 => ?_) (fun c16 => ?_)
    · exact absurd c16 (by omega)
    · refine aj.aload_n dX11_putOnTape_19 rfl ?_
      refine gX11_tape (i := 0) rfl hA w375 dX11_putOnTape_20 ?_
      refine aj.aload_n dX11_putOnTape_23 rfl ?_
      refine gX11_taped (i := 0) rfl hA w376 dX11_putOnTape_24 ?_
      refine aj.iload_n dX11_putOnTape_27 rfl ?_
      refine aj.iload_n dX11_putOnTape_28 rfl ?_
      refine aj.iushr dX11_putOnTape_29 ?_
      refine aj.i2b dX11_putOnTape_30 ?_
      refine aj.kSb (i := 1) (j := p) rfl dX11_putOnTape_31 hA hp (by omega) (by decide) (fun M hA => ?_)
      obtain ⟨V1, h11, hq1, hA⟩ : ∃ z, z 1 = upd (V 1) p (bX x sh) ∧ (∀ q, q ≠ 1 → z q = V q) ∧ kA a M0 M z W R := ⟨_, va_up_self _ _ _, fun q h => va_up_ne _ _ h, hA⟩
      refine aj.aload_n dX11_putOnTape_32 rfl ?_
      refine aj.dup dX11_putOnTape_33 rfl ?_
      refine gX11_taped (i := 0) rfl hA w376 dX11_putOnTape_34 ?_
      refine aj.iconst (v := 1) dX11_putOnTape_37 rfl ?_
      refine aj.iaddN (a := p) (b := 1) dX11_putOnTape_38 (by rw [hq1 0 (by decide)]; exact hp) rfl ?_
      refine pX11_taped (i := 0) rfl hA w376 dX11_putOnTape_39 (fun M hA => ?_)
      refine aj.iinc (v := sh + (-8)) (lv' := [(2, .int (sh + (-8))), (0, .ref a), (1, .int x)]) dX11_putOnTape_42 rfl (Nat.le_of_ble_eq_true rfl) rfl rfl ?_
      refine aj.goto (tgt := 3) dX11_putOnTape_45 rfl ?_
      rw [e]
      refine aj.pick [0, 1, 2] rfl ?_
      exact hk _ M ⟨by rw [va_up_ne _ _ (by decide), h11], by rw [va_up_self, hq1 0 (by decide)], fun q h0 h1 => by rw [va_up_ne _ _ h0, hq1 q h1]⟩ hA
theorem k_putOnTape {G : zG} {l : Launch} {a : Nat} {M0 M : zM} {V : Nat → Nat → Int32} {W : Nat → Nat → Int64} {R : Nat → Nat → Option Nat} (x : Int32) {p : Nat} (hp : V 0 0 = nI p) (hp9 : p + 4 ≤ 900) (hA : kA a M0 M V W R) : am G l kX11_putOnTape 0 [.ref a, .int x] M 0 0 (zv (fun M' => ∃ V1, kA a M0 M' V1 W R ∧ tpF V V1 p x)) := by
  refine am.of (by decide) (Nat.le_of_ble_eq_true rfl) ?_
  refine aj.bipush (v := 24) dX11_putOnTape_0 rfl ?_
  refine aj.istore_n (lv' := [(2, .int 24), (0, .ref a), (1, .int x)]) dX11_putOnTape_2 (Nat.le_of_ble_eq_true rfl) rfl ?_
  refine aj.pick [0, 1, 2] rfl ?_
  refine tape_step (sh := nI (24 - 8 * 0)) (sh' := nI (24 - 8 * 1)) hp (by omega) (by decide) (by decide) (fun V1 M h1 hA => ?_) hA
  have p1 : V1 0 0 = nI (p + 1) := by rw [h1.2.1, pk_us]
  refine tape_step (sh := nI (24 - 8 * 1)) (sh' := nI (24 - 8 * 2)) p1 (by omega) (by decide) (by decide) (fun V2 M h2 hA => ?_) hA
  have p2 : V2 0 0 = nI (p + 2) := by rw [h2.2.1, pk_us]
  refine tape_step (sh := nI (24 - 8 * 2)) (sh' := nI (24 - 8 * 3)) p2 (by omega) (by decide) (by decide) (fun V3 M h3 hA => ?_) hA
  have p3 : V3 0 0 = nI (p + 3) := by rw [h3.2.1, pk_us]
  refine tape_step (sh := nI (24 - 8 * 3)) (sh' := -8) p3 (by omega) (by decide) (by decide) (fun V4 M h4 hA => ?_) hA
  have hF : tpF V V4 p x := by
    refine ⟨by rw [h4.2.1, pk_us], ?_, fun q q0 q1 => ?_, fun j => ?_⟩
    · rw [h4.2.1, pk_un (by decide), h3.2.1, pk_un (by decide), h2.2.1, pk_un (by decide), h1.2.1, pk_un (by decide)]
    · rw [h4.2.2 q q0 q1, h3.2.2 q q0 q1, h2.2.2 q q0 q1, h1.2.2 q q0 q1]
    · rw [h4.1, h3.1, h2.1, h1.1]
      by_cases e : p ≤ j ∧ j < p + 4
      · rw [if_pos e]
        obtain ⟨k, hk, ek⟩ : ∃ k, k < 4 ∧ j = p + k := ⟨j - p, by omega, by omega⟩
        rw [ek, show p + k - p = k by omega, ← t_byte x hk]
        have : k = 0 ∨ k = 1 ∨ k = 2 ∨ k = 3 := by omega
        rcases this with z | z | z | z
        · rw [z, pk_un (by omega), pk_un (by omega), pk_un (by omega)]; exact pk_us
        · rw [z, pk_un (by omega), pk_un (by omega)]; exact pk_us
        · rw [z, pk_un (by omega)]; exact pk_us
        · rw [z]; exact pk_us
      · rw [if_neg e, pk_un (by omega), pk_un (by omega), pk_un (by omega), pk_un (by omega)]
  refine aj.iload_n dX11_putOnTape_3 rfl ?_
  refine aj.if_lt (tgt := 48) dX11_putOnTape_4 rfl (fun c4 => ?_) (fun c4 => ?_)
  · exact aj.vret rfl dX11_putOnTape_48 ⟨rfl, V4, hA, hF⟩
  · exact absurd c4 (by decide)
theorem p_feed {G : zG} {l : Launch} {a : Nat} {M0 M : zM} {V0 : Nat → Nat → Int32} {W0 : Nat → Nat → Int64} {R : Nat → Nat → Option Nat} {T : Nat} {B : Nat → Int32} {sl ol : Option (List Nat)} {Tm : Nat} (x1 : Int32) (x2 : Int32) (x3 : Int32) (x4 : Int32) (x5 : Int32) (hM : kW a M0 M V0 W0 R) (hH : cH a M0 V0 R T B sl ol Tm) (h5b : bd (V0 0 0) 900) {A3 : Nat → Int32} (hTp : ∀ j, j < mN (V0 0 0) → V0 1 j = vp_nar .byte (A3 j)) : am G l kX11_feed 1 [.ref a, .int x1, .int x2, .int x3, .int x4, .int x5] M 0 0 (zr (.int (if mN (V0 0 0) + 20 ≤ 900 then nI (mN (V0 0 0) + 20) else -5)) (fun M' => ∃ V1, kW a M0 M' V1 W0 R ∧ (∀ q, q ≠ 0 → q ≠ 1 → V1 q = V0 q) ∧ V1 0 0 = (if mN (V0 0 0) + 20 ≤ 900 then nI (mN (V0 0 0) + 20) else V0 0 0) ∧ ∀ j, j < mN (V1 0 0) → V1 1 j = vp_nar .byte ((if mN (V0 0 0) + 20 ≤ 900 then va_cpy (fedV x1 x2 x3 x4 x5) A3 0 (mN (V0 0 0)) 20 else A3) j))) := by
  obtain ⟨V, W, hA, hv, hw⟩ := hM
  obtain ⟨hT, hb, hS, hB⟩ := id hH
  have hd0 := (dLaw_of hB).1
  have hd1 := (dLaw_of hB).2
  have h25 := hB.2.2.2.2.2.1
  have h26 := hB.2.2.2.2.2.2.1
  have h27 := hB.2.2.2.2.2.2.2.1
  have h6 := hB.2.2.1
  have hag := hB.2.2.2.2.1
  have hTm := hB.2.2.2.2.2.2.2.2.1
  have h25b := h25.2
  have h26b := h26.2
  have h27b := h27.2
  have h6b := h6.2
  obtain ⟨p, hpe⟩ : ∃ z, z = mN (V0 0 0) := ⟨_, rfl⟩
  rw [← hpe] at hTp
  rw [← hpe]
  have hp0 : V0 0 0 = nI p := by rw [hpe]; exact h5b.1
  have hp : V 0 0 = nI p := (congrFun (hv 0 (by decide)) 0).trans hp0
  have hp9 : p ≤ 900 := by rw [hpe]; exact h5b.2
  refine am.of (by decide) (Nat.le_of_ble_eq_true rfl) ?_
  refine aj.aload_n dX11_feed_0 rfl ?_
  refine gX11_taped (i := 0) rfl hA w376 dX11_feed_1 ?_
  refine aj.bipush (v := 20) dX11_feed_4 rfl ?_
  refine aj.iaddN (a := p) (b := 20) dX11_feed_6 hp rfl ?_
  refine aj.sipush (v := 900) dX11_feed_7 rfl ?_
  refine aj.icmp_leN (a := p + 20) (b := 900) (tgt := 16) dX11_feed_10 rfl rfl (by omega) (by omega) rfl (fun c10 => ?_) (fun c10 => ?_)
  · refine aj.aload_n dX11_feed_16 rfl ?_
    refine aj.iload_n dX11_feed_17 rfl ?_
    refine aj.callE0 (d' := 0) (As := [.int x1]) (rest := []) dX11_feed_18 v_X11_98 li_X11_putOnTape ⟨_, hA.ob (i := 0) rfl (by decide)⟩ rfl rfl rfl (Nat.le_of_ble_eq_true rfl) (Nat.le_of_ble_eq_true rfl) (k_putOnTape x1 (p := p + 0) hp (by omega) hA) (fun M hM => ?_)
    obtain ⟨V1, hA, h1⟩ := hM
    refine aj.aload_n dX11_feed_21 rfl ?_
    refine aj.iload_n dX11_feed_22 rfl ?_
    refine aj.callE0 (d' := 0) (As := [.int x2]) (rest := []) dX11_feed_23 v_X11_98 li_X11_putOnTape ⟨_, hA.ob (i := 0) rfl (by decide)⟩ rfl rfl rfl (Nat.le_of_ble_eq_true rfl) (Nat.le_of_ble_eq_true rfl) (k_putOnTape x2 (p := p + 4) h1.1 (by omega) hA) (fun M hM => ?_)
    obtain ⟨V2, hA, h2⟩ := hM
    refine aj.aload_n dX11_feed_26 rfl ?_
    refine aj.iload_n dX11_feed_27 rfl ?_
    refine aj.callE0 (d' := 0) (As := [.int x3]) (rest := []) dX11_feed_28 v_X11_98 li_X11_putOnTape ⟨_, hA.ob (i := 0) rfl (by decide)⟩ rfl rfl rfl (Nat.le_of_ble_eq_true rfl) (Nat.le_of_ble_eq_true rfl) (k_putOnTape x3 (p := p + 8) h2.1 (by omega) hA) (fun M hM => ?_)
    obtain ⟨V3, hA, h3⟩ := hM
    refine aj.aload_n dX11_feed_31 rfl ?_
    refine aj.iload dX11_feed_32 rfl ?_
    refine aj.callE0 (d' := 0) (As := [.int x4]) (rest := []) dX11_feed_34 v_X11_98 li_X11_putOnTape ⟨_, hA.ob (i := 0) rfl (by decide)⟩ rfl rfl rfl (Nat.le_of_ble_eq_true rfl) (Nat.le_of_ble_eq_true rfl) (k_putOnTape x4 (p := p + 12) h3.1 (by omega) hA) (fun M hM => ?_)
    obtain ⟨V4, hA, h4⟩ := hM
    refine aj.aload_n dX11_feed_37 rfl ?_
    refine aj.iload dX11_feed_38 rfl ?_
    refine aj.callE0 (d' := 0) (As := [.int x5]) (rest := []) dX11_feed_40 v_X11_98 li_X11_putOnTape ⟨_, hA.ob (i := 0) rfl (by decide)⟩ rfl rfl rfl (Nat.le_of_ble_eq_true rfl) (Nat.le_of_ble_eq_true rfl) (k_putOnTape x5 (p := p + 16) h4.1 (by omega) hA) (fun M hM => ?_)
    obtain ⟨V5, hA, h5⟩ := hM
    refine aj.aload_n dX11_feed_43 rfl ?_
    refine gX11_taped (i := 0) rfl hA w376 dX11_feed_44 ?_
    refine aj.iret rfl dX11_feed_47 ⟨by rw [if_pos (by omega), h5.1], va_up (va_up V0 0 (V5 0)) 1 (V5 1), ⟨V5, W, hA, fun i hi => ?_, hw⟩, fun q q0 q1 => by rw [va_up_ne _ _ q1, va_up_ne _ _ q0], by rw [if_pos (by omega), va_up_ne _ _ (by decide), va_up_self, h5.1], fun j hj => ?_⟩
    · by_cases e1 : i = 1
      · rw [e1, va_up_self]
      · by_cases e0 : i = 0
        · rw [e0, va_up_ne _ _ (by decide), va_up_self]
        · rw [va_up_ne _ _ e1, va_up_ne _ _ e0, h5.2.2.1 i e0 e1, h4.2.2.1 i e0 e1, h3.2.2.1 i e0 e1, h2.2.2.1 i e0 e1, h1.2.2.1 i e0 e1]
          exact hv i hi
    · rw [va_up_ne _ _ (by decide), va_up_self, h5.1, mN_nI (by omega)] at hj
      rw [va_up_self, if_pos (by omega), h5.2.2.2 j, h4.2.2.2 j, h3.2.2.2 j, h2.2.2.2 j, h1.2.2.2 j]
      by_cases e : j < p
      · rw [if_neg (by omega), if_neg (by omega), if_neg (by omega), if_neg (by omega), if_neg (by omega), pk_cpy_out (by omega), congrFun (hv 1 (by decide)) j]
        exact hTp j e
      · rw [pk_cpy_in (by omega) (by omega)]
        obtain ⟨k, hk, ek⟩ : ∃ k, k < 20 ∧ j = p + k := ⟨j - p, by omega, by omega⟩
        rw [ek, show 0 + (p + k - p) = k by omega]
        unfold fedV
        by_cases k1 : k < 4
        · rw [if_neg (by omega), if_neg (by omega), if_neg (by omega), if_neg (by omega), if_pos (by omega), if_pos k1, show p + k - (p + 0) = k % 4 by omega]
        · by_cases k2 : k < 8
          · rw [if_neg (by omega), if_neg (by omega), if_neg (by omega), if_pos (by omega), if_neg k1, if_pos k2, show p + k - (p + 4) = k % 4 by omega]
          · by_cases k3 : k < 12
            · rw [if_neg (by omega), if_neg (by omega), if_pos (by omega), if_neg k1, if_neg k2, if_pos k3, show p + k - (p + 8) = k % 4 by omega]
            · by_cases k4 : k < 16
              · rw [if_neg (by omega), if_pos (by omega), if_neg k1, if_neg k2, if_neg k3, if_pos k4, show p + k - (p + 12) = k % 4 by omega]
              · rw [if_pos (by omega), if_neg k1, if_neg k2, if_neg k3, if_neg k4, show p + k - (p + 16) = k % 4 by omega]
  · refine aj.bipush (v := (-5)) dX11_feed_13 rfl ?_
    exact aj.iret rfl dX11_feed_15 ⟨by rw [if_neg (by omega)], V0, ⟨V, W, hA, hv, hw⟩, fun _ _ _ => rfl, by rw [if_neg (by omega)], fun j hj => by rw [if_neg (by omega)]; exact hTp j (by rw [hpe]; exact hj)⟩
