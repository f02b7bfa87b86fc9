/-- a token and where it begins, in one number -/
theorem tk_enc {v st : Nat} (hv : v ≤ 4000) (hs : st < 1024) : (nI v <<< ((10 : Int32) &&& 31)) ||| nI st = nI (v * 1024 + st) := by
  rw [pk_shlN (n := v) ((10 : Int32) &&& 31) 10 (by decide) (by omega)]
  apply Int32.toBitVec_inj.mp
  apply BitVec.eq_of_toNat_eq
  rw [Int32.toBitVec_or, BitVec.toNat_or, pk_tn (by omega), pk_tn (by omega), pk_tn (by omega), Nat.mul_comm v, ← Nat.two_pow_add_eq_or_of_lt (i := 10) (by omega) v]
theorem tk_at {v st : Nat} (hv : v ≤ 4000) (hs : st < 1024) : nI (v * 1024 + st) >>> ((10 : Int32) &&& 31) = nI v := by
  rw [pk_shrN (by omega) ((10 : Int32) &&& 31) 10 (by decide), show (v * 1024 + st) / 2 ^ 10 = v by omega]
theorem tk_st {v st : Nat} (hv : v ≤ 4000) (hs : st < 1024) : nI (v * 1024 + st) &&& (1023 : Int32) = nI st := by
  rw [pk_andN (by omega) 10 (by decide), show (v * 1024 + st) % 2 ^ 10 = st by omega]
theorem k_tkAt {G : zG} {l : Launch} {a : Nat} {M0 M : zM} {V : Nat → Nat → Int32} {W : Nat → Nat → Int64} {R : Nat → Nat → Option Nat} {sz : Nat} (hz : V 3 0 = nI sz) (hsz : sz ≤ 901) (i : Nat) {x_i : Int32} (e_i : x_i = nI i) {v st : Nat} (hi : i < sz) (hv : v ≤ 4000) (hs : st < 1024) (ht : V 4 i = nI (v * 1024 + st)) (hA : kA a M0 M V W R) : am G l kX9_at 0 [.ref (a + 3), .int x_i] M 0 0 (zr (.int (nI v)) (fun M' => M' = M)) := by
  refine am.of (by decide) (Nat.le_of_ble_eq_true rfl) ?_
  refine aj.iload_n dX9_at_0 rfl ?_
  refine aj.if_ltN (a := i) (tgt := 33) dX9_at_1 e_i (by omega) rfl ?_
  refine aj.iload_n dX9_at_4 rfl ?_
  refine aj.aload_n dX9_at_5 rfl ?_
  refine gX9_size (i := 3) rfl hA w162 dX9_at_6 ?_
  refine aj.icmp_geN (a := i) (b := sz) (tgt := 33) dX9_at_9 e_i hz (by omega) (by omega) rfl (fun c9 => ?_) (fun c9 => ?_)
  · exact absurd c9 (by omega)
  · refine aj.iload_n dX9_at_12 rfl ?_
    refine aj.aload_n dX9_at_13 rfl ?_
    refine gX9_tokens (i := 3) rfl hA w161 dX9_at_14 ?_
    refine aj.kN (i := 4) (n := 901) (v := nI 901) rfl (by decide) (by decide) dX9_at_17 hA rfl ?_
    refine aj.icmp_geN (a := i) (b := 901) (tgt := 33) dX9_at_18 e_i rfl (by omega) (by omega) rfl (fun c18 => ?_) (fun c18 => ?_)
    · exact absurd c18 (by omega)
    · refine aj.aload_n dX9_at_21 rfl ?_
      refine gX9_tokens (i := 3) rfl hA w161 dX9_at_22 ?_
      refine aj.iload_n dX9_at_25 rfl ?_
      refine aj.kL (i := 4) (j := i) rfl dX9_at_26 hA e_i (by omega) (by decide) ?_
      refine aj.bipush (v := 10) dX9_at_27 rfl ?_
      refine aj.ishr dX9_at_29 ?_
      refine aj.goto (tgt := 36) dX9_at_30 rfl ?_
      exact aj.iret rfl dX9_at_36 ⟨by rw [ht, tk_at hv hs], rfl⟩
theorem k_tkSt {G : zG} {l : Launch} {a : Nat} {M0 M : zM} {V : Nat → Nat → Int32} {W : Nat → Nat → Int64} {R : Nat → Nat → Option Nat} {sz : Nat} (hz : V 3 0 = nI sz) (hsz : sz ≤ 901) (i : Nat) {x_i : Int32} (e_i : x_i = nI i) {v st : Nat} (hi : i < sz) (hv : v ≤ 4000) (hs : st < 1024) (ht : V 4 i = nI (v * 1024 + st)) (hA : kA a M0 M V W R) : am G l kX9_startOf 0 [.ref (a + 3), .int x_i] M 0 0 (zr (.int (nI st)) (fun M' => M' = M)) := by
  refine am.of (by decide) (Nat.le_of_ble_eq_true rfl) ?_
  refine aj.iload_n dX9_startOf_0 rfl ?_
  refine aj.if_ltN (a := i) (tgt := 34) dX9_startOf_1 e_i (by omega) rfl ?_
  refine aj.iload_n dX9_startOf_4 rfl ?_
  refine aj.aload_n dX9_startOf_5 rfl ?_
  refine gX9_size (i := 3) rfl hA w162 dX9_startOf_6 ?_
  refine aj.icmp_geN (a := i) (b := sz) (tgt := 34) dX9_startOf_9 e_i hz (by omega) (by omega) rfl (fun c9 => ?_) (fun c9 => ?_)
  · exact absurd c9 (by omega)
  · refine aj.iload_n dX9_startOf_12 rfl ?_
    refine aj.aload_n dX9_startOf_13 rfl ?_
    refine gX9_tokens (i := 3) rfl hA w161 dX9_startOf_14 ?_
    refine aj.kN (i := 4) (n := 901) (v := nI 901) rfl (by decide) (by decide) dX9_startOf_17 hA rfl ?_
    refine aj.icmp_geN (a := i) (b := 901) (tgt := 34) dX9_startOf_18 e_i rfl (by omega) (by omega) rfl (fun c18 => ?_) (fun c18 => ?_)
    · exact absurd c18 (by omega)
    · refine aj.aload_n dX9_startOf_21 rfl ?_
      refine gX9_tokens (i := 3) rfl hA w161 dX9_startOf_22 ?_
      refine aj.iload_n dX9_startOf_25 rfl ?_
      refine aj.kL (i := 4) (j := i) rfl dX9_startOf_26 hA e_i (by omega) (by decide) ?_
      refine aj.sipush (v := 1023) dX9_startOf_27 rfl ?_
      refine aj.iand dX9_startOf_30 ?_
      refine aj.goto (tgt := 35) dX9_startOf_31 rfl ?_
      exact aj.iret rfl dX9_startOf_35 ⟨by rw [ht, tk_st hv hs], rfl⟩
theorem k_tkAdd {G : zG} {l : Launch} {a : Nat} {M0 M : zM} {V : Nat → Nat → Int32} {W : Nat → Nat → Int64} {R : Nat → Nat → Option Nat} {sz : Nat} (hz : V 3 0 = nI sz) (hsz : sz ≤ 900) (v : Nat) {x_v : Int32} (e_v : x_v = nI v) (st : Nat) {x_st : Int32} (e_st : x_st = nI st) (hv : v ≤ 4000) (hs : st < 1024) (hA : kA a M0 M V W R) : am G l kX9_add 0 [.ref (a + 3), .int x_v, .int x_st] M 0 0 (zv (fun M' => ∃ V1, kA a M0 M' V1 W R ∧ V1 4 = upd (V 4) sz (nI (v * 1024 + st)) ∧ V1 3 0 = nI (sz + 1) ∧ ∀ q, q ≠ 3 → q ≠ 4 → V1 q = V q)) := by
  refine am.of (by decide) (Nat.le_of_ble_eq_true rfl) ?_
  refine aj.aload_n dX9_add_0 rfl ?_
  refine gX9_size (i := 3) rfl hA w162 dX9_add_1 ?_
  refine aj.aload_n dX9_add_4 rfl ?_
  refine gX9_tokens (i := 3) rfl hA w161 dX9_add_5 ?_
  refine aj.kN (i := 4) (n := 901) (v := nI 901) rfl (by decide) (by decide) dX9_add_8 hA rfl ?_
  refine aj.icmp_geN (a := sz) (b := 901) (tgt := 37) dX9_add_9 hz rfl (by omega) (by omega) rfl (fun c9 => ?_) (fun c9 => ?_)
  · exact absurd c9 (by omega)
  · refine aj.aload_n dX9_add_12 rfl ?_
    refine gX9_tokens (i := 3) rfl hA w161 dX9_add_13 ?_
    refine aj.aload_n dX9_add_16 rfl ?_
    refine gX9_size (i := 3) rfl hA w162 dX9_add_17 ?_
    refine aj.iload_n dX9_add_20 rfl ?_
    refine aj.bipush (v := 10) dX9_add_21 rfl ?_
    refine aj.ishl dX9_add_23 ?_
    refine aj.iload_n dX9_add_24 rfl ?_
    refine aj.ior dX9_add_25 ?_
    refine aj.kS (i := 4) (j := sz) rfl dX9_add_26 hA hz (by omega) (by decide) (fun M hA => ?_)
    rw [e_v, e_st, tk_enc hv hs] at hA
    obtain ⟨V1, h4, hq, hA⟩ : ∃ z, z 4 = upd (V 4) sz (nI (v * 1024 + st)) ∧ (∀ q, q ≠ 4 → z q = V q) ∧ kA a M0 M z W R := ⟨_, va_up_self _ _ _, fun q h => va_up_ne _ _ h, hA⟩
    refine aj.aload_n dX9_add_27 rfl ?_
    refine aj.dup dX9_add_28 rfl ?_
    refine gX9_size (i := 3) rfl hA w162 dX9_add_29 ?_
    refine aj.iconst (v := 1) dX9_add_32 rfl ?_
    refine aj.iaddN (a := sz) (b := 1) dX9_add_33 (by rw [hq 3 (by decide)]; exact hz) rfl ?_
    refine pX9_size (i := 3) rfl hA w162 dX9_add_34 (fun M hA => ?_)
    exact aj.vret rfl dX9_add_37 ⟨rfl, _, hA, by rw [va_up_ne _ _ (by decide)]; exact h4, by rw [va_up_self, pk_us], fun q h3 h4 => by rw [va_up_ne _ _ h3]; exact hq q h4⟩
