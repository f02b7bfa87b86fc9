theorem trR_eq {V0 : Nat → Nat → Int32} {W0 : Nat → Nat → Int64} {A A' : Nat → Nat → Int32} {L L' : Nat → Nat → Int64} (h32 : A' 32 = A 32) (h33 : A' 33 = A 33) (h34 : L' 34 = L 34) (h : trR V0 W0 A L) : trR V0 W0 A' L' := by
  unfold trR
  rw [h32, h33, h34]
  exact h
/-- behind a call that changes trays -/
def kT (a : Nat) (M0 M : zM) (V0 : Nat → Nat → Int32) (R : Nat → Nat → Option Nat) (A : Nat → Nat → Int32) (L : Nat → Nat → Int64) : Prop := ∃ V1 W1, kW a M0 M V1 W1 R ∧ (∀ q, ¬ (57 ≤ q ∧ q ≤ 64) → V1 q = V0 q) ∧ trR V1 W1 A L
theorem kT_same {a : Nat} {M0 M : zM} {V V0 : Nat → Nat → Int32} {W W0 : Nat → Nat → Int64} {R : Nat → Nat → Option Nat} {A A' : Nat → Nat → Int32} {L L' : Nat → Nat → Int64} (hTr : trR V0 W0 A L) (hv : ∀ i, ¬ sc i → V i = V0 i) (hw : ∀ i, ¬ sc i → W i = W0 i) (hA : kA a M0 M V W R) (h32 : A' 32 = A 32) (h33 : A' 33 = A 33) (h34 : L' 34 = L 34) : kT a M0 M V0 R A' L' := ⟨V0, W0, ⟨V, W, hA, hv, hw⟩, fun _ _ => rfl, trR_eq h32 h33 h34 hTr⟩
theorem kT_set {a : Nat} {M0 M : zM} {V V0 : Nat → Nat → Int32} {W W0 : Nat → Nat → Int64} {R : Nat → Nat → Option Nat} {A A' : Nat → Nat → Int32} {L L' : Nat → Nat → Int64} {t : Nat} {f : Nat → Int32} {g : Nat → Int64} (ht : t < 4) (hTr : trR V0 W0 A L) (hv : ∀ i, ¬ sc i → V i = V0 i) (hw : ∀ i, ¬ sc i → W i = W0 i) (hA : kA a M0 M (va_up V (57 + 2 * t) f) (va_up W (57 + 2 * t + 1) g) R) (h32 : ∀ k, k ≠ t → A' 32 k = A 32 k) (h33 : ∀ k, k ≠ t → A' 33 k = A 33 k) (h34 : ∀ k j, k ≠ t → j < 40 → L' 34 (40 * k + j) = L 34 (40 * k + j)) (hb : bd (A' 33 t) 40) (h0 : f 0 = zb (¬ A' 32 t = -1)) (h1 : ¬ A' 32 t = -1 → f 1 = A' 33 t ∧ f 2 = A' 32 t ∧ ∀ j, j < mN (A' 33 t) → g j = L' 34 (40 * t + j)) : kT a M0 M V0 R A' L' := by
  refine ⟨va_up V0 (57 + 2 * t) f, va_up W0 (57 + 2 * t + 1) g, ⟨_, _, hA, fun i hi => ?_, fun i hi => ?_⟩, fun q hq => va_up_ne _ _ (by omega), fun k hk => ?_⟩
  · by_cases e : i = 57 + 2 * t
    · rw [e, va_up_self, va_up_self]
    · rw [va_up_ne _ _ e, va_up_ne _ _ e]; exact hv i hi
  · by_cases e : i = 57 + 2 * t + 1
    · rw [e, va_up_self, va_up_self]
    · rw [va_up_ne _ _ e, va_up_ne _ _ e]; exact hw i hi
  · by_cases e : k = t
    · rw [e, va_up_self, va_up_self]
      exact ⟨hb, h0, h1⟩
    · obtain ⟨b1, b2, b3⟩ := hTr k hk
      rw [va_up_ne _ _ (show 57 + 2 * k ≠ 57 + 2 * t by omega), va_up_ne _ _ (show 57 + 2 * k + 1 ≠ 57 + 2 * t + 1 by omega), h32 k e, h33 k e]
      refine ⟨b1, b2, fun z => ⟨(b3 z).1, (b3 z).2.1, fun j hj => ?_⟩⟩
      rw [h34 k j e (by have := b1.2; omega)]
      exact (b3 z).2.2 j hj
theorem p_numbers {G : zG} {l : Launch} {a : Nat} {M0 M : zM} {V0 : Nat → Nat → Int32} {W0 : Nat → Nat → Int64} {R : Nat → Nat → Option Nat} {T : Nat} {B : Nat → Int32} {sl ol : Option (List Nat)} {Tm : Nat} (t : Int32) (q : Int32) (n : Int32) (hM : kW a M0 M V0 W0 R) (hH : cH a M0 V0 R T B sl ol Tm) {A A' : Nat → Nat → Int32} {L L' : Nat → Nat → Int64} (hTr : trR V0 W0 A L) (h32 : A' 32 = if inR t 0 3 ∧ inR q 0 3 ∧ inR n 0 40 then upd (A 32) (mN t) q else A 32) (h33 : A' 33 = if inR t 0 3 ∧ inR q 0 3 ∧ inR n 0 40 then upd (A 33) (mN t) n else A 33) (h34 : L' 34 = if inR t 0 3 ∧ inR q 0 3 ∧ inR n 0 40 then zfil (L 34) (40 * mN t) (mN n) else L 34) : am G l kX11_numbers 2 [.ref a, .int t, .int q, .int n] M 0 0 (zr (.int (if (inR t 0 3 ∧ inR q 0 3) then (if inR n 0 40 then 0 else -3) else -2)) (fun M' => kT a M0 M' V0 R A' L')) := by
  obtain ⟨V, W, hA, hv, hw⟩ := hM
  obtain ⟨hT, hb, hS, hB⟩ := id hH
  have hd0 := (dLaw_of hB).1
  have hd1 := (dLaw_of hB).2
  have h25 := hB.2.2.2.2.2.1
  have h26 := hB.2.2.2.2.2.2.1
  have h27 := hB.2.2.2.2.2.2.2.1
  have h6 := hB.2.2.1
  have hag := hB.2.2.2.2.1
  have hTm := hB.2.2.2.2.2.2.2.2.1
  have h25b := h25.2
  have h26b := h26.2
  have h27b := h27.2
  have h6b := h6.2
  refine am.of (by decide) (Nat.le_of_ble_eq_true rfl) ?_
  refine aj.aload_n dX11_numbers_0 rfl ?_
  refine aj.iload_n dX11_numbers_1 rfl ?_
  refine aj.callE1 (d' := 0) (As := [.int t]) (rest := []) dX11_numbers_2 v_X11_194 li_X11_isTray ⟨_, hA.ob (i := 0) rfl (by decide)⟩ rfl rfl rfl (Nat.le_of_ble_eq_true rfl) (Nat.le_of_ble_eq_true rfl) (k_isTray t hA) (fun M hM => ?_)
  subst hM
  refine aj.if_eqB (tgt := 17) dX11_numbers_5 rfl (fun c5 => ?_) (fun c5 => ?_)
  · refine aj.bipush (v := (-2)) dX11_numbers_17 rfl ?_
    exact aj.iret rfl dX11_numbers_19 ⟨by rw [if_neg (fun z => c5 z.1)], kT_same hTr hv hw hA (h32.trans (if_neg (fun z => c5 z.1))) (h33.trans (if_neg (fun z => c5 z.1))) (h34.trans (if_neg (fun z => c5 z.1)))⟩
  · have h_t := inR_bd (n := 3) c5 (by decide)
    have h2_t := h_t.2
    have ht := kTr_j (mN t) (by omega)
    refine aj.iload_n dX11_numbers_8 rfl ?_
    refine aj.if_lt (tgt := 17) dX11_numbers_9 rfl (fun c9 => ?_) (fun c9 => ?_)
    · refine aj.bipush (v := (-2)) dX11_numbers_17 rfl ?_
      exact aj.iret rfl dX11_numbers_19 ⟨by rw [if_neg (fun z => by have z1 := z.2; unfold inR at z1; simp only [Int32.lt_iff_toInt_lt, Int32.le_iff_toInt_le] at *; have e0 : (0 : Int32).toInt = 0 := rfl; have e3 : (3 : Int32).toInt = 3 := rfl; have e40 : (40 : Int32).toInt = 40 := rfl; omega)], kT_same hTr hv hw hA (h32.trans (if_neg (fun z => by have z1 := z.2.1; unfold inR at z1; simp only [Int32.lt_iff_toInt_lt, Int32.le_iff_toInt_le] at *; have e0 : (0 : Int32).toInt = 0 := rfl; have e3 : (3 : Int32).toInt = 3 := rfl; have e40 : (40 : Int32).toInt = 40 := rfl; omega))) (h33.trans (if_neg (fun z => by have z1 := z.2.1; unfold inR at z1; simp only [Int32.lt_iff_toInt_lt, Int32.le_iff_toInt_le] at *; have e0 : (0 : Int32).toInt = 0 := rfl; have e3 : (3 : Int32).toInt = 3 := rfl; have e40 : (40 : Int32).toInt = 40 := rfl; omega))) (h34.trans (if_neg (fun z => by have z1 := z.2.1; unfold inR at z1; simp only [Int32.lt_iff_toInt_lt, Int32.le_iff_toInt_le] at *; have e0 : (0 : Int32).toInt = 0 := rfl; have e3 : (3 : Int32).toInt = 3 := rfl; have e40 : (40 : Int32).toInt = 40 := rfl; omega)))⟩
    · refine aj.iload_n dX11_numbers_12 rfl ?_
      refine aj.iconst (v := 3) dX11_numbers_13 rfl ?_
      refine aj.icmp_le (tgt := 20) dX11_numbers_14 rfl (fun c14 => ?_) (fun c14 => ?_)
      · have c_q : inR q 0 3 := by unfold inR; simp only [Int32.lt_iff_toInt_lt, Int32.le_iff_toInt_le] at *; have e0 : (0 : Int32).toInt = 0 := rfl; have e3 : (3 : Int32).toInt = 3 := rfl; have e40 : (40 : Int32).toInt = 40 := rfl; omega
        refine aj.iload_n dX11_numbers_20 rfl ?_
        refine aj.if_lt (tgt := 30) dX11_numbers_21 rfl (fun c21 => ?_) (fun c21 => ?_)
        · refine aj.bipush (v := (-3)) dX11_numbers_30 rfl ?_
          exact aj.iret rfl dX11_numbers_32 ⟨by rw [if_pos (⟨c5, c_q⟩ : _ ∧ _), if_neg (by unfold inR; simp only [Int32.lt_iff_toInt_lt, Int32.le_iff_toInt_le] at *; have e0 : (0 : Int32).toInt = 0 := rfl; have e3 : (3 : Int32).toInt = 3 := rfl; have e40 : (40 : Int32).toInt = 40 := rfl; omega)], kT_same hTr hv hw hA (h32.trans (if_neg (fun z => by have z1 := z.2.2; unfold inR at z1; simp only [Int32.lt_iff_toInt_lt, Int32.le_iff_toInt_le] at *; have e0 : (0 : Int32).toInt = 0 := rfl; have e3 : (3 : Int32).toInt = 3 := rfl; have e40 : (40 : Int32).toInt = 40 := rfl; omega))) (h33.trans (if_neg (fun z => by have z1 := z.2.2; unfold inR at z1; simp only [Int32.lt_iff_toInt_lt, Int32.le_iff_toInt_le] at *; have e0 : (0 : Int32).toInt = 0 := rfl; have e3 : (3 : Int32).toInt = 3 := rfl; have e40 : (40 : Int32).toInt = 40 := rfl; omega))) (h34.trans (if_neg (fun z => by have z1 := z.2.2; unfold inR at z1; simp only [Int32.lt_iff_toInt_lt, Int32.le_iff_toInt_le] at *; have e0 : (0 : Int32).toInt = 0 := rfl; have e3 : (3 : Int32).toInt = 3 := rfl; have e40 : (40 : Int32).toInt = 40 := rfl; omega)))⟩
        · refine aj.iload_n dX11_numbers_24 rfl ?_
          refine aj.bipush (v := 40) dX11_numbers_25 rfl ?_
          refine aj.icmp_le (tgt := 33) dX11_numbers_27 rfl (fun c27 => ?_) (fun c27 => ?_)
          · have c_n : inR n 0 40 := by unfold inR; simp only [Int32.lt_iff_toInt_lt, Int32.le_iff_toInt_le] at *; have e0 : (0 : Int32).toInt = 0 := rfl; have e3 : (3 : Int32).toInt = 3 := rfl; have e40 : (40 : Int32).toInt = 40 := rfl; omega
            have h_n := inR_bd (n := 40) c_n (by decide)
            have h2_n := h_n.2
            refine aj.aload_n dX11_numbers_33 rfl ?_
            refine gX11_trays (i := 0) rfl hA w382 dX11_numbers_34 ?_
            refine aj.iload_n dX11_numbers_37 rfl ?_
            refine aj.kR50 (j := mN t) rfl dX11_numbers_38 hA h_t.1 (by omega) (by decide) ?_
            refine aj.iload_n dX11_numbers_39 rfl ?_
            refine aj.iload_n dX11_numbers_40 rfl ?_
            refine aj.callE0 (d' := 1) (As := [.int q, .int n]) (rest := []) dX11_numbers_41 v_X11_342 li_X10_begin ⟨_, hA.ob (i := (57 + 2 * (mN t))) ht.1 (by decide)⟩ rfl rfl rfl (Nat.le_of_ble_eq_true rfl) (Nat.le_of_ble_eq_true rfl) (k_trBegin (o := 57 + 2 * (mN t)) ht q (mN n) h_n.1 h2_n hA) (fun M hM => ?_)
            have hA := hM
            refine aj.iconst (v := 0) dX11_numbers_44 rfl ?_
            have hall : inR t 0 3 ∧ inR q 0 3 ∧ inR n 0 40 := ⟨c5, c_q, c_n⟩
            rw [if_pos hall] at h32 h33 h34
            have hq1 : ¬ q = -1 := fun z => by have z1 := c_q.1; rw [z] at z1; exact absurd z1 (by decide)
            refine aj.iret rfl dX11_numbers_45 ⟨by rw [if_pos (⟨c5, c_q⟩ : _ ∧ _), if_pos c_n], kT_set (t := mN t) (by omega) hTr hv hw hA (fun k hk => by rw [h32, pk_un hk]) (fun k hk => by rw [h33, pk_un hk]) (fun k j hk hj => by rw [h34]; unfold zfil; rw [if_neg (by omega)]) ?_ ?_ (fun _ => ⟨?_, ?_, fun j hj => ?_⟩)⟩
            · rw [h33, pk_us]; exact h_n
            · rw [h32, pk_us, pk_un (by decide), pk_un (by decide), pk_us, zb_t hq1]
            · rw [pk_us, h33, pk_us]; exact h_n.1.symm
            · rw [pk_un (by decide), pk_us, h32, pk_us]
            · rw [h33, pk_us] at hj; rw [h34]; unfold zfil; rw [if_pos (by omega)]
          · refine aj.bipush (v := (-3)) dX11_numbers_30 rfl ?_
            exact aj.iret rfl dX11_numbers_32 ⟨by rw [if_pos (⟨c5, c_q⟩ : _ ∧ _), if_neg (by unfold inR; simp only [Int32.lt_iff_toInt_lt, Int32.le_iff_toInt_le] at *; have e0 : (0 : Int32).toInt = 0 := rfl; have e3 : (3 : Int32).toInt = 3 := rfl; have e40 : (40 : Int32).toInt = 40 := rfl; omega)], kT_same hTr hv hw hA (h32.trans (if_neg (fun z => by have z1 := z.2.2; unfold inR at z1; simp only [Int32.lt_iff_toInt_lt, Int32.le_iff_toInt_le] at *; have e0 : (0 : Int32).toInt = 0 := rfl; have e3 : (3 : Int32).toInt = 3 := rfl; have e40 : (40 : Int32).toInt = 40 := rfl; omega))) (h33.trans (if_neg (fun z => by have z1 := z.2.2; unfold inR at z1; simp only [Int32.lt_iff_toInt_lt, Int32.le_iff_toInt_le] at *; have e0 : (0 : Int32).toInt = 0 := rfl; have e3 : (3 : Int32).toInt = 3 := rfl; have e40 : (40 : Int32).toInt = 40 := rfl; omega))) (h34.trans (if_neg (fun z => by have z1 := z.2.2; unfold inR at z1; simp only [Int32.lt_iff_toInt_lt, Int32.le_iff_toInt_le] at *; have e0 : (0 : Int32).toInt = 0 := rfl; have e3 : (3 : Int32).toInt = 3 := rfl; have e40 : (40 : Int32).toInt = 40 := rfl; omega)))⟩
      · refine aj.bipush (v := (-2)) dX11_numbers_17 rfl ?_
        exact aj.iret rfl dX11_numbers_19 ⟨by rw [if_neg (fun z => by have z1 := z.2; unfold inR at z1; simp only [Int32.lt_iff_toInt_lt, Int32.le_iff_toInt_le] at *; have e0 : (0 : Int32).toInt = 0 := rfl; have e3 : (3 : Int32).toInt = 3 := rfl; have e40 : (40 : Int32).toInt = 40 := rfl; omega)], kT_same hTr hv hw hA (h32.trans (if_neg (fun z => by have z1 := z.2.1; unfold inR at z1; simp only [Int32.lt_iff_toInt_lt, Int32.le_iff_toInt_le] at *; have e0 : (0 : Int32).toInt = 0 := rfl; have e3 : (3 : Int32).toInt = 3 := rfl; have e40 : (40 : Int32).toInt = 40 := rfl; omega))) (h33.trans (if_neg (fun z => by have z1 := z.2.1; unfold inR at z1; simp only [Int32.lt_iff_toInt_lt, Int32.le_iff_toInt_le] at *; have e0 : (0 : Int32).toInt = 0 := rfl; have e3 : (3 : Int32).toInt = 3 := rfl; have e40 : (40 : Int32).toInt = 40 := rfl; omega))) (h34.trans (if_neg (fun z => by have z1 := z.2.1; unfold inR at z1; simp only [Int32.lt_iff_toInt_lt, Int32.le_iff_toInt_le] at *; have e0 : (0 : Int32).toInt = 0 := rfl; have e3 : (3 : Int32).toInt = 3 := rfl; have e40 : (40 : Int32).toInt = 40 := rfl; omega)))⟩
theorem p_write {G : zG} {l : Launch} {a : Nat} {M0 M : zM} {V0 : Nat → Nat → Int32} {W0 : Nat → Nat → Int64} {R : Nat → Nat → Option Nat} {T : Nat} {B : Nat → Int32} {sl ol : Option (List Nat)} {Tm : Nat} (t q : Int32) (z : Int64) (hM : kW a M0 M V0 W0 R) (hH : cH a M0 V0 R T B sl ol Tm) {A : Nat → Nat → Int32} {L L' : Nat → Nat → Int64} (hTr : trR V0 W0 A L) (h34 : L' 34 = if inR t 0 3 ∧ ¬ A 32 (mN t) = -1 ∧ inR q 0 ((mN (A 33 (mN t)) : Int) - 1) then vp_updL (L 34) (40 * mN t + mN q) (mCut z (A 32 (mN t))) else L 34) : am G l kX11_write 2 [.ref a, .int t, .int q, .long z] M 0 0 (zr (.long (if inR t 0 3 then (if A 32 (mN t) = -1 then -6 else if inR q 0 ((mN (A 33 (mN t)) : Int) - 1) then mCut z (A 32 (mN t)) else -7) else -2)) (fun M' => kT a M0 M' V0 R A L')) := by
  obtain ⟨V, W, hA, hv, hw⟩ := hM
  obtain ⟨hT, hb, hS, hB⟩ := id hH
  have hd0 := (dLaw_of hB).1
  have hd1 := (dLaw_of hB).2
  have h25 := hB.2.2.2.2.2.1
  have h26 := hB.2.2.2.2.2.2.1
  have h27 := hB.2.2.2.2.2.2.2.1
  have h6 := hB.2.2.1
  have hag := hB.2.2.2.2.1
  have hTm := hB.2.2.2.2.2.2.2.2.1
  have h25b := h25.2
  have h26b := h26.2
  have h27b := h27.2
  have h6b := h6.2
  refine am.of (by decide) (Nat.le_of_ble_eq_true rfl) ?_
  refine aj.aload_n dX11_write_0 rfl ?_
  refine aj.iload_n dX11_write_1 rfl ?_
  refine aj.callE1 (d' := 0) (As := [.int t]) (rest := []) dX11_write_2 v_X11_194 li_X11_isTray ⟨_, hA.ob (i := 0) rfl (by decide)⟩ rfl rfl rfl (Nat.le_of_ble_eq_true rfl) (Nat.le_of_ble_eq_true rfl) (k_isTray t hA) (fun M hM => ?_)
  subst hM
  refine aj.if_neB (tgt := 12) dX11_write_5 rfl (fun c5 => ?_) (fun c5 => ?_)
  · have h_t := inR_bd (n := 3) c5 (by decide)
    have h2_t := h_t.2
    obtain ⟨h33, h0, h1⟩ := hTr (mN t) (by omega)
    have ht := kTr_j (mN t) (by omega)
    have hnt := nsc_t (k := mN t) (by omega)
    have h0' : V (57 + 2 * (mN t)) 0 = zb (¬ A 32 (mN t) = -1) := (congrFun (hv _ hnt.1) 0).trans h0
    refine aj.aload_n dX11_write_12 rfl ?_
    refine gX11_trays (i := 0) rfl hA w382 dX11_write_13 ?_
    refine aj.iload_n dX11_write_16 rfl ?_
    refine aj.kR50 (j := mN t) rfl dX11_write_17 hA h_t.1 (by omega) (by decide) ?_
    refine gX10_there (i := (57 + 2 * (mN t))) ht.1 hA w346 dX11_write_18 ?_
    refine aj.if_ne (tgt := 28) dX11_write_21 rfl (fun c21 => ?_) (fun c21 => ?_)
    · have hA32 : ¬ A 32 (mN t) = -1 := fun z => c21 (h0'.trans (zb_f (fun q => q z)))
      have hsz : V (57 + 2 * (mN t)) 1 = nI (mN (A 33 (mN t))) := (congrFun (hv _ hnt.1) 1).trans ((h1 hA32).1.trans h33.1)
      have hso : V (57 + 2 * (mN t)) 2 = A 32 (mN t) := (congrFun (hv _ hnt.1) 2).trans (h1 hA32).2.1
      have h33b := h33.2
      have hzi : (V (57 + 2 * (mN t)) 1).toInt = (mN (A 33 (mN t)) : Int) := by rw [hsz]; exact nI_toInt (by omega)
      refine aj.iload_n dX11_write_28 rfl ?_
      refine aj.if_lt (tgt := 45) dX11_write_29 rfl (fun c29 => ?_) (fun c29 => ?_)
      · refine aj.ldc2 dX11_write_45 w1226 ?_
        exact aj.lret rfl dX11_write_48 ⟨by rw [if_pos c5, if_neg hA32, if_neg (fun z => by unfold inR at z; simp only [Int32.lt_iff_toInt_lt, Int32.le_iff_toInt_le] at *; have e0 : (0 : Int32).toInt = 0 := rfl; omega)], kT_same hTr hv hw hA rfl rfl (h34.trans (if_neg (fun z => (fun z => by unfold inR at z; simp only [Int32.lt_iff_toInt_lt, Int32.le_iff_toInt_le] at *; have e0 : (0 : Int32).toInt = 0 := rfl; omega) z.2.2)))⟩
      · refine aj.iload_n dX11_write_32 rfl ?_
        refine aj.aload_n dX11_write_33 rfl ?_
        refine gX11_trays (i := 0) rfl hA w382 dX11_write_34 ?_
        refine aj.iload_n dX11_write_37 rfl ?_
        refine aj.kR50 (j := mN t) rfl dX11_write_38 hA h_t.1 (by omega) (by decide) ?_
        refine gX10_size (i := (57 + 2 * (mN t))) ht.1 hA w348 dX11_write_39 ?_
        refine aj.icmp_lt (tgt := 49) dX11_write_42 rfl (fun c42 => ?_) (fun c42 => ?_)
        · have c_q : inR q 0 ((mN (A 33 (mN t)) : Int) - 1) := by unfold inR; simp only [Int32.lt_iff_toInt_lt, Int32.le_iff_toInt_le] at *; have e0 : (0 : Int32).toInt = 0 := rfl; omega
          have c_q2 : inR q 0 39 := ⟨c_q.1, by have := c_q.2; omega⟩
          have h_q := inR_bd (n := 39) c_q2 (by decide)
          have h2_q := h_q.2
          have hqi : q.toInt = (mN q : Int) := by rw [h_q.1, mN_nI (by omega)]; exact nI_toInt (by omega)
          have h3_q : mN q < mN (A 33 (mN t)) := by have := c_q.2; omega
          refine aj.aload_n dX11_write_49 rfl ?_
          refine gX11_trays (i := 0) rfl hA w382 dX11_write_50 ?_
          refine aj.iload_n dX11_write_53 rfl ?_
          refine aj.kR50 (j := mN t) rfl dX11_write_54 hA h_t.1 (by omega) (by decide) ?_
          refine aj.iload_n dX11_write_55 rfl ?_
          refine aj.lload_n dX11_write_56 rfl ?_
          refine aj.callE1 (d' := 1) (As := [.int q, .long z]) (rest := []) dX11_write_57 v_X11_348 li_X10_put ⟨_, hA.ob (i := (57 + 2 * (mN t))) ht.1 (by decide)⟩ rfl rfl rfl (Nat.le_of_ble_eq_true rfl) (Nat.le_of_ble_eq_true rfl) (k_trPut (o := 57 + 2 * (mN t)) ht (mN q) h_q.1 z (by omega) hA) (fun M hM => ?_)
          have hA := hM
          rw [if_pos (⟨c5, hA32, c_q⟩ : _ ∧ _ ∧ _)] at h34
          have hA2 : kA a M0 M (va_up V (57 + 2 * (mN t)) (V (57 + 2 * (mN t)))) (va_up W (57 + 2 * (mN t) + 1) (vp_updL (W (57 + 2 * (mN t) + 1)) (mN q) (mCut z (V (57 + 2 * (mN t)) 2)))) R := by rw [va_upI]; exact hA
          refine aj.lret rfl dX11_write_60 ⟨by rw [if_pos c5, if_neg hA32, if_pos c_q, hso], kT_set (t := mN t) (by omega) hTr hv hw hA2 (fun k hk => rfl) (fun k hk => rfl) (fun k j hk hj => by rw [h34]; unfold vp_updL; rw [if_neg (by omega)]) h33 h0' (fun _ => ⟨hsz.trans h33.1.symm, hso, fun j hj => ?_⟩)⟩
          rw [h34, hso]
          unfold vp_updL
          by_cases e : j = mN q
          · rw [if_pos e, if_pos (by omega)]
          · rw [if_neg e, if_neg (by omega), congrFun (hw _ hnt.2) j]
            exact (h1 hA32).2.2 j hj
        · refine aj.ldc2 dX11_write_45 w1226 ?_
          exact aj.lret rfl dX11_write_48 ⟨by rw [if_pos c5, if_neg hA32, if_neg (fun z => by unfold inR at z; simp only [Int32.lt_iff_toInt_lt, Int32.le_iff_toInt_le] at *; have e0 : (0 : Int32).toInt = 0 := rfl; omega)], kT_same hTr hv hw hA rfl rfl (h34.trans (if_neg (fun z => (fun z => by unfold inR at z; simp only [Int32.lt_iff_toInt_lt, Int32.le_iff_toInt_le] at *; have e0 : (0 : Int32).toInt = 0 := rfl; omega) z.2.2)))⟩
    · have hA32 : A 32 (mN t) = -1 := Classical.not_not.mp (zb_0.mp (h0'.symm.trans c21))
      refine aj.ldc2 dX11_write_24 w1225 ?_
      exact aj.lret rfl dX11_write_27 ⟨by rw [if_pos c5, if_pos hA32], kT_same hTr hv hw hA rfl rfl (h34.trans (if_neg (fun z => z.2.1 hA32)))⟩
  · refine aj.ldc2 dX11_write_8 w1004 ?_
    exact aj.lret rfl dX11_write_11 ⟨by rw [if_neg c5], kT_same hTr hv hw hA rfl rfl (h34.trans (if_neg (fun z => c5 z.1)))⟩
theorem mLn_le (B : Nat → Int32) (sl : Option (List Nat)) (s aim lot : Nat) : mLn B sl s aim lot ≤ 20 := mLand_le _ _ _ _ _ _
theorem mCut_N : ∀ n : Nat, n ≤ 20 → ∀ s : Int32, mCut (lN n) s = lN n := by
  intro n hn s
  have h : ∀ n : Nat, n < 21 → (lN n).toInt32.toInt8.toInt32.toInt64 = lN n ∧ (lN n).toInt32.toInt16.toInt32.toInt64 = lN n ∧ (lN n).toInt32.toInt64 = lN n := by decide
  obtain ⟨h1, h2, h3⟩ := h n (by omega)
  unfold mCut
  rw [h1, h2, h3]
  split
  · rfl
  · split
    · rfl
    · split <;> rfl
def wlF (f : Nat → Int64) (g : Nat → Nat) (i : Nat) : Nat → Int64 := fun j => if j < i then lN (g j) else f j
theorem wlF_s {f : Nat → Int64} {g : Nat → Nat} {i : Nat} : vp_updL (wlF f g i) i (lN (g i)) = wlF f g (i + 1) := by
  funext j
  unfold vp_updL wlF
  by_cases h : j = i
  · rw [if_pos h, if_pos (by omega), h]
  · rw [if_neg h]
    by_cases h2 : j < i
    · rw [if_pos h2, if_pos (by omega)]
    · rw [if_neg h2, if_neg (by omega)]
theorem wlF_0 {f : Nat → Int64} {g : Nat → Nat} : wlF f g 0 = f := rfl
theorem lists_lp {G : zG} {l : Launch} {a : Nat} {M0 : zM}  {W : Nat → Nat → Int64} {R : Nat → Nat → Option Nat} {V0 : Nat → Nat → Int32} {T : Nat} {B : Nat → Int32} {sl ol : Option (List Nat)} {Tm : Nat} (t : Nat) {x_t : Int32} (e_t : x_t = nI t) (s : Nat) {x_s : Int32} (e_s : x_s = nI s) (aim : Nat) {x_aim : Int32} (e_aim : x_aim = nI aim) {m : Nat} (ht4 : t < 4) (hs4 : s < 4) (haim : aim ≤ 20) (hm : m ≤ 10) (hH : cH a M0 V0 R T B sl ol Tm) {Q : Option Value → zM → Prop} (hk : ∀ V M, (∀ i, ¬ sc i → V i = V0 i) → kA a M0 M V (va_up W (57 + 2 * t + 1) (wlF (W (57 + 2 * t + 1)) (mLn B sl s aim) m)) R → aj G l kX11_lists 6 95 [(4, .int (nI m)), (0, .ref a), (1, .int x_t), (2, .int x_s), (3, .int x_aim)] [] M 0 0 Q) : ∀ (n i : Nat) (V : Nat → Nat → Int32) (M : zM), i + n = m → (∀ i, ¬ sc i → V i = V0 i) → kA a M0 M V (va_up W (57 + 2 * t + 1) (wlF (W (57 + 2 * t + 1)) (mLn B sl s aim) i)) R → aj G l kX11_lists 6 61 [(5, .int (nI i)), (4, .int (nI m)), (0, .ref a), (1, .int x_t), (2, .int x_s), (3, .int x_aim)] [] M 0 0 Q := by
  have ht := kTr_j t ht4
  intro n
  induction n with
  | zero =>
    intro i V M hin hv hA
    have him : i = m := by omega
    refine aj.iload dX11_lists_61 rfl ?_
    refine aj.iload dX11_lists_63 rfl ?_
    refine aj.icmp_geN (a := i) (b := m) (tgt := 95) dX11_lists_65 rfl rfl (by omega) (by omega) rfl (fun c65 => ?_) (fun c65 => ?_)
    · refine aj.pick [1, 2, 3, 4, 5] rfl ?_
      rw [him] at hA
      exact hk V M hv hA
    · exact absurd c65 (by omega)
  | succ n ih =>
    intro i V M hin hv hA
    have hLm : mLn B sl s aim i ≤ 20 := mLn_le _ _ _ _ _
    refine aj.iload dX11_lists_61 rfl ?_
    refine aj.iload dX11_lists_63 rfl ?_
    refine aj.icmp_geN (a := i) (b := m) (tgt := 95) dX11_lists_65 rfl rfl (by omega) (by omega) rfl (fun c65 => ?_) (fun c65 => ?_)
    · exact absurd c65 (by omega)
    · refine aj.aload_n dX11_lists_68 rfl ?_
      refine gX11_trays (i := 0) rfl hA w382 dX11_lists_69 ?_
      refine aj.iload_n dX11_lists_72 rfl ?_
      refine aj.kR50 (j := t) rfl dX11_lists_73 hA e_t (by omega) (by decide) ?_
      refine aj.iload dX11_lists_74 rfl ?_
      refine aj.aload_n dX11_lists_76 rfl ?_
      refine aj.iload_n dX11_lists_77 rfl ?_
      refine aj.iload_n dX11_lists_78 rfl ?_
      refine aj.iload dX11_lists_79 rfl ?_
      refine aj.callE1 (d' := 5) (As := [.int x_s, .int x_aim, .int (nI i)]) (rest := [.int (nI i), .ref (a + (57 + 2 * t))]) dX11_lists_81 v_X11_146 li_X11_landingNow ⟨_, hA.ob (i := 0) rfl (by decide)⟩ rfl rfl rfl (Nat.le_of_ble_eq_true rfl) (Nat.le_of_ble_eq_true rfl) (k_landingNow s e_s aim e_aim i rfl (by omega) hH hv hA) (fun M hM => ?_)
      obtain ⟨v1, v2, hA⟩ := hM
      obtain ⟨V, hN, hA, hv⟩ := k_norm hA hv
      refine aj.i2lN (a := mLn B sl s aim i) dX11_lists_84 rfl (by omega) ?_
      refine aj.callE1 (d' := 1) (As := [.int (nI i), .long (lN (mLn B sl s aim i))]) (rest := []) dX11_lists_85 v_X11_348 li_X10_put ⟨_, hA.ob (i := (57 + 2 * t)) ht.1 (by decide)⟩ rfl rfl rfl (Nat.le_of_ble_eq_true rfl) (Nat.le_of_ble_eq_true rfl) (k_trPut (o := 57 + 2 * t) ht i rfl (lN (mLn B sl s aim i)) (by omega) hA) (fun M hM => ?_)
      rw [bx_uu, va_up_self, mCut_N _ (mLn_le _ _ _ _ _), wlF_s] at hM
      have hA := hM
      refine aj.pop2 dX11_lists_88 rfl ?_
      refine aj.iincN (a := i) (c := 1) (lv' := [(5, .int (nI (i + 1))), (4, .int (nI m)), (0, .ref a), (1, .int x_t), (2, .int x_s), (3, .int x_aim)]) dX11_lists_89 rfl (Nat.le_of_ble_eq_true rfl) rfl rfl rfl ?_
      refine aj.goto (tgt := 61) dX11_lists_92 rfl ?_
      refine aj.pick [0, 1, 2, 3, 4, 5] rfl ?_
      exact ih (i + 1) V M (by omega) hv hA
theorem p_lists {G : zG} {l : Launch} {a : Nat} {M0 M : zM} {V0 : Nat → Nat → Int32} {W0 : Nat → Nat → Int64} {R : Nat → Nat → Option Nat} {T : Nat} {B : Nat → Int32} {sl ol : Option (List Nat)} {Tm : Nat} (t : Int32) (s : Int32) (aim : Int32) (hM : kW a M0 M V0 W0 R) (hH : cH a M0 V0 R T B sl ol Tm) {A : Nat → Nat → Int32} {L L' : Nat → Nat → Int64} (hTr : trR V0 W0 A L) (h34 : L' 34 = if (inR t 0 3 ∧ inR s 0 ((mN (B 6) : Int) - 1) ∧ inR aim 0 20) ∧ ¬ A 32 (mN t) = -1 then zlst (L 34) (40 * mN t) (fun k => mLn B sl (mN s) (mN aim) k) (if mN (A 33 (mN t)) < 10 then mN (A 33 (mN t)) else 10) else L 34) : am G l kX11_lists 6 [.ref a, .int t, .int s, .int aim] M 0 0 (zr (.int (if inR t 0 3 ∧ inR s 0 ((mN (B 6) : Int) - 1) ∧ inR aim 0 20 then (if A 32 (mN t) = -1 then -6 else nI (if mN (A 33 (mN t)) < 10 then mN (A 33 (mN t)) else 10)) else -2)) (fun M' => kT a M0 M' V0 R A L')) := by
  obtain ⟨V, W, hA, hv, hw⟩ := hM
  obtain ⟨hT, hb, hS, hB⟩ := id hH
  have hd0 := (dLaw_of hB).1
  have hd1 := (dLaw_of hB).2
  have h25 := hB.2.2.2.2.2.1
  have h26 := hB.2.2.2.2.2.2.1
  have h27 := hB.2.2.2.2.2.2.2.1
  have h6 := hB.2.2.1
  have hag := hB.2.2.2.2.1
  have hTm := hB.2.2.2.2.2.2.2.2.1
  have h25b := h25.2
  have h26b := h26.2
  have h27b := h27.2
  have h6b := h6.2
  refine am.of (by decide) (Nat.le_of_ble_eq_true rfl) ?_
  refine aj.aload_n dX11_lists_0 rfl ?_
  refine aj.iload_n dX11_lists_1 rfl ?_
  refine aj.callE1 (d' := 0) (As := [.int t]) (rest := []) dX11_lists_2 v_X11_194 li_X11_isTray ⟨_, hA.ob (i := 0) rfl (by decide)⟩ rfl rfl rfl (Nat.le_of_ble_eq_true rfl) (Nat.le_of_ble_eq_true rfl) (k_isTray t hA) (fun M hM => ?_)
  subst hM
  refine aj.if_eqB (tgt := 24) dX11_lists_5 rfl (fun c5 => ?_) (fun c5 => ?_)
  · refine aj.bipush (v := (-2)) dX11_lists_24 rfl ?_
    exact aj.iret rfl dX11_lists_26 ⟨by rw [if_neg (fun z => c5 z.1)], kT_same hTr hv hw hA rfl rfl (h34.trans (if_neg (fun z => (fun z => c5 z.1) z.1)))⟩
  · have h_t := inR_bd (n := 3) c5 (by decide)
    have h2_t := h_t.2
    obtain ⟨h33, h0, h1⟩ := hTr (mN t) (by omega)
    have ht := kTr_j (mN t) (by omega)
    have hnt := nsc_t (k := mN t) (by omega)
    have h0' : V (57 + 2 * (mN t)) 0 = zb (¬ A 32 (mN t) = -1) := (congrFun (hv _ hnt.1) 0).trans h0
    refine aj.aload_n dX11_lists_8 rfl ?_
    refine aj.iload_n dX11_lists_9 rfl ?_
    refine aj.callE1 (d' := 0) (As := [.int s]) (rest := []) dX11_lists_10 v_X11_124 li_X11_isShooter ⟨_, hA.ob (i := 0) rfl (by decide)⟩ rfl rfl rfl (Nat.le_of_ble_eq_true rfl) (Nat.le_of_ble_eq_true rfl) (k_isShooter s hH hA) (fun M hM => ?_)
    subst hM
    refine aj.if_eqB (tgt := 24) dX11_lists_13 rfl (fun c13 => ?_) (fun c13 => ?_)
    · refine aj.bipush (v := (-2)) dX11_lists_24 rfl ?_
      exact aj.iret rfl dX11_lists_26 ⟨by rw [if_neg (fun z => c13 z.2.1)], kT_same hTr hv hw hA rfl rfl (h34.trans (if_neg (fun z => (fun z => c13 z.2.1) z.1)))⟩
    · have h_s := inR_bdS c13 (by omega)
      have h2_s := h_s.2
      refine aj.iload_n dX11_lists_16 rfl ?_
      refine aj.i2l dX11_lists_17 ?_
      refine aj.callS1 (d' := 0) (As := [.long (Int32.toInt64 aim)]) (rest := []) dX11_lists_18 v_X11_150 w748 rfl rfl (Nat.le_of_ble_eq_true rfl) (Nat.le_of_ble_eq_true rfl) (k_isPlaceI _ aim) (fun M hM => ?_)
      subst hM
      refine aj.if_neB (tgt := 27) dX11_lists_21 rfl (fun c21 => ?_) (fun c21 => ?_)
      · have h_aim := inR_bd (n := 20) c21 (by decide)
        have h2_aim := h_aim.2
        refine aj.aload_n dX11_lists_27 rfl ?_
        refine gX11_trays (i := 0) rfl hA w382 dX11_lists_28 ?_
        refine aj.iload_n dX11_lists_31 rfl ?_
        refine aj.kR50 (j := mN t) rfl dX11_lists_32 hA h_t.1 (by omega) (by decide) ?_
        refine gX10_there (i := (57 + 2 * (mN t))) ht.1 hA w346 dX11_lists_33 ?_
        refine aj.if_ne (tgt := 42) dX11_lists_36 rfl (fun c36 => ?_) (fun c36 => ?_)
        · have hA32 : ¬ A 32 (mN t) = -1 := fun z => c36 (h0'.trans (zb_f (fun q => q z)))
          have hsz : V (57 + 2 * (mN t)) 1 = nI (mN (A 33 (mN t))) := (congrFun (hv _ hnt.1) 1).trans ((h1 hA32).1.trans h33.1)
          have hso : V (57 + 2 * (mN t)) 2 = A 32 (mN t) := (congrFun (hv _ hnt.1) 2).trans (h1 hA32).2.1
          have h33b := h33.2
          have hzi : (V (57 + 2 * (mN t)) 1).toInt = (mN (A 33 (mN t)) : Int) := by rw [hsz]; exact nI_toInt (by omega)
          obtain ⟨mm, hmm⟩ : ∃ z, (if mN (A 33 (mN t)) < 10 then mN (A 33 (mN t)) else 10) = z := ⟨_, rfl⟩
          have hmm2 : mm = min 10 (mN (A 33 (mN t))) := by rw [← hmm]; split <;> omega
          have hmin : iMin 10 (V (57 + 2 * (mN t)) 1) = nI mm := by rw [hsz, show (10 : Int32) = nI 10 from rfl, iMin_N (by decide) (by omega), hmm2]
          refine aj.bipush (v := 10) dX11_lists_42 rfl ?_
          refine aj.aload_n dX11_lists_44 rfl ?_
          refine gX11_trays (i := 0) rfl hA w382 dX11_lists_45 ?_
          refine aj.iload_n dX11_lists_48 rfl ?_
          refine aj.kR50 (j := mN t) rfl dX11_lists_49 hA h_t.1 (by omega) (by decide) ?_
          refine gX10_size (i := (57 + 2 * (mN t))) ht.1 hA w348 dX11_lists_50 ?_
          refine aj.mmin dX11_lists_53 w1068 (Nat.le_of_ble_eq_true rfl) (Nat.le_of_ble_eq_true rfl) ?_
          refine aj.istore (lv' := [(4, .int (iMin 10 (V (57 + 2 * (mN t)) 1))), (0, .ref a), (1, .int t), (2, .int s), (3, .int aim)]) dX11_lists_56 (Nat.le_of_ble_eq_true rfl) rfl ?_
          refine aj.iconst (v := 0) dX11_lists_58 rfl ?_
          refine aj.istore (lv' := [(5, .int 0), (4, .int (iMin 10 (V (57 + 2 * (mN t)) 1))), (0, .ref a), (1, .int t), (2, .int s), (3, .int aim)]) dX11_lists_59 (Nat.le_of_ble_eq_true rfl) rfl ?_
          rw [hmin]
          refine aj.pick [0, 1, 2, 3, 4, 5] rfl ?_
          refine lists_lp (mN t) h_t.1 (mN s) h_s.1 (mN aim) h_aim.1 (m := mm) (by omega) (by omega) (by omega) (by omega) hH (fun V1 M hv1 hA => ?_) mm 0 V M (by omega) hv (by rw [wlF_0, va_upI]; exact hA)
          refine aj.iload dX11_lists_95 rfl ?_
          rw [if_pos (⟨⟨c5, c13, c21⟩, hA32⟩ : (_ ∧ _ ∧ _) ∧ _)] at h34
          have hA2 : kA a M0 M (va_up V1 (57 + 2 * (mN t)) (V1 (57 + 2 * (mN t)))) (va_up W (57 + 2 * (mN t) + 1) (wlF (W (57 + 2 * (mN t) + 1)) (mLn B sl (mN s) (mN aim)) mm)) R := by rw [va_upI]; exact hA
          refine aj.iret rfl dX11_lists_97 ⟨by rw [if_pos (⟨c5, c13, c21⟩ : _ ∧ _ ∧ _), if_neg hA32, hmm], kT_set (t := mN t) (by omega) hTr hv1 hw hA2 (fun k hk => rfl) (fun k hk => rfl) (fun k j hk hj => by rw [h34]; unfold zlst; rw [if_neg (by omega)]) h33 ((congrFun (hv1 _ hnt.1) 0).trans h0) (fun _ => ⟨(congrFun (hv1 _ hnt.1) 1).trans (h1 hA32).1, (congrFun (hv1 _ hnt.1) 2).trans (h1 hA32).2.1, fun j hj => ?_⟩)⟩
          rw [h34, hmm]
          unfold wlF zlst
          by_cases e : j < mm
          · rw [if_pos e, if_pos (by omega), show 40 * mN t + j - 40 * mN t = j by omega]
          · rw [if_neg e, if_neg (by omega), congrFun (hw _ hnt.2) j]
            exact (h1 hA32).2.2 j hj
        · have hA32 : A 32 (mN t) = -1 := Classical.not_not.mp (zb_0.mp (h0'.symm.trans c36))
          refine aj.bipush (v := (-6)) dX11_lists_39 rfl ?_
          exact aj.iret rfl dX11_lists_41 ⟨by rw [if_pos (⟨c5, c13, c21⟩ : _ ∧ _ ∧ _), if_pos hA32], kT_same hTr hv hw hA rfl rfl (h34.trans (if_neg (fun z => z.2 hA32)))⟩
      · refine aj.bipush (v := (-2)) dX11_lists_24 rfl ?_
        exact aj.iret rfl dX11_lists_26 ⟨by rw [if_neg (fun z => c21 z.2.2)], kT_same hTr hv hw hA rfl rfl (h34.trans (if_neg (fun z => (fun z => c21 z.2.2) z.1)))⟩
