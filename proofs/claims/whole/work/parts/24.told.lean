/-- a deed that is told by a number can be -/
abbrev dOK (nS : Nat) (z : Int) : Prop := z = 0 ∨ z = 1 ∨ (10 ≤ z ∧ z ≤ 19) ∨ (10000 ≤ z ∧ z ≤ 49999 ∧ z / 10000 - 1 < nS ∧ z % 10000 / 100 ≤ 20 ∧ z % 100 ≤ 9)
def doB (B : Nat → Int32) (sl ol : Option (List Nat)) (n : Nat) : Nat → Int32 := if n = 0 then upd B 27 (nI (mN (B 27) + 1)) else if n = 1 then upd B 25 0 else if n < 20 then upd B 26 (nI (n - 10)) else shotB B sl ol (n / 10000 - 1) (n % 10000 / 100) (n % 100)
theorem lwIs_cong {B C : Nat → Int32} {j : Nat} {x : Option (List Nat)} {t : Bool} {ws : List Nat} (hj : j < 2) (h : ∀ k, k < 17 ∨ 139 ≤ k → C k = B k) (hB : lwIs B j x t ws) : lwIs C j x t ws := by
  cases x with
  | none => exact (h _ (by omega)).trans hB
  | some cs =>
    obtain ⟨h1, ⟨h2, ⟨fr, h3, h4, h5⟩, h6⟩, h7⟩ := hB
    exact ⟨(h _ (by omega)).trans h1, ⟨(h _ (by omega)).trans h2, ⟨fr, (h _ (by omega)).trans h3, h4, fun k hk => (h _ (by omega)).trans (h5 k hk)⟩, h6⟩, h7⟩
theorem mOK_st {B C : Nat → Int32} {sl ol : Option (List Nat)} {T T' : Nat} (hB : mOK B sl ol T) (h : ∀ k, k < 17 ∨ 139 ≤ k → C k = B k) (hag : ∀ s, s < 4 → bd (C (21 + s)) 9) (hhu : bd (C 25) T') (hwd : bd (C 26) 9) (hmi : bd (C 27) T') (hT : T' < 2 ^ 24) : mOK C sl ol T' := by
  obtain ⟨⟨h1, h2, h3⟩, ⟨h4, h5, h6⟩, h7, h8, h9, h10, h11, h12, h13, h14, h15⟩ := hB
  refine ⟨⟨?_, ?_, ?_⟩, ⟨?_, ?_, ?_⟩, ?_, ?_, hag, hhu, hwd, hmi, hT, lwIs_cong (by decide) h h14, lwIs_cong (by decide) h h15⟩
  · rw [h 1 (by omega)]; exact h1
  · rw [h 2 (by omega)]; exact h2
  · rw [h 1 (by omega), h 2 (by omega)]; exact h3
  · rw [h 3 (by omega)]; exact h4
  · rw [h 4 (by omega)]; exact h5
  · rw [h 5 (by omega)]; exact h6
  · rw [h 6 (by omega)]; exact h7
  · intro s hs; rw [h (13 + s) (by omega)]; exact h8 s hs
theorem bd_mono {x : Int32} {m n : Nat} (h : bd x m) (hmn : m ≤ n) : bd x n := ⟨h.1, Nat.le_trans h.2 hmn⟩
theorem shotB_27 {B : Nat → Int32} {sl ol : Option (List Nat)} {s aim lot : Nat} : shotB B sl ol s aim lot 27 = nI (mN (B 27) + 1) := pk_us
theorem shotB_ag {B : Nat → Int32} {sl ol : Option (List Nat)} {s aim lot t : Nat} (hs : s < 4) (ht : t < 4) (h : bd (B (21 + t)) 9) : bd (shotB B sl ol s aim lot (21 + t)) 9 := by
  unfold shotB
  rw [pk_un (by omega)]
  unfold shot3
  split
  · rename_i q
    by_cases e : t = s
    · subst e
      rw [pk_us]
      exact bd_nI (by omega) (by decide)
    · rw [pk_un (by omega), shot2_o (by omega) (by omega)]
      exact h
  · rw [shot2_o (by omega) (by omega)]
    exact h
theorem shotB_25 {B : Nat → Int32} {sl ol : Option (List Nat)} {s aim lot T : Nat} (hs : s < 4) (h : bd (B 25) T) (hT : T + 1 < 2 ^ 31) : bd (shotB B sl ol s aim lot 25) (T + 1) := by
  have h2 := h.2
  unfold shotB
  rw [pk_un (by omega)]
  have : bd (shot2 B sl ol s aim lot 25) (T + 1) := by
    unfold shot2
    split
    · rw [pk_us]; exact bd_nI (by omega) (by omega)
    · rw [shot1_o (by omega)]; exact bd_mono h (by omega)
  unfold shot3
  split
  · rw [pk_un (by omega)]; exact this
  · exact this
theorem shotB_k {B : Nat → Int32} {sl ol : Option (List Nat)} {s aim lot k : Nat} (hs : s < 4) (h : k < 17 ∨ 28 ≤ k ∨ k = 26) : shotB B sl ol s aim lot k = B k := shotB_o (by omega) (by omega) (by omega) (by omega)
theorem mOK_shot {B : Nat → Int32} {sl ol : Option (List Nat)} {T s aim lot : Nat} (hB : mOK B sl ol T) (hs : s < 4) (hT : T + 1 < 2 ^ 24) : mOK (shotB B sl ol s aim lot) sl ol (T + 1) := by
  have h27 := hB.2.2.2.2.2.2.2.1.2
  refine mOK_st hB (fun k hk => shotB_k hs (by omega)) (fun t ht => shotB_ag hs ht (hB.2.2.2.2.1 t ht)) (shotB_25 hs hB.2.2.2.2.2.1 (by omega)) ?_ ?_ hT
  · rw [shotB_k hs (by omega)]; exact hB.2.2.2.2.2.2.1
  · rw [shotB_27]; exact bd_nI (by omega) (by omega)
theorem doB_k {B : Nat → Int32} {sl ol : Option (List Nat)} {n k nS : Nat} (hn : dOK nS n) (hS : nS ≤ 4) (h : k < 17 ∨ 28 ≤ k) : doB B sl ol n k = B k := by
  unfold doB
  split
  · exact pk_un (by omega)
  · split
    · exact pk_un (by omega)
    · split
      · exact pk_un (by omega)
      · exact shotB_k (by omega) (by omega)
theorem mOK_do {B : Nat → Int32} {sl ol : Option (List Nat)} {T n : Nat} (hB : mOK B sl ol T) (hn : dOK (mN (B 6)) n) (hT : T + 1 < 2 ^ 24) : mOK (doB B sl ol n) sl ol (T + 1) := by
  have hS := hB.2.2.1.2
  have h25 := hB.2.2.2.2.2.1
  have h26 := hB.2.2.2.2.2.2.1
  have h27 := hB.2.2.2.2.2.2.2.1
  have h272 := h27.2
  have hk := fun k (h : k < 17 ∨ 139 ≤ k) => doB_k (B := B) (sl := sl) (ol := ol) (k := k) hn hS (by omega)
  unfold doB at hk ⊢
  split
  · refine mOK_st hB (fun k h => pk_un (by omega)) (fun s hs => by rw [pk_un (by omega)]; exact hB.2.2.2.2.1 s hs) ?_ ?_ ?_ hT
    · rw [pk_un (by omega)]; exact bd_mono h25 (by omega)
    · rw [pk_un (by omega)]; exact h26
    · rw [pk_us]; exact bd_nI (by omega) (by omega)
  · split
    · refine mOK_st hB (fun k h => pk_un (by omega)) (fun s hs => by rw [pk_un (by omega)]; exact hB.2.2.2.2.1 s hs) ?_ ?_ ?_ hT
      · rw [pk_us]; exact bd_nI (a := 0) (by omega) (by omega)
      · rw [pk_un (by omega)]; exact h26
      · rw [pk_un (by omega)]; exact bd_mono h27 (by omega)
    · split
      · refine mOK_st hB (fun k h => pk_un (by omega)) (fun s hs => by rw [pk_un (by omega)]; exact hB.2.2.2.2.1 s hs) ?_ ?_ ?_ hT
        · rw [pk_un (by omega)]; exact bd_mono h25 (by omega)
        · rw [pk_us]; exact bd_nI (by omega) (by decide)
        · rw [pk_un (by omega)]; exact bd_mono h27 (by omega)
      · exact mOK_shot hB (by omega) hT
theorem z_l64 {v : Int64} {lo hi : Nat} {a c : Int64} (ha : a.toInt = lo) (hc : c.toInt = hi) (h : a ≤ v ∧ v ≤ c) : ∃ n : Nat, lo ≤ n ∧ n ≤ hi ∧ v = lN n := by
  have h1 := Int64.le_iff_toInt_le.mp h.1
  have h2 := Int64.le_iff_toInt_le.mp h.2
  have h3 := v.toInt_lt
  refine ⟨v.toInt.toNat, by omega, by omega, ?_⟩
  apply Int64.toInt_inj.mp
  rw [pk_lT (by omega)]
  omega
theorem inR_nI {k : Nat} {m : Int} (hk : k < 2 ^ 31) : inR (nI k) 0 m ↔ (k : Int) ≤ m := by
  unfold inR
  rw [nI_toInt hk]
  omega
theorem c_whyNot {G : zG} {l : Launch} {b : Nat} {M0 M : zM} {I : Nat → Int32} {A : Nat → Nat → Int32} {L : Nat → Nat → Int64} (v : Int64) {sl ol : Option (List Nat)} {T : Nat} (hM : mW b M0 M I A L) (hB : mOK (A 1) sl ol T) : am G l kX12_whyNot 3 [.ref b, .long v] M 0 0 (zr (.int (zb (¬ dOK (mN (A 1 6)) v.toInt))) (fun M' => mW b M0 M' I A L)) := by
  obtain ⟨u, v', w, hA⟩ := hM
  have hT := hB.2.2.2.2.2.2.2.2.1
  have hN6 := hB.2.2.1.2
  have hN25 := hB.2.2.2.2.2.1.2
  have hN26 := hB.2.2.2.2.2.2.1.2
  have hN27 := hB.2.2.2.2.2.2.2.1.2
  have hN1 := hB.1.1.2
  have hN2 := hB.1.2.1.2
  refine am.of (by decide) (Nat.le_of_ble_eq_true rfl) ?_
  refine aj.lload_n dX12_whyNot_0 rfl ?_
  refine aj.lconst (v := 0) dX12_whyNot_1 rfl ?_
  refine aj.lif_eq (tgt := 25) dX12_whyNot_2 dX12_whyNot_3 rfl (fun c2 => ?_) (fun c2 => ?_)
  · refine aj.iconst (v := 0) dX12_whyNot_25 rfl ?_
    exact aj.iret rfl dX12_whyNot_26 ⟨by rw [zb_f (by have k0 : (0 : Int64).toInt = 0 := rfl; have k1 : (1 : Int64).toInt = 1 := rfl; have k2 : (10 : Int64).toInt = 10 := rfl; have k3 : (19 : Int64).toInt = 19 := rfl; have k4 : (10000 : Int64).toInt = 10000 := rfl; have k5 : (49999 : Int64).toInt = 49999 := rfl; simp only [Int64.lt_iff_toInt_lt, Int64.le_iff_toInt_le, ← Int64.toInt_inj] at *; omega)], _, _, _, hA⟩
  · refine aj.lload_n dX12_whyNot_6 rfl ?_
    refine aj.lconst (v := 1) dX12_whyNot_7 rfl ?_
    refine aj.lif_eq (tgt := 25) dX12_whyNot_8 dX12_whyNot_9 rfl (fun c8 => ?_) (fun c8 => ?_)
    · refine aj.iconst (v := 0) dX12_whyNot_25 rfl ?_
      exact aj.iret rfl dX12_whyNot_26 ⟨by rw [zb_f (by have k0 : (0 : Int64).toInt = 0 := rfl; have k1 : (1 : Int64).toInt = 1 := rfl; have k2 : (10 : Int64).toInt = 10 := rfl; have k3 : (19 : Int64).toInt = 19 := rfl; have k4 : (10000 : Int64).toInt = 10000 := rfl; have k5 : (49999 : Int64).toInt = 49999 := rfl; simp only [Int64.lt_iff_toInt_lt, Int64.le_iff_toInt_le, ← Int64.toInt_inj] at *; omega)], _, _, _, hA⟩
    · refine aj.lload_n dX12_whyNot_12 rfl ?_
      refine aj.ldc2 dX12_whyNot_13 w1603 ?_
      refine aj.ldc2 dX12_whyNot_16 w1621 ?_
      refine aj.callS1 (d' := 0) (As := [.long v, .long 10, .long 19]) (rest := []) dX12_whyNot_19 v_X12_142 w1380 rfl rfl (Nat.le_of_ble_eq_true rfl) (Nat.le_of_ble_eq_true rfl) (c_within _ v 10 19) (fun M hM => ?_)
      subst hM
      refine aj.if_eqB (tgt := 27) dX12_whyNot_22 rfl (fun c22 => ?_) (fun c22 => ?_)
      · refine aj.lload_n dX12_whyNot_27 rfl ?_
        refine aj.ldc2 dX12_whyNot_28 w1622 ?_
        refine aj.ldc2 dX12_whyNot_31 w1623 ?_
        refine aj.callS1 (d' := 0) (As := [.long v, .long 10000, .long 49999]) (rest := []) dX12_whyNot_34 v_X12_142 w1380 rfl rfl (Nat.le_of_ble_eq_true rfl) (Nat.le_of_ble_eq_true rfl) (c_within _ v 10000 49999) (fun M hM => ?_)
        subst hM
        refine aj.if_neB (tgt := 42) dX12_whyNot_37 rfl (fun c37 => ?_) (fun c37 => ?_)
        · obtain ⟨n, hn1, hn2, rfl⟩ := z_l64 (lo := 10000) (hi := 49999) rfl rfl c37
          refine aj.aload_n dX12_whyNot_42 rfl ?_
          refine aj.lload_n dX12_whyNot_43 rfl ?_
          refine aj.l2iN (a := n) dX12_whyNot_44 rfl ?_
          refine aj.sipush (v := 10000) dX12_whyNot_45 rfl ?_
          refine aj.idivN (a := n) (b := 10000) dX12_whyNot_48 rfl rfl (by omega) (by omega) (by omega) ?_
          refine aj.iconst (v := 1) dX12_whyNot_49 rfl ?_
          refine aj.isubN (a := n / 10000) (b := 1) dX12_whyNot_50 rfl rfl (by omega) ?_
          refine aj.lload_n dX12_whyNot_51 rfl ?_
          refine aj.l2iN (a := n) dX12_whyNot_52 rfl ?_
          refine aj.sipush (v := 10000) dX12_whyNot_53 rfl ?_
          refine aj.iremN (a := n) (b := 10000) dX12_whyNot_56 rfl rfl (by omega) (by omega) (by omega) ?_
          refine aj.bipush (v := 100) dX12_whyNot_57 rfl ?_
          refine aj.idivN (a := n % 10000) (b := 100) dX12_whyNot_59 rfl rfl (by omega) (by omega) (by omega) ?_
          refine aj.lload_n dX12_whyNot_60 rfl ?_
          refine aj.l2iN (a := n) dX12_whyNot_61 rfl ?_
          refine aj.bipush (v := 100) dX12_whyNot_62 rfl ?_
          refine aj.iremN (a := n) (b := 100) dX12_whyNot_64 rfl rfl (by omega) (by omega) (by omega) ?_
          refine aj.callV1 (d' := 2) (As := [.int (nI ((n / 10000) - 1)), .int (nI ((n % 10000) / 100)), .int (nI (n % 100))]) (rest := []) dX12_whyNot_65 v_X12_260 li_X12_canShoot hA.1 rfl rfl rfl (Nat.le_of_ble_eq_true rfl) (Nat.le_of_ble_eq_true rfl) (q_canShoot (nI ((n / 10000) - 1)) (nI ((n % 10000) / 100)) (nI (n % 100)) ⟨_, _, _, hA⟩ hB) (fun M hM => ?_)
          obtain ⟨u, v, w, hA⟩ := hM
          refine aj.if_eqB (tgt := 75) dX12_whyNot_68 rfl (fun c68 => ?_) (fun c68 => ?_)
          · refine aj.iconst (v := 1) dX12_whyNot_75 rfl ?_
            exact aj.iret rfl dX12_whyNot_76 ⟨by rw [zb_t (by rw [pk_lT (by omega)]; rw [inR_nI (by omega), inR_nI (by omega), inR_nI (by omega)] at c68; omega)], _, _, _, hA⟩
          · refine aj.iconst (v := 0) dX12_whyNot_71 rfl ?_
            refine aj.goto (tgt := 76) dX12_whyNot_72 rfl ?_
            exact aj.iret rfl dX12_whyNot_76 ⟨by rw [zb_f (by rw [pk_lT (by omega)]; rw [inR_nI (by omega), inR_nI (by omega), inR_nI (by omega)] at c68; omega)], _, _, _, hA⟩
        · refine aj.iconst (v := 1) dX12_whyNot_40 rfl ?_
          exact aj.iret rfl dX12_whyNot_41 ⟨by rw [zb_t (by have k0 : (0 : Int64).toInt = 0 := rfl; have k1 : (1 : Int64).toInt = 1 := rfl; have k2 : (10 : Int64).toInt = 10 := rfl; have k3 : (19 : Int64).toInt = 19 := rfl; have k4 : (10000 : Int64).toInt = 10000 := rfl; have k5 : (49999 : Int64).toInt = 49999 := rfl; simp only [Int64.lt_iff_toInt_lt, Int64.le_iff_toInt_le, ← Int64.toInt_inj] at *; omega)], _, _, _, hA⟩
      · refine aj.iconst (v := 0) dX12_whyNot_25 rfl ?_
        exact aj.iret rfl dX12_whyNot_26 ⟨by rw [zb_f (by have k0 : (0 : Int64).toInt = 0 := rfl; have k1 : (1 : Int64).toInt = 1 := rfl; have k2 : (10 : Int64).toInt = 10 := rfl; have k3 : (19 : Int64).toInt = 19 := rfl; have k4 : (10000 : Int64).toInt = 10000 := rfl; have k5 : (49999 : Int64).toInt = 49999 := rfl; simp only [Int64.lt_iff_toInt_lt, Int64.le_iff_toInt_le, ← Int64.toInt_inj] at *; omega)], _, _, _, hA⟩
theorem c_does {G : zG} {l : Launch} {b : Nat} {M0 M : zM} {I : Nat → Int32} {A : Nat → Nat → Int32} {L : Nat → Nat → Int64} (n : Nat) {x_n : Int32} (e_n : x_n = nI n) {sl ol : Option (List Nat)} {T : Nat} (hM : mW b M0 M I A L) (hB : mOK (A 1) sl ol T) (hn : dOK (mN (A 1 6)) n) : am G l kX12_does 5 [.ref b, .int x_n] M 0 0 (zv (fun M' => mW b M0 M' I (va_up A 1 (doB (A 1) sl ol n)) L)) := by
  obtain ⟨u, v, w, hA⟩ := hM
  have hT := hB.2.2.2.2.2.2.2.2.1
  have hN6 := hB.2.2.1.2
  have hN25 := hB.2.2.2.2.2.1.2
  have hN26 := hB.2.2.2.2.2.2.1.2
  have hN27 := hB.2.2.2.2.2.2.2.1.2
  have hN1 := hB.1.1.2
  have hN2 := hB.1.2.1.2
  refine am.of (by decide) (Nat.le_of_ble_eq_true rfl) ?_
  refine aj.iload_n dX12_does_0 rfl ?_
  refine aj.if_neN (a := n) (tgt := 18) dX12_does_1 e_n (by omega) rfl (fun c1 => ?_) (fun c1 => ?_)
  · refine aj.iload_n dX12_does_18 rfl ?_
    refine aj.iconst (v := 1) dX12_does_19 rfl ?_
    refine aj.icmp_neN (a := n) (b := 1) (tgt := 34) dX12_does_20 e_n rfl (by omega) (by omega) rfl (fun c20 => ?_) (fun c20 => ?_)
    · refine aj.iload_n dX12_does_34 rfl ?_
      refine aj.bipush (v := 20) dX12_does_35 rfl ?_
      refine aj.icmp_geN (a := n) (b := 20) (tgt := 54) dX12_does_37 e_n rfl (by omega) (by omega) rfl (fun c37 => ?_) (fun c37 => ?_)
      · refine aj.aload_n dX12_does_54 rfl ?_
        refine aj.iload_n dX12_does_55 rfl ?_
        refine aj.sipush (v := 10000) dX12_does_56 rfl ?_
        refine aj.idivN (a := n) (b := 10000) dX12_does_59 e_n rfl (by omega) (by omega) (by omega) ?_
        refine aj.iconst (v := 1) dX12_does_60 rfl ?_
        refine aj.isubN (a := n / 10000) (b := 1) dX12_does_61 rfl rfl (by omega) ?_
        refine aj.iload_n dX12_does_62 rfl ?_
        refine aj.sipush (v := 10000) dX12_does_63 rfl ?_
        refine aj.iremN (a := n) (b := 10000) dX12_does_66 e_n rfl (by omega) (by omega) (by omega) ?_
        refine aj.bipush (v := 100) dX12_does_67 rfl ?_
        refine aj.idivN (a := n % 10000) (b := 100) dX12_does_69 rfl rfl (by omega) (by omega) (by omega) ?_
        refine aj.iload_n dX12_does_70 rfl ?_
        refine aj.bipush (v := 100) dX12_does_71 rfl ?_
        refine aj.iremN (a := n) (b := 100) dX12_does_73 e_n rfl (by omega) (by omega) (by omega) ?_
        refine aj.callV1 (d' := 4) (As := [.int (nI ((n / 10000) - 1)), .int (nI ((n % 10000) / 100)), .int (nI (n % 100))]) (rest := []) dX12_does_74 v_X12_268 li_X12_goesShot hA.1 rfl rfl rfl (Nat.le_of_ble_eq_true rfl) (Nat.le_of_ble_eq_true rfl) (c_goesShot ((n / 10000) - 1) rfl ((n % 10000) / 100) rfl (n % 100) rfl ⟨_, _, _, hA⟩ hB (by omega) (by omega) (by omega)) (fun M hM => ?_)
        obtain ⟨u, v, w, hA⟩ := hM
        refine aj.pop dX12_does_77 rfl ?_
        exact aj.vret rfl dX12_does_78 ⟨rfl, _, _, _, by unfold doB; rw [if_neg c1, if_neg c20, if_neg (by omega)]; exact hA⟩
      · refine aj.aload_n dX12_does_40 rfl ?_
        refine gM1 rfl dX12_does_41 hA ?_
        refine aj.bipush (v := 26) dX12_does_44 rfl ?_
        refine aj.iload_n dX12_does_46 rfl ?_
        refine aj.bipush (v := 10) dX12_does_47 rfl ?_
        refine aj.isubN (a := n) (b := 10) dX12_does_49 e_n rfl (by omega) ?_
        refine sM1N (i := 26) dX12_does_50 hA rfl (by omega) (fun M hA => ?_)
        refine aj.goto (tgt := 78) dX12_does_51 rfl ?_
        exact aj.vret rfl dX12_does_78 ⟨rfl, _, _, _, by unfold doB; rw [if_neg c1, if_neg c20, if_pos (by omega)]; exact hA⟩
    · refine aj.aload_n dX12_does_23 rfl ?_
      refine gM1 rfl dX12_does_24 hA ?_
      refine aj.bipush (v := 25) dX12_does_27 rfl ?_
      refine aj.iconst (v := 0) dX12_does_29 rfl ?_
      refine sM1N (i := 25) dX12_does_30 hA rfl (by omega) (fun M hA => ?_)
      refine aj.goto (tgt := 78) dX12_does_31 rfl ?_
      exact aj.vret rfl dX12_does_78 ⟨rfl, _, _, _, by unfold doB; rw [if_neg c1, if_pos c20]; exact hA⟩
  · refine aj.aload_n dX12_does_4 rfl ?_
    refine gM1 rfl dX12_does_5 hA ?_
    refine aj.bipush (v := 27) dX12_does_8 rfl ?_
    refine aj.dup2 dX12_does_10 rfl rfl ?_
    refine aM1N (i := 27) dX12_does_11 hA rfl (by omega) ?_
    refine aj.iconst (v := 1) dX12_does_12 rfl ?_
    refine aj.iaddN (a := mN (A 1 27)) (b := 1) dX12_does_13 hB.2.2.2.2.2.2.2.1.1 rfl ?_
    refine sM1N (i := 27) dX12_does_14 hA rfl (by omega) (fun M hA => ?_)
    refine aj.goto (tgt := 78) dX12_does_15 rfl ?_
    exact aj.vret rfl dX12_does_78 ⟨rfl, _, _, _, by unfold doB; rw [if_pos c1]; exact hA⟩
