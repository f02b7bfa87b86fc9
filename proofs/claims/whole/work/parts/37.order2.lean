/-- the reference object, all that later calls don't read hidden -/
def mH (b : Nat) (M0 M : zM) (I : Nat → Int32) (A : Nat → Nat → Int32) (L : Nat → Nat → Int64) : Prop := ∃ (I' : Nat → Int32) (A' : Nat → Nat → Int32) (L' : Nat → Nat → Int64), mW b M0 M I' A' L' ∧ (I' 5 = I 5 ∧ I' 13 = I 13 ∧ I' 14 = I 14) ∧ (A' 1 = A 1 ∧ A' 2 = A 2 ∧ A' 3 = A 3 ∧ A' 32 = A 32 ∧ A' 33 = A 33) ∧ L' 34 = L 34
theorem mH.of {b : Nat} {M0 M : zM} {I : Nat → Int32} {A : Nat → Nat → Int32} {L : Nat → Nat → Int64} (h : mW b M0 M I A L) : mH b M0 M I A L := ⟨I, A, L, h, ⟨rfl, rfl, rfl⟩, ⟨rfl, rfl, rfl, rfl, rfl⟩, rfl⟩
/-- what a shooter gains in a turn -/
abbrev mGain (B : Nat → Int32) (sl ol : Option (List Nat)) (i s : Nat) : Int32 := mSum B sl s (mN (B (21 + s))) (mOpen ol (mN (B 26)) (mN (B 27) + i) (mN (B 25)) = true) (mBest B sl s (mN (B (21 + s))) (mOpen ol (mN (B 26)) (mN (B 27) + i) (mN (B 25)) = true) 20) 10
theorem gaOK_m {B : Nat → Int32} {sl ol : Option (List Nat)} {T : Nat} (hB : mOK B sl ol T) (nS : Nat) : gaOK (mGain B sl ol) nS := fun i s _ _ => by
  have h := mSum_bd (sl := sl) (s := s) (age := mN (B (21 + s))) (aim := mBest B sl s (mN (B (21 + s))) (mOpen ol (mN (B 26)) (mN (B 27) + i) (mN (B 25)) = true) 20) hB (mOpen ol (mN (B 26)) (mN (B 27) + i) (mN (B 25)) = true)
  exact ⟨by show -1000 ≤ (mSum _ _ _ _ _ _ _).toInt; omega, by show (mSum _ _ _ _ _ _ _).toInt ≤ 1000; omega⟩
/-- the order by which most is gained, the first -/
def mOrd (ga : Nat → Nat → Int32) (nS : Nat) : List Nat := (lmx (oG ga 0) none (oP nS nS [])).getD []
theorem oP_ne : ∀ n, n ≤ 4 → oP n n [] ≠ [] := by decide
theorem mOrd_is (ga : Nat → Nat → Int32) {nS : Nat} (h : nS ≤ 4) : lmx (oG ga 0) none (oP nS nS []) = some (mOrd ga nS) := by
  unfold mOrd
  have h0 := oP_ne nS h
  generalize oP nS nS [] = xs at h0 ⊢
  cases xs with
  | nil => exact absurd rfl h0
  | cons x xs =>
    obtain ⟨z, hz⟩ := lmx_some (oG ga 0) xs x
    have e : lmx (oG ga 0) none (x :: xs) = some z := hz
    rw [e]
    rfl
theorem order_in {G : zG} {l : Launch} {b : Nat} {M0 : zM} {I : Nat → Int32} {A : Nat → Nat → Int32} {L : Nat → Nat → Int64} {Q : Option Value → zM → Prop} (q : Int32) (i : Nat) {sl ol : Option (List Nat)} {T : Nat} (hB : mOK (A 1) sl ol T) (hi : i < mN (A 1 6)) (hk : ∀ (mo : Nat → Int32) (M : zM), (∀ i' s', i' < mN (A 1 6) → s' < mN (A 1 6) → (i' < (i + 1) ∨ (i' = (i + 1) ∧ s' < 0)) → mo (4 * i' + s') = mGain (A 1) sl ol i' s') → mW b M0 M I (va_up A 28 mo) L → aj G l kX12_order 7 120 [(2, .int (nI i)), (0, .ref b), (1, .int q)] [] M 0 0 Q) : ∀ (n s : Nat) (mo : Nat → Int32) (M : zM), s + n = mN (A 1 6) → (∀ i' s', i' < mN (A 1 6) → s' < mN (A 1 6) → (i' < i ∨ (i' = i ∧ s' < s)) → mo (4 * i' + s') = mGain (A 1) sl ol i' s') → mW b M0 M I (va_up A 28 mo) L → aj G l kX12_order 7 67 [(4, .int (nI s)), (3, .int (zb (mOpen ol (mN (A 1 26)) (mN (A 1 27) + i) (mN (A 1 25)) = true))), (2, .int (nI i)), (0, .ref b), (1, .int q)] [] M 0 0 Q := by
  have hT := hB.2.2.2.2.2.2.2.2.1
  have hN6 := hB.2.2.1.2
  have hN25 := hB.2.2.2.2.2.1.2
  have hN26 := hB.2.2.2.2.2.2.1.2
  have hN27 := hB.2.2.2.2.2.2.2.1.2
  have hN1 := hB.1.1.2
  have hN2 := hB.1.2.1.2
  intro n
  induction n with
  | zero =>
    intro s mo M hin hmo hM
    obtain ⟨u, v, w, hA⟩ := hM
    refine aj.iload dX12_order_67 rfl ?_
    refine aj.aload_n dX12_order_69 rfl ?_
    refine gM1 rfl dX12_order_70 hA ?_
    refine aj.bipush (v := 6) dX12_order_73 rfl ?_
    refine aM1N (i := 6) dX12_order_75 hA rfl (by omega) ?_
    refine aj.icmp_geN (a := s) (b := mN (A 1 6)) (tgt := 120) dX12_order_76 rfl hB.2.2.1.1 (by omega) (by omega) rfl (fun c76 => ?_) (fun c76 => ?_)
    · refine aj.pick [2, 3, 4] rfl ?_
      exact hk mo M (fun i' s' h1 h2 h3 => hmo i' s' h1 h2 (by omega)) ⟨_, _, _, hA⟩
    · exact absurd c76 (by omega)
  | succ n ih =>
    intro s mo M hin hmo hM
    obtain ⟨u, v, w, hA⟩ := hM
    have hb20 : mBest (A 1) sl s (mN (A 1 (21 + s))) (mOpen ol (mN (A 1 26)) (mN (A 1 27) + i) (mN (A 1 25)) = true) 20 ≤ 20 := zmax_le _ 20
    have hag := (hB.2.2.2.2.1 s (by omega)).2
    refine aj.iload dX12_order_67 rfl ?_
    refine aj.aload_n dX12_order_69 rfl ?_
    refine gM1 rfl dX12_order_70 hA ?_
    refine aj.bipush (v := 6) dX12_order_73 rfl ?_
    refine aM1N (i := 6) dX12_order_75 hA rfl (by omega) ?_
    refine aj.icmp_geN (a := s) (b := mN (A 1 6)) (tgt := 120) dX12_order_76 rfl hB.2.2.1.1 (by omega) (by omega) rfl (fun c76 => ?_) (fun c76 => ?_)
    · exact absurd c76 (by omega)
    · refine aj.aload_n dX12_order_79 rfl ?_
      refine gM28 rfl dX12_order_80 hA ?_
      refine aj.iconst (v := 4) dX12_order_83 rfl ?_
      refine aj.iload_n dX12_order_84 rfl ?_
      refine aj.imulN (a := 4) (b := i) dX12_order_85 rfl rfl ?_
      refine aj.iload dX12_order_86 rfl ?_
      refine aj.iaddN (a := 4 * i) (b := s) dX12_order_88 rfl rfl ?_
      refine aj.aload_n dX12_order_89 rfl ?_
      refine aj.iload dX12_order_90 rfl ?_
      refine aj.aload_n dX12_order_92 rfl ?_
      refine aj.iload dX12_order_93 rfl ?_
      refine aj.iload_n dX12_order_95 rfl ?_
      refine aj.callV1 (d' := 5) (As := [.int (nI s), .int (zb (mOpen ol (mN (A 1 26)) (mN (A 1 27) + i) (mN (A 1 25)) = true))]) (rest := [.int (nI s), .ref b, .int (nI ((4 * i) + s)), .ref (b + 14)]) dX12_order_96 v_X12_333 li_X12_bestNow hA.1 rfl rfl rfl (Nat.le_of_ble_eq_true rfl) (Nat.le_of_ble_eq_true rfl) (c_bestNow s rfl (mOpen ol (mN (A 1 26)) (mN (A 1 27) + i) (mN (A 1 25)) = true) ⟨_, _, _, hA⟩ hB (by omega)) (fun M hM => ?_)
      obtain ⟨u, v, w, hA⟩ := hM
      refine aj.aload_n dX12_order_99 rfl ?_
      refine gM1 rfl dX12_order_100 hA ?_
      refine aj.bipush (v := 21) dX12_order_103 rfl ?_
      refine aj.iload dX12_order_105 rfl ?_
      refine aj.iaddN (a := 21) (b := s) dX12_order_107 rfl rfl ?_
      refine aM1N (i := 21 + s) dX12_order_108 hA rfl (by omega) ?_
      refine aj.iload_n dX12_order_109 rfl ?_
      refine aj.callV1 (d' := 3) (As := [.int (nI s), .int (nI (mBest (A 1) sl s (mN (A 1 (21 + s))) (mOpen ol (mN (A 1 26)) (mN (A 1 27) + i) (mN (A 1 25)) = true) 20)), .int (A 1 (21 + s)), .int (zb (mOpen ol (mN (A 1 26)) (mN (A 1 27) + i) (mN (A 1 25)) = true))]) (rest := [.int (nI ((4 * i) + s)), .ref (b + 14)]) dX12_order_110 v_X12_315 li_X12_sumOf hA.1 rfl rfl rfl (Nat.le_of_ble_eq_true rfl) (Nat.le_of_ble_eq_true rfl) (c_sumOf s rfl (mBest (A 1) sl s (mN (A 1 (21 + s))) (mOpen ol (mN (A 1 26)) (mN (A 1 27) + i) (mN (A 1 25)) = true) 20) rfl (mN (A 1 (21 + s))) ((hB.2.2.2.2.1 s (by omega)).1) (mOpen ol (mN (A 1 26)) (mN (A 1 27) + i) (mN (A 1 25)) = true) ⟨_, _, _, hA⟩ hB (by omega) (by omega) (by omega)) (fun M hM => ?_)
      obtain ⟨u, v, w, hA⟩ := hM
      refine sM28N (i := (4 * i) + s) dX12_order_113 hA rfl (by omega) (fun M hA => ?_)
      refine aj.iincN (a := s) (c := 1) (lv' := [(4, .int (nI (s + 1))), (3, .int (zb (mOpen ol (mN (A 1 26)) (mN (A 1 27) + i) (mN (A 1 25)) = true))), (2, .int (nI i)), (0, .ref b), (1, .int q)]) dX12_order_114 rfl (Nat.le_of_ble_eq_true rfl) rfl rfl rfl ?_
      refine aj.goto (tgt := 67) dX12_order_117 rfl ?_
      refine aj.pick [0, 1, 2, 3, 4] rfl ?_
      rw [bx_uu] at hA
      exact ih (s + 1) _ M (by omega) (fun i' s' h1 h2 h3 => if e : 4 * i' + s' = 4 * i + s then (by
          have e1 : i' = i := by omega
          have e2 : s' = s := by omega
          subst e1
          subst e2
          exact pk_us) else (by
          rw [pk_un e]
          exact hmo i' s' h1 h2 (by omega))) ⟨_, _, _, hA⟩
theorem order_out {G : zG} {l : Launch} {b : Nat} {M0 : zM} {I : Nat → Int32} {A : Nat → Nat → Int32} {L : Nat → Nat → Int64} {Q : Option Value → zM → Prop} (q : Int32) {sl ol : Option (List Nat)} {T : Nat} (hB : mOK (A 1) sl ol T) (hk : ∀ (mo : Nat → Int32) (M : zM), (∀ i s, i < mN (A 1 6) → s < mN (A 1 6) → mo (4 * i + s) = mGain (A 1) sl ol i s) → mW b M0 M I (va_up A 28 mo) L → aj G l kX12_order 7 126 [(0, .ref b), (1, .int q)] [] M 0 0 Q) : ∀ (n i : Nat) (mo : Nat → Int32) (M : zM), i + n = mN (A 1 6) → (∀ i' s', i' < mN (A 1 6) → s' < mN (A 1 6) → (i' < i ∨ (i' = i ∧ s' < 0)) → mo (4 * i' + s') = mGain (A 1) sl ol i' s') → mW b M0 M I (va_up A 28 mo) L → aj G l kX12_order 7 32 [(2, .int (nI i)), (0, .ref b), (1, .int q)] [] M 0 0 Q := by
  have hT := hB.2.2.2.2.2.2.2.2.1
  have hN6 := hB.2.2.1.2
  have hN25 := hB.2.2.2.2.2.1.2
  have hN26 := hB.2.2.2.2.2.2.1.2
  have hN27 := hB.2.2.2.2.2.2.2.1.2
  have hN1 := hB.1.1.2
  have hN2 := hB.1.2.1.2
  intro n
  induction n with
  | zero =>
    intro i mo M hin hmo hM
    obtain ⟨u, v, w, hA⟩ := hM
    refine aj.iload_n dX12_order_32 rfl ?_
    refine aj.aload_n dX12_order_33 rfl ?_
    refine gM1 rfl dX12_order_34 hA ?_
    refine aj.bipush (v := 6) dX12_order_37 rfl ?_
    refine aM1N (i := 6) dX12_order_39 hA rfl (by omega) ?_
    refine aj.icmp_geN (a := i) (b := mN (A 1 6)) (tgt := 126) dX12_order_40 rfl hB.2.2.1.1 (by omega) (by omega) rfl (fun c40 => ?_) (fun c40 => ?_)
    · refine aj.pick [1, 2] rfl ?_
      exact hk mo M (fun i' s' h1 h2 => hmo i' s' h1 h2 (by omega)) ⟨_, _, _, hA⟩
    · exact absurd c40 (by omega)
  | succ n ih =>
    intro i mo M hin hmo hM
    obtain ⟨u, v, w, hA⟩ := hM
    refine aj.iload_n dX12_order_32 rfl ?_
    refine aj.aload_n dX12_order_33 rfl ?_
    refine gM1 rfl dX12_order_34 hA ?_
    refine aj.bipush (v := 6) dX12_order_37 rfl ?_
    refine aM1N (i := 6) dX12_order_39 hA rfl (by omega) ?_
    refine aj.icmp_geN (a := i) (b := mN (A 1 6)) (tgt := 126) dX12_order_40 rfl hB.2.2.1.1 (by omega) (by omega) rfl (fun c40 => ?_) (fun c40 => ?_)
    · exact absurd c40 (by omega)
    · refine aj.aload_n dX12_order_43 rfl ?_
      refine aj.aload_n dX12_order_44 rfl ?_
      refine gM1 rfl dX12_order_45 hA ?_
      refine aj.bipush (v := 27) dX12_order_48 rfl ?_
      refine aM1N (i := 27) dX12_order_50 hA rfl (by omega) ?_
      refine aj.iload_n dX12_order_51 rfl ?_
      refine aj.iaddN (a := mN (A 1 27)) (b := i) dX12_order_52 hB.2.2.2.2.2.2.2.1.1 rfl ?_
      refine aj.aload_n dX12_order_53 rfl ?_
      refine gM1 rfl dX12_order_54 hA ?_
      refine aj.bipush (v := 25) dX12_order_57 rfl ?_
      refine aM1N (i := 25) dX12_order_59 hA rfl (by omega) ?_
      refine aj.callV1 (d' := 2) (As := [.int (nI ((mN (A 1 27)) + i)), .int (A 1 25)]) (rest := []) dX12_order_60 v_X12_229 li_X12_isOpen hA.1 rfl rfl rfl (Nat.le_of_ble_eq_true rfl) (Nat.le_of_ble_eq_true rfl) (c_isOpen ((mN (A 1 27)) + i) rfl (mN (A 1 25)) hB.2.2.2.2.2.1.1 ⟨_, _, _, hA⟩ hB (by omega) (by omega)) (fun M hM => ?_)
      obtain ⟨u, v, w, hA⟩ := hM
      refine aj.istore_n (lv' := [(3, .int (zb (mOpen ol (mN (A 1 26)) ((mN (A 1 27)) + i) (mN (A 1 25)) = true))), (2, .int (nI i)), (0, .ref b), (1, .int q)]) dX12_order_63 (Nat.le_of_ble_eq_true rfl) rfl ?_
      refine aj.iconst (v := 0) dX12_order_64 rfl ?_
      refine aj.istore (lv' := [(4, .int 0), (3, .int (zb (mOpen ol (mN (A 1 26)) ((mN (A 1 27)) + i) (mN (A 1 25)) = true))), (2, .int (nI i)), (0, .ref b), (1, .int q)]) dX12_order_65 (Nat.le_of_ble_eq_true rfl) rfl ?_
      refine aj.pick [0, 1, 2, 3, 4] rfl ?_
      refine order_in q i hB (by omega) (fun mo M hmo hM => ?_) (mN (A 1 6)) 0 mo M (by omega) hmo ⟨_, _, _, hA⟩
      obtain ⟨u, v, w, hA⟩ := hM
      refine aj.iincN (a := i) (c := 1) (lv' := [(2, .int (nI (i + 1))), (0, .ref b), (1, .int q)]) dX12_order_120 rfl (Nat.le_of_ble_eq_true rfl) rfl rfl rfl ?_
      refine aj.goto (tgt := 32) dX12_order_123 rfl ?_
      refine aj.pick [0, 1, 2] rfl ?_
      exact ih (i + 1) mo M (by omega) hmo ⟨_, _, _, hA⟩
theorem va_up_29_30b {A : Nat → Nat → Int32} {mo : Nat → Int32} : va_up (va_up (va_up A 28 mo) 29 (A 29)) 30 (A 30) = va_up A 28 mo := by
  funext j
  by_cases h1 : j = 30
  · subst h1
    rw [va_up_self, va_up_ne _ _ (by omega)]
  · by_cases h2 : j = 29
    · subst h2
      rw [va_up_ne _ _ (by omega), va_up_self, va_up_ne _ _ (by omega)]
    · rw [va_up_ne _ _ h1, va_up_ne _ _ h2]
theorem order_last {G : zG} {l : Launch} {b : Nat} {M0 : zM} {I : Nat → Int32} {A : Nat → Nat → Int32} {L : Nat → Nat → Int64} (q : Int32) {sl ol : Option (List Nat)} {T : Nat} (hB : mOK (A 1) sl ol T) (hq : (q = 0 ∨ (10 ≤ q ∧ inR (q - 10) 0 ((mN (A 1 6) : Int) - 1)))) (mo : Nat → Int32) (hmo : ∀ i s, i < mN (A 1 6) → s < mN (A 1 6) → mo (4 * i + s) = mGain (A 1) sl ol i s) (M : zM) (hM : mW b M0 M I (va_up A 28 mo) L) : aj G l kX12_order 7 126 [(0, .ref b), (1, .int q)] [] M 0 0 (zr (.int (if q = 0 then oG (mGain (A 1) sl ol) 0 (mOrd (mGain (A 1) sl ol) (mN (A 1 6))) else nI ((mOrd (mGain (A 1) sl ol) (mN (A 1 6))).getD (mN (q - 10)) 0))) (fun M' => mH b M0 M' I A L)) := by
  obtain ⟨u, v, w, hA⟩ := hM
  have hT := hB.2.2.2.2.2.2.2.2.1
  have hN6 := hB.2.2.1.2
  have hN25 := hB.2.2.2.2.2.1.2
  have hN26 := hB.2.2.2.2.2.2.1.2
  have hN27 := hB.2.2.2.2.2.2.2.1.2
  have hN1 := hB.1.1.2
  have hN2 := hB.1.2.1.2
  refine aj.aload_n dX12_order_126 rfl ?_
  refine aj.ldcw dX12_order_127 w1819 ?_
  refine pM31 rfl dX12_order_130 hA (fun M hA => ?_)
  refine aj.aload_n dX12_order_133 rfl ?_
  refine aj.iconst (v := 0) dX12_order_134 rfl ?_
  refine aj.iconst (v := 0) dX12_order_135 rfl ?_
  refine aj.iconst (v := 0) dX12_order_136 rfl ?_
  refine aj.callV0 (d' := (mN (A 1 6))) (As := [.int 0, .int 0, .int 0]) (rest := []) dX12_order_137 v_X12_419 li_X12_goesOrder hA.1 rfl rfl rfl (Nat.le_of_ble_eq_true rfl) (by omega) (c_goesOrder (A := va_up A 28 mo) (I := I) (mN (A 1 6)) hN6 hB.2.2.1.1 (mGain (A 1) sl ol) (gaOK_m hB _) hmo (mN (A 1 6)) 0 [] [] none (A 29) (A 30) (-268435456) M (by omega) rfl (fun x hx => nomatch hx) (fun j hj => absurd hj (by omega)) rfl ⟨u, v, w, by rw [va_up_29_30b]; exact hA⟩) (fun M hM => ?_)
  obtain ⟨r, br, bs, hr, ho, u, v, w, hA⟩ := hM
  rw [show (oP (mN (A 1 6)) (mN (A 1 6)) []).map (fun c => [] ++ c) = oP (mN (A 1 6)) (mN (A 1 6)) [] from List.map_id _, mOrd_is _ hN6] at ho
  obtain ⟨ho1, ho2⟩ := ho
  refine aj.iload_n dX12_order_140 rfl ?_
  refine aj.if_ne (tgt := 151) dX12_order_141 rfl (fun c141 => ?_) (fun c141 => ?_)
  · have hq2 := inR_bdS (n := mN (A 1 6)) (hq.resolve_left c141).2 (by omega)
    have hq3 := hq2.2
    refine aj.aload_n dX12_order_151 rfl ?_
    refine gM30 rfl dX12_order_152 hA ?_
    refine aj.iload_n dX12_order_155 rfl ?_
    refine aj.bipush (v := 10) dX12_order_156 rfl ?_
    refine aj.isub dX12_order_158 ?_
    refine aM30N (i := mN (q - 10)) dX12_order_159 hA hq2.1 (by omega) ?_
    exact aj.iret rfl dX12_order_160 ⟨by rw [if_neg c141]; exact congrArg (fun z => some (Value.int z)) (ho2 _ (by omega)), ⟨_, _, _, ⟨_, _, _, hA⟩, ⟨rfl, rfl, rfl⟩, ⟨rfl, rfl, rfl, rfl, rfl⟩, rfl⟩⟩
  · refine aj.aload_n dX12_order_144 rfl ?_
    refine gM31 rfl dX12_order_145 hA ?_
    refine aj.goto (tgt := 160) dX12_order_148 rfl ?_
    exact aj.iret rfl dX12_order_160 ⟨by rw [if_pos c141]; exact congrArg (fun z => some (Value.int z)) ho1, ⟨_, _, _, ⟨_, _, _, hA⟩, ⟨rfl, rfl, rfl⟩, ⟨rfl, rfl, rfl, rfl, rfl⟩, rfl⟩⟩
theorem q_order {G : zG} {l : Launch} {b : Nat} {M0 M : zM} {I : Nat → Int32} {A : Nat → Nat → Int32} {L : Nat → Nat → Int64} (q : Int32) (hM : mW b M0 M I A L) {sl ol : Option (List Nat)} {T : Nat} (hB : mOK (A 1) sl ol T) : am G l kX12_order 7 [.ref b, .int q] M 0 0 (zr (.int (if (q = 0 ∨ (10 ≤ q ∧ inR (q - 10) 0 ((mN (A 1 6) : Int) - 1))) then (if q = 0 then oG (mGain (A 1) sl ol) 0 (mOrd (mGain (A 1) sl ol) (mN (A 1 6))) else nI ((mOrd (mGain (A 1) sl ol) (mN (A 1 6))).getD (mN (q - 10)) 0)) else -99000002)) (fun M' => mH b M0 M' I A L)) := by
  obtain ⟨u, v, w, hA⟩ := hM
  have hT := hB.2.2.2.2.2.2.2.2.1
  have hN6 := hB.2.2.1.2
  have hN25 := hB.2.2.2.2.2.1.2
  have hN26 := hB.2.2.2.2.2.2.1.2
  have hN27 := hB.2.2.2.2.2.2.2.1.2
  have hN1 := hB.1.1.2
  have hN2 := hB.1.2.1.2
  refine am.of (by decide) (Nat.le_of_ble_eq_true rfl) ?_
  refine aj.aload_n dX12_order_0 rfl ?_
  refine aj.iconst (v := 0) dX12_order_1 rfl ?_
  refine pM0 rfl dX12_order_2 hA (fun M hA => ?_)
  refine aj.iload_n dX12_order_5 rfl ?_
  refine aj.if_eq (tgt := 30) dX12_order_6 rfl (fun c6 => ?_) (fun c6 => ?_)
  · refine aj.iconst (v := 0) dX12_order_30 rfl ?_
    refine aj.istore_n (lv' := [(2, .int 0), (0, .ref b), (1, .int q)]) dX12_order_31 (Nat.le_of_ble_eq_true rfl) rfl ?_
    refine aj.pick [0, 1, 2] rfl ?_
    have hq : (q = 0 ∨ (10 ≤ q ∧ inR (q - 10) 0 ((mN (A 1 6) : Int) - 1))) := Or.inl c6
    rw [if_pos hq]
    exact order_out q hB (fun mo M hmo hM => order_last q hB hq mo hmo M hM) (mN (A 1 6)) 0 (A 28) M (by omega) (fun i' s' h1 h2 h3 => absurd h3 (by omega)) ⟨_, _, _, by rw [va_up_id]; exact hA⟩
  · refine aj.iload_n dX12_order_9 rfl ?_
    refine aj.bipush (v := 10) dX12_order_10 rfl ?_
    refine aj.icmp_lt (tgt := 27) dX12_order_12 rfl (fun c12 => ?_) (fun c12 => ?_)
    · refine aj.ldc dX12_order_27 w1500 ?_
      exact aj.iret rfl dX12_order_29 ⟨by rw [if_neg (fun z => z.elim c6 (fun y => absurd y.1 (by simp only [Int32.lt_iff_toInt_lt, Int32.le_iff_toInt_le] at *; omega)))], mH.of ⟨_, _, _, hA⟩⟩
    · refine aj.aload_n dX12_order_15 rfl ?_
      refine aj.iload_n dX12_order_16 rfl ?_
      refine aj.bipush (v := 10) dX12_order_17 rfl ?_
      refine aj.isub dX12_order_19 ?_
      refine aj.i2l dX12_order_20 ?_
      refine aj.callV1 (d' := 1) (As := [.long (Int32.toInt64 (q - 10))]) (rest := []) dX12_order_21 v_X12_236 li_X12_isShooter hA.1 rfl rfl rfl (Nat.le_of_ble_eq_true rfl) (Nat.le_of_ble_eq_true rfl) (c_isShooter (q - 10) ⟨_, _, _, hA⟩ hB) (fun M hM => ?_)
      obtain ⟨u, v, w, hA⟩ := hM
      refine aj.if_neB (tgt := 30) dX12_order_24 rfl (fun c24 => ?_) (fun c24 => ?_)
      · refine aj.iconst (v := 0) dX12_order_30 rfl ?_
        refine aj.istore_n (lv' := [(2, .int 0), (0, .ref b), (1, .int q)]) dX12_order_31 (Nat.le_of_ble_eq_true rfl) rfl ?_
        refine aj.pick [0, 1, 2] rfl ?_
        have hq : (q = 0 ∨ (10 ≤ q ∧ inR (q - 10) 0 ((mN (A 1 6) : Int) - 1))) := Or.inr ⟨by simp only [Int32.lt_iff_toInt_lt, Int32.le_iff_toInt_le] at *; omega, c24⟩
        rw [if_pos hq]
        exact order_out q hB (fun mo M hmo hM => order_last q hB hq mo hmo M hM) (mN (A 1 6)) 0 (A 28) M (by omega) (fun i' s' h1 h2 h3 => absurd h3 (by omega)) ⟨_, _, _, by rw [va_up_id]; exact hA⟩
      · refine aj.ldc dX12_order_27 w1500 ?_
        exact aj.iret rfl dX12_order_29 ⟨by rw [if_neg (fun z => z.elim c6 (fun y => c24 y.2))], mH.of ⟨_, _, _, hA⟩⟩
