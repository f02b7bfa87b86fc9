theorem z_or (a b : Nat) : nI a ||| nI b = nI (a ||| b) := by
  apply Int32.toBitVec_inj.mp
  show BitVec.ofNat 32 a ||| BitVec.ofNat 32 b = BitVec.ofNat 32 (a ||| b)
  rw [BitVec.ofNat_or]
theorem z_and64 (a b : Nat) : lN a &&& lN b = lN (a &&& b) := by
  apply Int64.toBitVec_inj.mp
  show BitVec.ofNat 64 a &&& BitVec.ofNat 64 b = BitVec.ofNat 64 (a &&& b)
  rw [BitVec.ofNat_and]
theorem z_one : ∀ n : Nat, n < 31 → (1 : Int32) <<< (nI n &&& 31) = nI (2 ^ n) := by decide
def nbits (f : Nat → Prop) [DecidablePred f] : Nat → Nat
  | 0 => 0
  | n + 1 => if f n then nbits f n + 2 ^ n else nbits f n
theorem nbits_s (f : Nat → Prop) [DecidablePred f] (n : Nat) : nbits f (n + 1) = if f n then nbits f n + 2 ^ n else nbits f n := rfl
theorem nbits_lt (f : Nat → Prop) [DecidablePred f] : ∀ n, nbits f n < 2 ^ n
  | 0 => Nat.lt_succ_self 0
  | n + 1 => by
    have := nbits_lt f n
    rw [Nat.pow_succ, nbits_s]
    split <;> omega
theorem nbits_z (f : Nat → Prop) [DecidablePred f] : ∀ {n : Nat}, n ≤ 31 → zbits f n = nI (nbits f n)
  | 0, _ => rfl
  | n + 1, h => by
    rw [zbits_s, nbits_z f (n := n) (by omega), nbits_s]
    split
    · have h1 := nbits_lt f n
      rw [z_one n (by omega), z_or, Nat.or_comm]
      have h2 := Nat.two_pow_add_eq_or_of_lt h1 1
      rw [Nat.mul_one] at h2
      rw [← h2, Nat.add_comm]
    · rfl
theorem nbits_bit (f : Nat → Prop) [DecidablePred f] : ∀ {n k : Nat}, nbits f n / 2 ^ k % 2 = if k < n ∧ f k then 1 else 0
  | 0, k => by
    rw [if_neg (by omega)]
    show 0 / 2 ^ k % 2 = 0
    rw [Nat.zero_div]
  | n + 1, k => by
    have ih := nbits_bit f (n := n) (k := k)
    have hl := nbits_lt f n
    by_cases c : k < n
    · have e : nbits f (n + 1) / 2 ^ k % 2 = nbits f n / 2 ^ k % 2 := by
        rw [nbits_s]
        split
        · obtain ⟨d, rfl⟩ : ∃ d, n = k + 1 + d := ⟨n - k - 1, by omega⟩
          have hp : (2 : Nat) ^ (k + 1 + d) = 2 ^ k * (2 * 2 ^ d) := by rw [Nat.pow_add, Nat.pow_succ, Nat.mul_assoc]
          rw [hp, Nat.add_mul_div_left _ _ (Nat.pow_pos (by decide)), Nat.add_mul_mod_self_left]
        · rfl
      rw [e, ih]
      by_cases q : f k
      · rw [if_pos ⟨c, q⟩, if_pos ⟨by omega, q⟩]
      · rw [if_neg (fun z => q z.2), if_neg (fun z => q z.2)]
    · by_cases c2 : k = n
      · subst c2
        rw [nbits_s]
        split
        · rename_i q
          rw [if_pos ⟨by omega, q⟩, Nat.add_div_right _ (Nat.pow_pos (by decide)), Nat.div_eq_of_lt hl]
        · rename_i q
          rw [if_neg (fun z => q z.2), Nat.div_eq_of_lt hl]
      · rw [if_neg (by omega)]
        have h1 : nbits f (n + 1) < 2 ^ k := Nat.lt_of_lt_of_le (nbits_lt f (n + 1)) (Nat.pow_le_pow_right (by decide) (by omega))
        rw [Nat.div_eq_of_lt h1]
theorem z_shr64 {a d : Nat} {D : Int64} (hD : (D.toBitVec.smod 64).toNat = d) (h : a < 2 ^ 62) : lN a >>> D = lN (a / 2 ^ d) := by
  have hd : a / 2 ^ d ≤ a := Nat.div_le_self _ _
  apply Int64.toInt_inj.mp
  have e : (lN a >>> D).toInt = (lN a).toInt >>> d := by
    rw [← hD]
    exact BitVec.toInt_sshiftRight ..
  rw [e, Int.shiftRight_eq_div_pow, pk_lT (by omega), pk_lT (by omega)]
  rfl
theorem z_sh63 : ∀ k : Nat, k < 32 → (((nI k).toInt64 &&& 63).toBitVec.smod 64).toNat = k := by decide
theorem z_isIn (f : Nat → Prop) [DecidablePred f] {n k : Nat} (hn : n ≤ 30) (hk : k < 32) : ((zbits f n).toInt64 >>> ((nI k).toInt64 &&& 63)) &&& 1 = lN (if k < n ∧ f k then 1 else 0) := by
  have h1 := nbits_lt f n
  have h2 : 2 ^ n ≤ 2 ^ 30 := Nat.pow_le_pow_right (by decide) hn
  rw [nbits_z f (by omega), nI_l (by omega), z_shr64 (z_sh63 k hk) (by omega), show (1 : Int64) = lN 1 from rfl, z_and64]
  congr 1
  rw [show (1 : Nat) = 2 ^ 1 - 1 from rfl, Nat.and_two_pow_sub_one_eq_mod, Nat.pow_one, nbits_bit]
theorem c_isIn {G : zG} {l : Launch} (M : zM) (f : Nat → Prop) [DecidablePred f] (n k : Nat) {x_k : Int32} (e_k : x_k = nI k) (hn : n ≤ 30) (hk : k < 32) : am G l kX12_isIn 0 [.long (zbits f n).toInt64, .int x_k] M 0 0 (zr (.int (zb (k < n ∧ f k))) (fun M' => M' = M)) := by
  subst e_k
  have hi := z_isIn f hn hk
  refine am.of (by decide) (Nat.le_of_ble_eq_true rfl) ?_
  refine aj.lload_n dX12_isIn_0 rfl ?_
  refine aj.iload_n dX12_isIn_1 rfl ?_
  refine aj.lshr dX12_isIn_2 ?_
  refine aj.lconst (v := 1) dX12_isIn_3 rfl ?_
  refine aj.land dX12_isIn_4 ?_
  refine aj.lconst (v := 1) dX12_isIn_5 rfl ?_
  refine aj.lif_ne (tgt := 14) dX12_isIn_6 dX12_isIn_7 rfl (fun c6 => ?_) (fun c6 => ?_)
  · refine aj.iconst (v := 0) dX12_isIn_14 rfl ?_
    exact aj.zret (ty := .boolean) rfl rfl dX12_isIn_15 ⟨by rw [zb_f (fun z => c6 (by rw [hi, if_pos z]; rfl))], rfl⟩
  · refine aj.iconst (v := 1) dX12_isIn_10 rfl ?_
    refine aj.goto (tgt := 15) dX12_isIn_11 rfl ?_
    exact aj.zret (ty := .boolean) rfl rfl dX12_isIn_15 ⟨by rw [zb_t (Classical.byContradiction fun z => by rw [hi, if_neg z] at c6; exact absurd c6 (by decide))], rfl⟩
/-- places where shots by n lots can land, as bits -/
def mPls (B : Nat → Int32) (sl : Option (List Nat)) (s aim : Nat) : Nat → Int32
  | 0 => 0
  | n + 1 => mPls B sl s aim n ||| (1 <<< (nI (mLn B sl s aim n) &&& 31))
theorem placesOf_loop {G : zG} {l : Launch} {b : Nat} {M0 : zM} {I : Nat → Int32} {A : Nat → Nat → Int32} {L : Nat → Nat → Int64} (s : Nat) {x_s : Int32} (e_s : x_s = nI s) (aim : Nat) {x_aim : Int32} (e_aim : x_aim = nI aim) {sl ol : Option (List Nat)} {T : Nat} (hB : mOK (A 1) sl ol T) (hs : s < 4) (haim : aim ≤ 20) : ∀ (n i : Nat) (acc : Int32) (M : zM), i + n = 10 → acc = mPls (A 1) sl s aim i → mW b M0 M I A L → aj G l kX12_placesOf 4 5 [(4, .int (nI i)), (3, .int acc), (0, .ref b), (1, .int x_s), (2, .int x_aim)] [] M 0 0 (zr (.int (mPls (A 1) sl s aim 10)) (fun M' => mW b M0 M' I A L)) := by
  have hT := hB.2.2.2.2.2.2.2.2.1
  have hN6 := hB.2.2.1.2
  have hN25 := hB.2.2.2.2.2.1.2
  have hN26 := hB.2.2.2.2.2.2.1.2
  have hN27 := hB.2.2.2.2.2.2.2.1.2
  have hN1 := hB.1.1.2
  have hN2 := hB.1.2.1.2
  intro n
  induction n with
  | zero =>
    intro i acc M hin hacc hM
    obtain ⟨u, v, w, hA⟩ := hM
    refine aj.iload dX12_placesOf_5 rfl ?_
    refine aj.bipush (v := 10) dX12_placesOf_7 rfl ?_
    refine aj.icmp_geN (a := i) (b := 10) (tgt := 31) dX12_placesOf_9 rfl rfl (by omega) (by omega) rfl (fun c9 => ?_) (fun c9 => ?_)
    · refine aj.iload_n dX12_placesOf_31 rfl ?_
      exact aj.iret rfl dX12_placesOf_32 ⟨by rw [hacc, show i = 10 by omega], _, _, _, hA⟩
    · exact absurd c9 (by omega)
  | succ n ih =>
    intro i acc M hin hacc hM
    obtain ⟨u, v, w, hA⟩ := hM
    refine aj.iload dX12_placesOf_5 rfl ?_
    refine aj.bipush (v := 10) dX12_placesOf_7 rfl ?_
    refine aj.icmp_geN (a := i) (b := 10) (tgt := 31) dX12_placesOf_9 rfl rfl (by omega) (by omega) rfl (fun c9 => ?_) (fun c9 => ?_)
    · exact absurd c9 (by omega)
    · refine aj.iload_n dX12_placesOf_12 rfl ?_
      refine aj.iconst (v := 1) dX12_placesOf_13 rfl ?_
      refine aj.aload_n dX12_placesOf_14 rfl ?_
      refine aj.iload_n dX12_placesOf_15 rfl ?_
      refine aj.iload_n dX12_placesOf_16 rfl ?_
      refine aj.iload dX12_placesOf_17 rfl ?_
      refine aj.callV1 (d' := 3) (As := [.int x_s, .int x_aim, .int (nI i)]) (rest := [.int 1, .int acc]) dX12_placesOf_19 v_X12_247 li_X12_landsNow hA.1 rfl rfl rfl (Nat.le_of_ble_eq_true rfl) (Nat.le_of_ble_eq_true rfl) (c_landsNow s e_s aim e_aim i rfl ⟨_, _, _, hA⟩ hB (by omega) (by omega) (by omega)) (fun M hM => ?_)
      obtain ⟨u, v, w, hA⟩ := hM
      refine aj.ishl dX12_placesOf_22 ?_
      refine aj.ior dX12_placesOf_23 ?_
      refine aj.istore_n (lv' := [(3, .int (acc ||| (1 <<< ((nI (mLand sl (A 1 (13 + s)) (mN (A 1 (21 + s))) (mN (A 1 26)) aim i)) &&& 31)))), (4, .int (nI i)), (0, .ref b), (1, .int x_s), (2, .int x_aim)]) dX12_placesOf_24 (Nat.le_of_ble_eq_true rfl) rfl ?_
      refine aj.iincN (a := i) (c := 1) (lv' := [(4, .int (nI (i + 1))), (3, .int (acc ||| (1 <<< ((nI (mLand sl (A 1 (13 + s)) (mN (A 1 (21 + s))) (mN (A 1 26)) aim i)) &&& 31)))), (0, .ref b), (1, .int x_s), (2, .int x_aim)]) dX12_placesOf_25 rfl (Nat.le_of_ble_eq_true rfl) rfl rfl rfl ?_
      refine aj.goto (tgt := 5) dX12_placesOf_28 rfl ?_
      refine aj.pick [0, 1, 2, 3, 4] rfl ?_
      exact ih (i + 1) _ M (by omega) (by rw [hacc]; rfl) ⟨_, _, _, hA⟩
theorem c_placesOf {G : zG} {l : Launch} {b : Nat} {M0 M : zM} {I : Nat → Int32} {A : Nat → Nat → Int32} {L : Nat → Nat → Int64} (s : Nat) {x_s : Int32} (e_s : x_s = nI s) (aim : Nat) {x_aim : Int32} (e_aim : x_aim = nI aim) {sl ol : Option (List Nat)} {T : Nat}  (hM : mW b M0 M I A L) (hB : mOK (A 1) sl ol T) (hs : s < 4) (haim : aim ≤ 20) : am G l kX12_placesOf 4 [.ref b, .int x_s, .int x_aim] M 0 0 (zr (.int (mPls (A 1) sl s aim 10)) (fun M' => mW b M0 M' I A L)) := by
  subst e_s
  subst e_aim
  obtain ⟨u, v, w, hA⟩ := hM
  refine am.of (by decide) (Nat.le_of_ble_eq_true rfl) ?_
  refine aj.iconst (v := 0) dX12_placesOf_0 rfl ?_
  refine aj.istore_n (lv' := [(3, .int 0), (0, .ref b), (1, .int (nI s)), (2, .int (nI aim))]) dX12_placesOf_1 (Nat.le_of_ble_eq_true rfl) rfl ?_
  refine aj.iconst (v := 0) dX12_placesOf_2 rfl ?_
  refine aj.istore (lv' := [(4, .int 0), (3, .int 0), (0, .ref b), (1, .int (nI s)), (2, .int (nI aim))]) dX12_placesOf_3 (Nat.le_of_ble_eq_true rfl) rfl ?_
  refine aj.pick [0, 1, 2, 3, 4] rfl ?_
  exact placesOf_loop s rfl aim rfl hB hs haim 10 0 0 M (by omega) rfl ⟨_, _, _, hA⟩
theorem mSeenC_0 {A : Nat → Nat → Int32} {L : Nat → Nat → Int64} {t aim : Int32} (h : mSeenC A L t aim = 0) : inR t 0 3 ∧ inR aim 0 20 ∧ ¬ A 32 (mN t) = -1 ∧ inR (A 33 (mN t)) 1 8 ∧ zfirst (seenBad L (mN t)) (mN (A 33 (mN t))) 0 = none := by
  unfold mSeenC at h
  split at h
  · rename_i q
    split at h
    · exact absurd h (by decide)
    · rename_i q2
      split at h
      · rename_i q3
        split at h
        · rename_i q4
          exact ⟨q.1, q.2, q2, q3, q4⟩
        · exact absurd h (by decide)
      · exact absurd h (by decide)
  · exact absurd h (by decide)
theorem q_shooters {G : zG} {l : Launch} {b : Nat} {M0 M : zM} {I : Nat → Int32} {A : Nat → Nat → Int32} {L : Nat → Nat → Int64} (t : Int32) (aim : Int32) (hM : mW b M0 M I A L) (hTr : ∀ j, j < 4 → bd (A 33 j) 40) {sl ol : Option (List Nat)} {T : Nat} (hB : mOK (A 1) sl ol T) : am G l kX12_shooters 7 [.ref b, .int t, .int aim] M 0 0 (zr (.int (if mSeenC A L t aim = 0 then zbits (fun s => 0 < mWays (A 1) sl L (mN t) s (mN aim) (mN (A 33 (mN t)))) (mN (A 1 6)) else mSeenC A L t aim)) (fun M' => mV b M0 M' I A L)) := by
  obtain ⟨u, v, w, hA⟩ := hM
  refine am.of (by decide) (Nat.le_of_ble_eq_true rfl) ?_
  refine aj.aload_n dX12_shooters_0 rfl ?_
  refine aj.iconst (v := 0) dX12_shooters_1 rfl ?_
  refine pM0 rfl dX12_shooters_2 hA (fun M hA => ?_)
  refine aj.aload_n dX12_shooters_5 rfl ?_
  refine aj.iload_n dX12_shooters_6 rfl ?_
  refine aj.iload_n dX12_shooters_7 rfl ?_
  refine aj.callV1 (d' := 2) (As := [.int t, .int aim]) (rest := []) dX12_shooters_8 v_X12_383 li_X12_noSeen hA.1 rfl rfl rfl (Nat.le_of_ble_eq_true rfl) (Nat.le_of_ble_eq_true rfl) (q_noSeen t aim ⟨_, _, _, hA⟩ hTr hB) (fun M hM => ?_)
  obtain ⟨u, v, w, hA⟩ := hM
  refine aj.istore_n (lv' := [(3, .int (mSeenC A L t aim)), (0, .ref b), (1, .int t), (2, .int aim)]) dX12_shooters_11 (Nat.le_of_ble_eq_true rfl) rfl ?_
  refine aj.iload_n dX12_shooters_12 rfl ?_
  refine aj.if_eq (tgt := 20) dX12_shooters_13 rfl (fun c13 => ?_) (fun c13 => ?_)
  · obtain ⟨k1, k2, k3, k4, k5⟩ := mSeenC_0 c13
    have h_t := inR_bd (n := 3) k1 (by decide)
    have h2_t := h_t.2
    have h_aim := inR_bd (n := 20) k2 (by decide)
    have h2_aim := h_aim.2
    have hok := seenOK_of (inR_bd1 (n := 8) k4 (by decide)).2.1 k5
    refine aj.aload_n dX12_shooters_20 rfl ?_
    refine aj.iload_n dX12_shooters_21 rfl ?_
    refine aj.iload_n dX12_shooters_22 rfl ?_
    refine aj.callV1 (d' := 6) (As := [.int t, .int aim]) (rest := []) dX12_shooters_23 v_X12_386 li_X12_shootersOf hA.1 rfl rfl rfl (Nat.le_of_ble_eq_true rfl) (Nat.le_of_ble_eq_true rfl) (c_shootersOf (mN t) h_t.1 (mN aim) h_aim.1 (mN (A 33 (mN t))) (mV.of ⟨_, _, _, hA⟩) hB (by omega) (by omega) (hTr (mN t) (by omega)).1 hok) (fun M hM => ?_)
    obtain ⟨g, u, v, w, hA⟩ := hM
    exact aj.iret rfl dX12_shooters_26 ⟨by rw [if_pos c13], _, _, _, _, hA⟩
  · refine aj.iload_n dX12_shooters_16 rfl ?_
    refine aj.goto (tgt := 26) dX12_shooters_17 rfl ?_
    exact aj.iret rfl dX12_shooters_26 ⟨by rw [if_neg c13], mV.of ⟨_, _, _, hA⟩⟩
