theorem mLand_min (sl : Option (List Nat)) (sh : Int32) (x wd aim lot : Nat) : mLand sl sh (min 9 x) wd aim lot = mLand sl sh x wd aim lot := by
  unfold mLand mStray
  cases sl with
  | none => rfl
  | some cs =>
    have e : wS wd lot sh (min 9 x) aim = wS wd lot sh x aim := by
      unfold wS
      rw [show min (min 9 x) 9 = min x 9 by omega]
    show mN (mKept (nI aim + mKept ((lwRun (wS wd lot sh (min 9 x) aim) cs []).headD 0) (-9) 9) 0 20) = _
    rw [e]
theorem isum_T {f : Nat → Int32} (h : ∀ k, -99 ≤ (f k).toInt ∧ (f k).toInt ≤ 99) : ∀ n : Nat, n ≤ 10 → isum (fun k => (f k).toInt) n = (zsum f n).toInt ∧ -(99 * n : Int) ≤ (zsum f n).toInt ∧ (zsum f n).toInt ≤ 99 * n
  | 0, _ => ⟨rfl, by show -(99 * ((0 : Nat) : Int)) ≤ (0 : Int32).toInt; decide, by show (0 : Int32).toInt ≤ 99 * ((0 : Nat) : Int); decide⟩
  | n + 1, hn => by
    obtain ⟨h1, h2, h3⟩ := isum_T h n (by omega)
    have h4 := h n
    have e : (zsum f (n + 1)).toInt = (zsum f n).toInt + (f n).toInt := by
      rw [zsum_s, Int32.toInt_add]
      exact Int.bmod_eq_of_le (by omega) (by omega)
    rw [isum_s, h1, e]
    exact ⟨rfl, by omega, by omega⟩
theorem zcnt_and {op : Prop} [Decidable op] {f : Nat → Prop} [DecidablePred f] : ∀ n, zcnt (fun k => op ∧ f k) n = if op then zcnt f n else 0
  | 0 => by split <;> rfl
  | n + 1 => by
    rw [zcnt_s, zcnt_and n]
    by_cases h : op
    · rw [if_pos h, if_pos h, zcnt_s]
      congr 1
      by_cases q : f n
      · rw [if_pos ⟨h, q⟩, if_pos q]
      · rw [if_neg (fun z => q z.2), if_neg q]
    · rw [if_neg h, if_neg h, if_neg (fun z => h z.1)]
theorem RF_of {B : Nat → Int32} {sl ol : Option (List Nat)} {T : Nat} (hB : mOK B sl ol T) {R : Nat → Nat → Nat → Int} {k s age mi hu j : Nat} (hj : j < 21) : mRB B sl ol R k s age mi hu j = (zsum (fun lot => mScore B (nI (mLand sl (B (13 + s)) (min 9 age) (mN (B 26)) j lot)) (mOpen ol (mN (B 26)) mi hu = true)) 10).toInt * 10 ^ k + (10 - (zcnt (fun lot => mFar B (nI (mLand sl (B (13 + s)) (min 9 age) (mN (B 26)) j lot)) = 0) 10 : Int)) * R (age + 1) (mi + 1) hu + (zcnt (fun lot => mFar B (nI (mLand sl (B (13 + s)) (min 9 age) (mN (B 26)) j lot)) = 0) 10 : Int) * (if mOpen ol (mN (B 26)) mi hu = true then R (age + 1) (mi + 1) (hu + 1) else R (age + 1) (mi + 1) hu) := by
  unfold mRB
  rw [if_neg (by omega)]
  simp only [mLand_min]
  have e1 := (isum_T (f := fun lot => mScore B (nI (mLand sl (B (13 + s)) age (mN (B 26)) j lot)) (mOpen ol (mN (B 26)) mi hu = true)) (fun i => by
    obtain ⟨q1, q2, q3⟩ := mScore_bd (n := mLand sl (B (13 + s)) age (mN (B 26)) j i) hB (mLand_le _ _ _ _ _ _) (mOpen ol (mN (B 26)) mi hu = true)
    exact ⟨q1, q2⟩) 10 (by decide)).1
  rw [e1, zcnt_and]
  by_cases h : mOpen ol (mN (B 26)) mi hu = true
  · rw [if_pos h, if_pos h]
  · rw [if_neg h, if_neg h]
    generalize R (age + 1) (mi + 1) hu = x
    generalize (zcnt (fun lot => mFar B (nI (mLand sl (B (13 + s)) age (mN (B 26)) j lot)) = 0) 10 : Int) = z
    simp only [Int.sub_mul, Int.natCast_zero, Int.zero_mul, Int.add_zero]
    generalize z * x = w
    omega
def rpE (V V1 : Nat → Nat → Int32) : Prop := ∀ q, q ≠ 50 → q ≠ 51 → q ≠ 54 → q < 71 → V1 q = V q
theorem rp_v {V V1 V0 : Nat → Nat → Int32} (hE : rpE V V1) (hv : ∀ i, ¬ sc i → V i = V0 i) : ∀ i, ¬ sc i → V1 i = V0 i := fun i hi => by
  rw [hE i (fun e => hi (by subst e; decide)) (fun e => hi (by subst e; decide)) (fun e => hi (by subst e; decide)) (Nat.not_le.mp (fun e => hi (by unfold sc; omega)))]
  exact hv i hi
theorem rp_w {W W1 W0 : Nat → Nat → Int64} (hE : ∀ q, q ≠ 54 → q ≠ 55 → W1 q = W q) (hw : ∀ i, ¬ sc i → W i = W0 i) : ∀ i, ¬ sc i → W1 i = W0 i := fun i hi => by
  rw [hE i (fun e => hi (by subst e; decide)) (fun e => hi (by subst e; decide))]
  exact hw i hi
/-- the tables of so many ages -/
def tbR (B : Nat → Int32) (sl : Option (List Nat)) (s n : Nat) (V : Nat → Nat → Int32) : Prop := ∀ o, o < n → tbF B sl (B (13 + s)) (min 9 (mN (B (21 + s)) + o)) (mN (B 26)) V (71 + 4 * o)
theorem tbR.of {B : Nat → Int32} {sl : Option (List Nat)} {s n : Nat} {V V1 : Nat → Nat → Int32} (h : tbR B sl s n V) (e : ∀ q, 71 ≤ q → V1 q = V q) : tbR B sl s n V1 := fun o ho => by
  unfold tbF
  rw [e _ (by omega), e _ (by omega), e _ (by omega)]
  exact h o ho
def rpV (B : Nat → Int32) (sl ol : Option (List Nat)) (s n t x y : Nat) : Int := mR B sl ol s (n - t) (mN (B (21 + s)) + x) (mN (B 27) + t) (mN (B 25) + y)
/-- a turn settled up to here -/
def rpI (B : Nat → Int32) (sl ol : Option (List Nat)) (s n t o h : Nat) (W : Nat → Nat → Int64) : Prop := W 54 0 = lI (10 ^ (n - (t + 1))) ∧ ∀ x y, y ≤ x → x ≤ t + 1 → W 55 (x * 6 + y) = lI (if x ≤ t ∧ (x < o ∨ (x = o ∧ y < h)) then rpV B sl ol s n t x y else rpV B sl ol s n (t + 1) x y)
/-- what the latest settled began with -/
def rpF (B : Nat → Int32) (sl ol : Option (List Nat)) (s n t : Nat) (V : Nat → Nat → Int32) : Prop := V 54 0 = nI (mBeg (rF B sl ol s (n - (t + 1)) (mN (B (21 + s)) + t) (mN (B 27) + t) (mN (B 25) + t)) (rpV B sl ol s n t t t))
theorem play_h {G : zG} {l : Launch} {a : Nat} {M0 : zM} {V : Nat → Nat → Int32} {W : Nat → Nat → Int64} {R : Nat → Nat → Option Nat} {V0 : Nat → Nat → Int32} {T : Nat} {B : Nat → Int32} {sl ol : Option (List Nat)} {Tm : Nat} (s : Nat) {x_s : Int32} (e_s : x_s = nI s) (n : Nat) {x_n : Int32} (e_n : x_n = nI n) (hs4 : s < 4) (hn4 : n ≤ 4) (hH : cH a M0 V0 R T B sl ol Tm) (hv : ∀ i, ¬ sc i → V i = V0 i) {Q : Option Value → zM → Prop} {t o : Nat} (ht : t < n) (ho : o ≤ t) (hk : ∀ (V1 : Nat → Nat → Int32) (W1 : Nat → Nat → Int64) (M : zM), tbR B sl s n V1 → rpE V V1 → (∀ q, q ≠ 54 → q ≠ 55 → W1 q = W q) → rpI B sl ol s n t o (o + 1) W1 → V1 54 0 = nI (mBeg (rF B sl ol s (n - (t + 1)) (mN (B (21 + s)) + o) (mN (B 27) + t) (mN (B 25) + o)) (rpV B sl ol s n t o o)) → kA a M0 M V1 W1 R → aj G l kX11_playRound 6 189 [(4, .int (nI o)), (3, .int (nI t)), (0, .ref a), (1, .int x_s), (2, .int x_n)] [] M 0 0 Q) : ∀ (m h : Nat) (V1 : Nat → Nat → Int32) (W1 : Nat → Nat → Int64) (M : zM), h + m = o + 1 → tbR B sl s n V1 → rpE V V1 → (∀ q, q ≠ 54 → q ≠ 55 → W1 q = W q) → rpI B sl ol s n t o h W1 → (h = 0 ∨ V1 54 0 = nI (mBeg (rF B sl ol s (n - (t + 1)) (mN (B (21 + s)) + o) (mN (B 27) + t) (mN (B 25) + (h - 1))) (rpV B sl ol s n t o (h - 1)))) → kA a M0 M V1 W1 R → aj G l kX11_playRound 6 110 [(5, .int (nI h)), (4, .int (nI o)), (3, .int (nI t)), (0, .ref a), (1, .int x_s), (2, .int x_n)] [] M 0 0 Q := by
  obtain ⟨hT, hb, hS, hB⟩ := id hH
  have hd0 := (dLaw_of hB).1
  have hd1 := (dLaw_of hB).2
  have h25 := hB.2.2.2.2.2.1
  have h26 := hB.2.2.2.2.2.2.1
  have h27 := hB.2.2.2.2.2.2.2.1
  have h6 := hB.2.2.1
  have hag := hB.2.2.2.2.1
  have hTm := hB.2.2.2.2.2.2.2.2.1
  have h25b := h25.2
  have h26b := h26.2
  have h27b := h27.2
  have h6b := h6.2
  have hks := kTb_j o (by omega)
  intro m
  induction m with
  | zero =>
    intro h V1 W1 M hin hTb hE hEW hI hfs hA
    refine aj.iload dX11_playRound_110 rfl ?_
    refine aj.iload dX11_playRound_112 rfl ?_
    refine aj.icmp_gtN (a := h) (b := o) (tgt := 189) dX11_playRound_114 rfl rfl (by omega) (by omega) rfl (fun c114 => ?_) (fun c114 => ?_)
    · have hho : h = o + 1 := by omega
      refine aj.pick [1, 2, 3, 4, 5] rfl ?_
      rw [hho] at hI hfs
      exact hk V1 W1 M hTb hE hEW hI (by rcases hfs with z | z; (exact absurd z (by omega)); (rw [Nat.add_sub_cancel] at z; exact z)) hA
    · exact absurd c114 (by omega)
  | succ m ih =>
    intro h V1 W1 M hin hTb hE hEW hI hfs hA
    have hv1 := rp_v hE hv
    refine aj.iload dX11_playRound_110 rfl ?_
    refine aj.iload dX11_playRound_112 rfl ?_
    refine aj.icmp_gtN (a := h) (b := o) (tgt := 189) dX11_playRound_114 rfl rfl (by omega) (by omega) rfl (fun c114 => ?_) (fun c114 => ?_)
    · exact absurd c114 (by omega)
    · refine aj.aload_n dX11_playRound_117 rfl ?_
      refine gX11_range (i := 0) rfl hA w385 dX11_playRound_118 ?_
      refine aj.aload_n dX11_playRound_121 rfl ?_
      refine gT hT hA w378 dX11_playRound_122 ?_
      refine aj.aload_n dX11_playRound_125 rfl ?_
      refine gX11_now (i := 0) rfl hA w379 dX11_playRound_126 ?_
      refine gX7_minute (i := 8) rfl hA w271 dX11_playRound_129 ?_
      refine aj.iload_n dX11_playRound_132 rfl ?_
      refine aj.iaddN (a := mN (B 27)) (b := t) dX11_playRound_133 ((congrFun (hv1 8 (by decide)) 2).trans (hS.2.2.2.2.trans h27.1)) rfl ?_
      refine aj.aload_n dX11_playRound_134 rfl ?_
      refine gX11_now (i := 0) rfl hA w379 dX11_playRound_135 ?_
      refine gX7_hurt (i := 8) rfl hA w267 dX11_playRound_138 ?_
      refine aj.iload dX11_playRound_141 rfl ?_
      refine aj.iaddN (a := mN (B 25)) (b := h) dX11_playRound_143 ((congrFun (hv1 8 (by decide)) 0).trans (hS.2.2.1.trans h25.1)) rfl ?_
      refine aj.aload_n dX11_playRound_144 rfl ?_
      refine gX11_now (i := 0) rfl hA w379 dX11_playRound_145 ?_
      refine gX7_wind (i := 8) rfl hA w269 dX11_playRound_148 ?_
      refine aj.callE1 (d' := 2) (As := [.ref T, .int (nI ((mN (B 27)) + t)), .int (nI ((mN (B 25)) + h)), .int (V1 8 1)]) (rest := []) dX11_playRound_151 v_X11_377 li_X4_isEyeOpen ⟨_, hA.ob (i := 49) rfl (by decide)⟩ rfl rfl rfl (Nat.le_of_ble_eq_true rfl) (Nat.le_of_ble_eq_true rfl) (k_eye ((mN (B 27)) + t) rfl ((mN (B 25)) + h) rfl (mN (B 26)) (((congrFun (hv1 8 (by decide)) 1).trans (hS.2.2.2.1.trans h26.1))) (by omega) (by omega) hb hd1 hA) (fun M hM => ?_)
      obtain ⟨v1, v2, hA⟩ := hM
      refine aj.istore (lv' := [(6, .int (zb (mOpen ol (mN (B 26)) ((mN (B 27)) + t) ((mN (B 25)) + h) = true))), (5, .int (nI h)), (4, .int (nI o)), (3, .int (nI t)), (0, .ref a), (1, .int x_s), (2, .int x_n)]) dX11_playRound_154 (Nat.le_of_ble_eq_true rfl) rfl ?_
      refine aj.aload_n dX11_playRound_156 rfl ?_
      refine gX11_roundPlay (i := 0) rfl hA w388 dX11_playRound_157 ?_
      refine aj.aload_n dX11_playRound_160 rfl ?_
      refine gX11_tables (i := 0) rfl hA w386 dX11_playRound_161 ?_
      refine aj.iload dX11_playRound_164 rfl ?_
      refine aj.kR70 (j := o) rfl dX11_playRound_166 hA rfl (by omega) (by decide) ?_
      refine aj.iload dX11_playRound_167 rfl ?_
      refine aj.iload dX11_playRound_169 rfl ?_
      refine aj.iload dX11_playRound_171 rfl ?_
      refine aj.aload_n dX11_playRound_173 rfl ?_
      refine gT hT hA w378 dX11_playRound_174 ?_
      refine gB_cost (hA.bw hb) w217 dX11_playRound_177 ?_
      refine aj.callE0 (d' := 2) (As := [.ref (a + (71 + 4 * o)), .int (nI o), .int (nI h), .int (zb (mOpen ol (mN (B 26)) ((mN (B 27)) + t) ((mN (B 25)) + h) = true)), .int (B 5)]) (rest := []) dX11_playRound_180 v_X11_403 li_X6_settle ⟨_, hA.ob (i := 54) rfl (by decide)⟩ rfl rfl rfl (Nat.le_of_ble_eq_true rfl) (Nat.le_of_ble_eq_true rfl) (k_settle (B := B) (sl := sl) (sh := B (13 + s)) (age := min 9 (mN (B (21 + s)) + o)) (wd := mN (B 26)) o rfl h rfl (by omega) (by omega) (mOpen ol (mN (B 26)) (mN (B 27) + t) (mN (B 25) + h) = true) (F := rF B sl ol s (n - (t + 1)) (mN (B (21 + s)) + o) (mN (B 27) + t) (mN (B 25) + h)) (k := n - (t + 1)) (m0 := rpV B sl ol s n (t + 1) o h) (m1 := rpV B sl ol s n (t + 1) (o + 1) h) (m2 := rpV B sl ol s n (t + 1) (o + 1) (h + 1)) (tbF_N (hTb o (by omega)) (V' := va_up (va_up V1 50 v1) 51 v2) (fun q q0 q1 => by rw [va_up_ne _ _ q1, va_up_ne _ _ q0]) (by omega)) hI.1 ((hI.2 o h (by omega) (by omega)).trans (by rw [if_neg (by omega)])) ((hI.2 (o + 1) h (by omega) (by omega)).trans (by rw [if_neg (by omega)])) ((hI.2 (o + 1) (h + 1) (by omega) (by omega)).trans (by rw [if_neg (by omega)])) (fun j hj => (RF_of hB hj).trans rfl) (if_pos rfl) (fun j => rF_bd hB (by omega) j) hA) (fun M hM => ?_)
      obtain ⟨r, hA, hr⟩ := hM
      refine aj.iincN (a := h) (c := 1) (lv' := [(5, .int (nI (h + 1))), (6, .int (zb (mOpen ol (mN (B 26)) ((mN (B 27)) + t) ((mN (B 25)) + h) = true))), (4, .int (nI o)), (3, .int (nI t)), (0, .ref a), (1, .int x_s), (2, .int x_n)]) dX11_playRound_183 rfl (Nat.le_of_ble_eq_true rfl) rfl rfl rfl ?_
      refine aj.goto (tgt := 110) dX11_playRound_186 rfl ?_
      have hmr : imx (rF B sl ol s (n - (t + 1)) (mN (B (21 + s)) + o) (mN (B 27) + t) (mN (B 25) + h)) (rF B sl ol s (n - (t + 1)) (mN (B (21 + s)) + o) (mN (B 27) + t) (mN (B 25) + h) 21) 21 = rpV B sl ol s n t o h := by
        unfold rpV
        rw [show n - t = (n - (t + 1)) + 1 by omega, mR_s]
      rw [hmr] at hA hr
      refine aj.pick [0, 2, 3, 4, 5, 6] rfl ?_
      refine ih (h + 1) _ _ M (by omega) (hTb.of (fun q hq => by rw [va_up_ne _ _ (by omega), va_up_ne _ _ (by omega), va_up_ne _ _ (by omega)])) (fun q q0 q1 q4 q7 => by rw [va_up_ne _ _ q4, va_up_ne _ _ q1, va_up_ne _ _ q0]; exact hE q q0 q1 q4 q7) (fun q q4 q5 => by rw [va_up_ne _ _ q5]; exact hEW q q4 q5) ⟨by rw [va_up_ne _ _ (by decide)]; exact hI.1, fun x y hy hx => ?_⟩ (Or.inr (by rw [va_up_self, Nat.add_sub_cancel]; exact hr)) hA
      rw [va_up_self]
      unfold vp_updL
      by_cases e : x = o ∧ y = h
      · rw [if_pos (by rw [e.1, e.2]), if_pos ⟨by omega, by omega⟩, e.1, e.2]
      · rw [if_neg (by omega), hI.2 x y hy hx]
        congr 1
        by_cases q : x ≤ t ∧ (x < o ∨ (x = o ∧ y < h))
        · rw [if_pos q, if_pos (by omega)]
        · rw [if_neg q, if_neg (by omega)]
theorem play_o {G : zG} {l : Launch} {a : Nat} {M0 : zM} {V : Nat → Nat → Int32} {W : Nat → Nat → Int64} {R : Nat → Nat → Option Nat} {V0 : Nat → Nat → Int32} {T : Nat} {B : Nat → Int32} {sl ol : Option (List Nat)} {Tm : Nat} (s : Nat) {x_s : Int32} (e_s : x_s = nI s) (n : Nat) {x_n : Int32} (e_n : x_n = nI n) (hs4 : s < 4) (hn4 : n ≤ 4) (hH : cH a M0 V0 R T B sl ol Tm) (hv : ∀ i, ¬ sc i → V i = V0 i) {Q : Option Value → zM → Prop} {t : Nat} (ht : t < n) (hk : ∀ (V1 : Nat → Nat → Int32) (W1 : Nat → Nat → Int64) (M : zM), tbR B sl s n V1 → rpE V V1 → (∀ q, q ≠ 54 → q ≠ 55 → W1 q = W q) → rpI B sl ol s n t (t + 1) 0 W1 → rpF B sl ol s n t V1 → kA a M0 M V1 W1 R → aj G l kX11_playRound 6 195 [(3, .int (nI t)), (0, .ref a), (1, .int x_s), (2, .int x_n)] [] M 0 0 Q) : ∀ (m o : Nat) (V1 : Nat → Nat → Int32) (W1 : Nat → Nat → Int64) (M : zM), o + m = t + 1 → tbR B sl s n V1 → rpE V V1 → (∀ q, q ≠ 54 → q ≠ 55 → W1 q = W q) → rpI B sl ol s n t o 0 W1 → (o ≤ t ∨ rpF B sl ol s n t V1) → kA a M0 M V1 W1 R → aj G l kX11_playRound 6 91 [(4, .int (nI o)), (3, .int (nI t)), (0, .ref a), (1, .int x_s), (2, .int x_n)] [] M 0 0 Q := by
  intro m
  induction m with
  | zero =>
    intro o V1 W1 M hin hTb hE hEW hI hfs hA
    refine aj.iload dX11_playRound_91 rfl ?_
    refine aj.iload_n dX11_playRound_93 rfl ?_
    refine aj.icmp_gtN (a := o) (b := t) (tgt := 195) dX11_playRound_94 rfl rfl (by omega) (by omega) rfl (fun c94 => ?_) (fun c94 => ?_)
    · have hot : o = t + 1 := by omega
      refine aj.pick [1, 2, 3, 4] rfl ?_
      rw [hot] at hI
      exact hk V1 W1 M hTb hE hEW hI (by rcases hfs with z | z; (exact absurd z (by omega)); exact z) hA
    · exact absurd c94 (by omega)
  | succ m ih =>
    intro o V1 W1 M hin hTb hE hEW hI hfs hA
    refine aj.iload dX11_playRound_91 rfl ?_
    refine aj.iload_n dX11_playRound_93 rfl ?_
    refine aj.icmp_gtN (a := o) (b := t) (tgt := 195) dX11_playRound_94 rfl rfl (by omega) (by omega) rfl (fun c94 => ?_) (fun c94 => ?_)
    · exact absurd c94 (by omega)
    · refine aj.iload dX11_playRound_97 rfl ?_
      refine aj.aload_n dX11_playRound_99 rfl ?_
      refine gX11_tables (i := 0) rfl hA w386 dX11_playRound_100 ?_
      refine aj.kN (i := 52) (n := 4) (v := nI 4) rfl (by decide) (by decide) dX11_playRound_103 hA rfl ?_
      refine aj.icmp_geN (a := o) (b := 4) (tgt := 195) dX11_playRound_104 rfl rfl (by omega) (by omega) rfl (fun c104 => ?_) (fun c104 => ?_)
      · exact absurd c104 (by omega)
      · refine aj.iconst (v := 0) dX11_playRound_107 rfl ?_
        refine aj.istore (lv' := [(5, .int 0), (4, .int (nI o)), (3, .int (nI t)), (0, .ref a), (1, .int x_s), (2, .int x_n)]) dX11_playRound_108 (Nat.le_of_ble_eq_true rfl) rfl ?_
        refine aj.pick [0, 1, 2, 3, 4, 5] rfl ?_
        refine play_h s e_s n e_n hs4 hn4 hH hv ht (o := o) (by omega) (fun V2 W2 M hTb hE hEW hI hfs hA => ?_) (o + 1) 0 V1 W1 M (by omega) hTb hE hEW hI (Or.inl rfl) hA
        refine aj.iincN (a := o) (c := 1) (lv' := [(4, .int (nI (o + 1))), (3, .int (nI t)), (0, .ref a), (1, .int x_s), (2, .int x_n)]) dX11_playRound_189 rfl (Nat.le_of_ble_eq_true rfl) rfl rfl rfl ?_
        refine aj.goto (tgt := 91) dX11_playRound_192 rfl ?_
        refine aj.pick [0, 1, 2, 3, 4] rfl ?_
        refine ih (o + 1) V2 W2 M (by omega) hTb hE hEW ⟨hI.1, fun x y hy hx => ?_⟩ ?_ hA
        · rw [hI.2 x y hy hx]
          congr 1
          by_cases q : x ≤ t ∧ (x < o ∨ (x = o ∧ y < o + 1))
          · rw [if_pos q, if_pos (by omega)]
          · rw [if_neg q, if_neg (by omega)]
        · by_cases q : o + 1 ≤ t
          · exact Or.inl q
          · have hot : o = t := by omega
            rw [hot] at hfs
            exact Or.inr hfs
theorem play_t {G : zG} {l : Launch} {a : Nat} {M0 : zM} {V : Nat → Nat → Int32} {W : Nat → Nat → Int64} {R : Nat → Nat → Option Nat} {V0 : Nat → Nat → Int32} {T : Nat} {B : Nat → Int32} {sl ol : Option (List Nat)} {Tm : Nat} (s : Nat) {x_s : Int32} (e_s : x_s = nI s) (n : Nat) {x_n : Int32} (e_n : x_n = nI n) (hs4 : s < 4) (hn4 : n ≤ 4) (hH : cH a M0 V0 R T B sl ol Tm) (hv : ∀ i, ¬ sc i → V i = V0 i) : ∀ (u : Nat) (x3 : Int32) (V1 : Nat → Nat → Int32) (W1 : Nat → Nat → Int64) (M : zM), u ≤ n → x3 = nI u - 1 → tbR B sl s n V1 → rpE V V1 → (∀ q, q ≠ 54 → q ≠ 55 → W1 q = W q) → (W1 54 0 = lI (10 ^ (n - u)) ∧ ∀ x y, y ≤ x → x ≤ u → W1 55 (x * 6 + y) = lI (rpV B sl ol s n u x y)) → (u < n → rpF B sl ol s n u V1) → kA a M0 M V1 W1 R → aj G l kX11_playRound 6 84 [(3, .int x3), (0, .ref a), (1, .int x_s), (2, .int x_n)] [] M 0 0 (zv (fun M' => ∃ V1 W1, kA a M0 M' V1 W1 R ∧ rpE V V1 ∧ (∀ q, q ≠ 54 → q ≠ 55 → W1 q = W q) ∧ (W1 54 0 = lI (10 ^ n) ∧ W1 55 0 = lI (rpV B sl ol s n 0 0 0)) ∧ (0 < n → rpF B sl ol s n 0 V1))) := by
  intro u
  induction u with
  | zero =>
    intro x3 V1 W1 M hu h3 hTb hE hEW hI hfs hA
    have h3' : x3 < 0 := by rw [h3]; decide
    refine aj.iload_n dX11_playRound_84 rfl ?_
    refine aj.if_lt (tgt := 216) dX11_playRound_85 rfl (fun c85 => ?_) (fun c85 => ?_)
    · exact aj.vret rfl dX11_playRound_216 ⟨rfl, V1, W1, hA, hE, hEW, ⟨hI.1, hI.2 0 0 (by omega) (by omega)⟩, fun hn => hfs hn⟩
    · exact absurd h3' c85
  | succ t ih =>
    intro x3 V1 W1 M hu h3 hTb hE hEW hI hfs hA
    have h3' : x3 = nI t := by rw [h3, show (1 : Int32) = nI 1 from rfl, z_nI_sub (by omega)]; rfl
    subst h3'
    refine aj.iload_n dX11_playRound_84 rfl ?_
    refine aj.if_ltN (a := t) (tgt := 216) dX11_playRound_85 rfl (by omega) rfl ?_
    refine aj.iconst (v := 0) dX11_playRound_88 rfl ?_
    refine aj.istore (lv' := [(4, .int 0), (3, .int (nI t)), (0, .ref a), (1, .int x_s), (2, .int x_n)]) dX11_playRound_89 (Nat.le_of_ble_eq_true rfl) rfl ?_
    refine aj.pick [0, 1, 2, 3, 4] rfl ?_
    refine play_o s e_s n e_n hs4 hn4 hH hv (t := t) (by omega) (fun V2 W2 M hTb hE hEW hI hfs hA => ?_) (t + 1) 0 V1 W1 M (by omega) hTb hE hEW ⟨hI.1, fun x y hy hx => ?_⟩ (Or.inl (by omega)) hA
    · refine aj.aload_n dX11_playRound_195 rfl ?_
      refine gX11_roundPlay (i := 0) rfl hA w388 dX11_playRound_196 ?_
      refine aj.dup dX11_playRound_199 rfl ?_
      refine gX6_scale (i := 54) rfl hA w329 dX11_playRound_200 ?_
      refine aj.ldc2 dX11_playRound_203 w754 ?_
      refine aj.lmul dX11_playRound_206 ?_
      refine pX6_scale (i := 54) rfl hA w329 dX11_playRound_207 (fun M hA => ?_)
      refine aj.iinc (v := (nI t) + (-1)) (lv' := [(3, .int ((nI t) + (-1))), (0, .ref a), (1, .int x_s), (2, .int x_n)]) dX11_playRound_210 rfl (Nat.le_of_ble_eq_true rfl) rfl rfl ?_
      refine aj.goto (tgt := 84) dX11_playRound_213 rfl ?_
      have e10 : W2 54 0 * 10 = lI (10 ^ (n - t)) := by
        rw [hI.1, show (10 : Int64) = lI 10 from rfl, lI_mul, show n - t = (n - (t + 1)) + 1 by omega, Int.pow_succ]
      refine aj.pick [0, 1, 2, 3] rfl ?_
      refine ih _ V2 _ M (by omega) (by rw [Int32.sub_eq_add_neg]) hTb hE (fun q q4 q5 => by rw [va_up_ne _ _ q4]; exact hEW q q4 q5) ⟨?_, fun x y hy hx => ?_⟩ (fun _ => hfs) hA
      · rw [va_up_self]
        exact (if_pos rfl).trans e10
      · rw [va_up_ne _ _ (by decide), hI.2 x y hy (by omega), if_pos ⟨hx, by omega⟩]
    · rw [hI.2 x y hy hx, if_neg (by omega)]
theorem play_f {G : zG} {l : Launch} {a : Nat} {M0 : zM} {V : Nat → Nat → Int32} {W : Nat → Nat → Int64} {R : Nat → Nat → Option Nat} {V0 : Nat → Nat → Int32} {T : Nat} {B : Nat → Int32} {sl ol : Option (List Nat)} {Tm : Nat} (s : Nat) {x_s : Int32} (e_s : x_s = nI s) (n : Nat) {x_n : Int32} (e_n : x_n = nI n) (hs4 : s < 4) (hn4 : n ≤ 4) (hH : cH a M0 V0 R T B sl ol Tm) (hv : ∀ i, ¬ sc i → V i = V0 i) {Q : Option Value → zM → Prop} (hk : ∀ (V1 : Nat → Nat → Int32) (M : zM), tbR B sl s n V1 → taE V V1 → kA a M0 M V1 W R → aj G l kX11_playRound 6 73 [(0, .ref a), (1, .int x_s), (2, .int x_n)] [] M 0 0 Q) : ∀ (m i : Nat) (V1 : Nat → Nat → Int32) (M : zM), i + m = n → tbR B sl s i V1 → taE V V1 → kA a M0 M V1 W R → aj G l kX11_playRound 6 2 [(3, .int (nI i)), (0, .ref a), (1, .int x_s), (2, .int x_n)] [] M 0 0 Q := by
  obtain ⟨hT, hb, hS, hB⟩ := id hH
  have hd0 := (dLaw_of hB).1
  have hd1 := (dLaw_of hB).2
  have h25 := hB.2.2.2.2.2.1
  have h26 := hB.2.2.2.2.2.2.1
  have h27 := hB.2.2.2.2.2.2.2.1
  have h6 := hB.2.2.1
  have hag := hB.2.2.2.2.1
  have hTm := hB.2.2.2.2.2.2.2.2.1
  have h25b := h25.2
  have h26b := h26.2
  have h27b := h27.2
  have h6b := h6.2
  have hag1 := (hag s hs4).2
  intro m
  induction m with
  | zero =>
    intro i V1 M hin hTb hE hA
    refine aj.iload_n dX11_playRound_2 rfl ?_
    refine aj.iload_n dX11_playRound_3 rfl ?_
    refine aj.icmp_geN (a := i) (b := n) (tgt := 73) dX11_playRound_4 rfl e_n (by omega) (by omega) rfl (fun c4 => ?_) (fun c4 => ?_)
    · refine aj.pick [1, 2, 3] rfl ?_
      exact hk V1 M (fun o ho => hTb o (by omega)) hE hA
    · exact absurd c4 (by omega)
  | succ m ih =>
    intro i V1 M hin hTb hE hA
    have hv1 := ta_v hE hv
    have hks := kTb_j i (by omega)
    have hmin : iMin 9 (nI (mN (B (21 + s)) + i)) = nI (min 9 (mN (B (21 + s)) + i)) := iMin_N (a := 9) (by decide) (by omega)
    refine aj.iload_n dX11_playRound_2 rfl ?_
    refine aj.iload_n dX11_playRound_3 rfl ?_
    refine aj.icmp_geN (a := i) (b := n) (tgt := 73) dX11_playRound_4 rfl e_n (by omega) (by omega) rfl (fun c4 => ?_) (fun c4 => ?_)
    · exact absurd c4 (by omega)
    · refine aj.iload_n dX11_playRound_7 rfl ?_
      refine aj.aload_n dX11_playRound_8 rfl ?_
      refine gX11_tables (i := 0) rfl hA w386 dX11_playRound_9 ?_
      refine aj.kN (i := 52) (n := 4) (v := nI 4) rfl (by decide) (by decide) dX11_playRound_12 hA rfl ?_
      refine aj.icmp_geN (a := i) (b := 4) (tgt := 73) dX11_playRound_13 rfl rfl (by omega) (by omega) rfl (fun c13 => ?_) (fun c13 => ?_)
      · exact absurd c13 (by omega)
      · refine aj.bipush (v := 9) dX11_playRound_16 rfl ?_
        refine aj.aload_n dX11_playRound_18 rfl ?_
        refine gX11_now (i := 0) rfl hA w379 dX11_playRound_19 ?_
        refine aj.iload_n dX11_playRound_22 rfl ?_
        refine aj.callE1 (d' := 0) (As := [.int x_s]) (rest := [.int 9]) dX11_playRound_23 v_X11_135 li_X7_ageOf ⟨_, hA.ob (i := 8) rfl (by decide)⟩ rfl rfl rfl (Nat.le_of_ble_eq_true rfl) (Nat.le_of_ble_eq_true rfl) (k_ageOf (o := 8) ⟨rfl, rfl, rfl⟩ s e_s (by omega) hA) (fun M hM => ?_)
        subst hM
        refine aj.iload_n dX11_playRound_26 rfl ?_
        refine aj.iaddN (a := mN (B (21 + s))) (b := i) dX11_playRound_27 ((congrFun (hv1 10 (by decide)) s).trans ((hS.2.1 s hs4).trans (hag s hs4).1)) rfl ?_
        refine aj.mmin dX11_playRound_28 w1068 (Nat.le_of_ble_eq_true rfl) (Nat.le_of_ble_eq_true rfl) ?_
        refine aj.istore (lv' := [(4, .int (iMin 9 (nI ((mN (B (21 + s))) + i)))), (3, .int (nI i)), (0, .ref a), (1, .int x_s), (2, .int x_n)]) dX11_playRound_31 (Nat.le_of_ble_eq_true rfl) rfl ?_
        refine aj.aload_n dX11_playRound_33 rfl ?_
        refine gX11_tables (i := 0) rfl hA w386 dX11_playRound_34 ?_
        refine aj.iload_n dX11_playRound_37 rfl ?_
        refine aj.kR70 (j := i) rfl dX11_playRound_38 hA rfl (by omega) (by decide) ?_
        refine aj.aload_n dX11_playRound_39 rfl ?_
        refine gX11_range (i := 0) rfl hA w385 dX11_playRound_40 ?_
        refine aj.aload_n dX11_playRound_43 rfl ?_
        refine gT hT hA w378 dX11_playRound_44 ?_
        refine aj.aload_n dX11_playRound_47 rfl ?_
        refine gT hT hA w378 dX11_playRound_48 ?_
        refine aj.iload_n dX11_playRound_51 rfl ?_
        refine aj.callE1 (d' := 0) (As := [.int x_s]) (rest := [.ref T, .ref (a + 49), .ref (a + (71 + 4 * i))]) dX11_playRound_52 v_X11_131 li_X0_shakeOf (hA.bw hb).ob rfl rfl rfl (Nat.le_of_ble_eq_true rfl) (Nat.le_of_ble_eq_true rfl) (k_shakeOf s e_s (by omega) (hA.bw hb)) (fun M hM => ?_)
        subst hM
        refine aj.iload dX11_playRound_55 rfl ?_
        refine aj.aload_n dX11_playRound_57 rfl ?_
        refine gX11_now (i := 0) rfl hA w379 dX11_playRound_58 ?_
        refine gX7_wind (i := 8) rfl hA w269 dX11_playRound_61 ?_
        refine aj.callE0 (d' := 4) (As := [.ref (a + 49), .ref T, .int (B (13 + s)), .int (iMin 9 (nI ((mN (B (21 + s))) + i))), .int (V1 8 1)]) (rest := []) dX11_playRound_64 v_X11_247 li_X8_fill ⟨_, hA.ob (i := (71 + 4 * i)) hks.1 (by decide)⟩ rfl rfl rfl (Nat.le_of_ble_eq_true rfl) (Nat.le_of_ble_eq_true rfl) (k_fill (o := (71 + 4 * i)) (sh := B (13 + s)) hks (min 9 (mN (B (21 + s)) + i)) hmin (mN (B 26)) (((congrFun (hv1 8 (by decide)) 1).trans (hS.2.2.2.1.trans h26.1))) (by omega) hb hd0 hA) (fun M hM => ?_)
        obtain ⟨V2, hA, hE2, hF⟩ := hM
        refine aj.iincN (a := i) (c := 1) (lv' := [(3, .int (nI (i + 1))), (4, .int (iMin 9 (nI ((mN (B (21 + s))) + i)))), (0, .ref a), (1, .int x_s), (2, .int x_n)]) dX11_playRound_67 rfl (Nat.le_of_ble_eq_true rfl) rfl rfl rfl ?_
        refine aj.goto (tgt := 2) dX11_playRound_70 rfl ?_
        refine aj.pick [0, 2, 3, 4] rfl ?_
        refine ih (i + 1) V2 M (by omega) (fun o ho => ?_) (fun q q0 q1 q2 => by rw [hE2 q q0 q1 (by omega) (by omega) (by omega)]; exact hE q q0 q1 q2) hA
        by_cases e : o = i
        · subst e; exact hF
        · exact tbF_E (hTb o (by omega)) hE2 ⟨by omega, by omega⟩
theorem k_play {G : zG} {l : Launch} {a : Nat} {M0 M : zM} {V : Nat → Nat → Int32} {W : Nat → Nat → Int64} {R : Nat → Nat → Option Nat} {V0 : Nat → Nat → Int32} {T : Nat} {B : Nat → Int32} {sl ol : Option (List Nat)} {Tm : Nat} (s : Nat) {x_s : Int32} (e_s : x_s = nI s) (n : Nat) {x_n : Int32} (e_n : x_n = nI n) (hs4 : s < 4) (hn4 : n ≤ 4) (hH : cH a M0 V0 R T B sl ol Tm) (hv : ∀ i, ¬ sc i → V i = V0 i) (hA : kA a M0 M V W R) : am G l kX11_playRound 6 [.ref a, .int x_s, .int x_n] M 0 0 (zv (fun M' => ∃ V1 W1, kA a M0 M' V1 W1 R ∧ rpE V V1 ∧ (∀ q, q ≠ 54 → q ≠ 55 → W1 q = W q) ∧ (W1 54 0 = lI (10 ^ n) ∧ W1 55 0 = lI (rpV B sl ol s n 0 0 0)) ∧ (0 < n → rpF B sl ol s n 0 V1))) := by
  refine am.of (by decide) (Nat.le_of_ble_eq_true rfl) ?_
  refine aj.iconst (v := 0) dX11_playRound_0 rfl ?_
  refine aj.istore_n (lv' := [(3, .int 0), (0, .ref a), (1, .int x_s), (2, .int x_n)]) dX11_playRound_1 (Nat.le_of_ble_eq_true rfl) rfl ?_
  refine aj.pick [0, 1, 2, 3] rfl ?_
  refine play_f s e_s n e_n hs4 hn4 hH hv (fun V1 M hTb hE hA => ?_) n 0 V M (by omega) (fun o ho => absurd ho (Nat.not_lt_zero o)) (fun _ _ _ _ => rfl) hA
  refine aj.aload_n dX11_playRound_73 rfl ?_
  refine gX11_roundPlay (i := 0) rfl hA w388 dX11_playRound_74 ?_
  refine aj.callE0 (d' := 1) (As := []) (rest := []) dX11_playRound_77 v_X11_402 li_X6_begin ⟨_, hA.ob (i := 54) rfl (by decide)⟩ rfl rfl rfl (Nat.le_of_ble_eq_true rfl) (Nat.le_of_ble_eq_true rfl) (k_rpBegin hA) (fun M hM => ?_)
  have hA := hM
  refine aj.iload_n dX11_playRound_80 rfl ?_
  refine aj.iconst (v := 1) dX11_playRound_81 rfl ?_
  refine aj.isub dX11_playRound_82 ?_
  refine aj.istore_n (lv' := [(3, .int (x_n - 1)), (0, .ref a), (1, .int x_s), (2, .int x_n)]) dX11_playRound_83 (Nat.le_of_ble_eq_true rfl) rfl ?_
  refine aj.pick [0, 1, 2, 3] rfl ?_
  exact play_t s e_s n e_n hs4 hn4 hH hv n _ _ _ M (Nat.le_refl _) (by rw [e_n]) (hTb.of (fun q hq => va_up_ne _ _ (by omega))) (fun q q0 q1 q4 q7 => by rw [va_up_ne _ _ q4]; exact hE q q0 q1 q7) (fun q q4 q5 => by rw [va_up_ne _ _ q4, va_up_ne _ _ q5]) ⟨by rw [va_up_self, Nat.sub_self]; exact if_pos rfl, fun x y hy hx => by rw [va_up_ne _ _ (by decide), va_up_self]; unfold rpV; rw [Nat.sub_self]; rfl⟩ (fun z => absurd z (Nat.lt_irrefl n)) hA
theorem p_round {G : zG} {l : Launch} {a : Nat} {M0 M : zM} {V0 : Nat → Nat → Int32} {W0 : Nat → Nat → Int64} {R : Nat → Nat → Option Nat} {T : Nat} {B : Nat → Int32} {sl ol : Option (List Nat)} {Tm : Nat} (s : Int32) (n : Int32) (q : Int32) (hM : kW a M0 M V0 W0 R) (hH : cH a M0 V0 R T B sl ol Tm)  : am G l kX11_round 7 [.ref a, .int s, .int n, .int q] M 0 0 (zr (.long (if inR s 0 ((mN (B 6) : Int) - 1) ∧ inR q 0 1 then (if inR n 0 4 then mPart (lI (mR B sl ol (mN s) (mN n) (mN (B (21 + mN s))) (mN (B 27)) (mN (B 25)))) (lN (10 ^ mN n)) q else -99000003) else -99000002)) (fun M' => kW a M0 M' V0 W0 R)) := by
  obtain ⟨V, W, hA, hv, hw⟩ := hM
  obtain ⟨hT, hb, hS, hB⟩ := id hH
  have hd0 := (dLaw_of hB).1
  have hd1 := (dLaw_of hB).2
  have h25 := hB.2.2.2.2.2.1
  have h26 := hB.2.2.2.2.2.2.1
  have h27 := hB.2.2.2.2.2.2.2.1
  have h6 := hB.2.2.1
  have hag := hB.2.2.2.2.1
  have hTm := hB.2.2.2.2.2.2.2.2.1
  have h25b := h25.2
  have h26b := h26.2
  have h27b := h27.2
  have h6b := h6.2
  refine am.of (by decide) (Nat.le_of_ble_eq_true rfl) ?_
  refine aj.aload_n dX11_round_0 rfl ?_
  refine aj.iload_n dX11_round_1 rfl ?_
  refine aj.callE1 (d' := 0) (As := [.int s]) (rest := []) dX11_round_2 v_X11_124 li_X11_isShooter ⟨_, hA.ob (i := 0) rfl (by decide)⟩ rfl rfl rfl (Nat.le_of_ble_eq_true rfl) (Nat.le_of_ble_eq_true rfl) (k_isShooter s hH hA) (fun M hM => ?_)
  subst hM
  refine aj.if_eqB (tgt := 15) dX11_round_5 rfl (fun c5 => ?_) (fun c5 => ?_)
  · refine aj.ldc2 dX11_round_15 w1062 ?_
    exact aj.lret rfl dX11_round_18 ⟨by rw [if_neg (fun z => c5 z.1)], ⟨_, _, hA, hv, hw⟩⟩
  · have h_s := inR_bdS c5 (by omega)
    have h2_s := h_s.2
    refine aj.iload_n dX11_round_8 rfl ?_
    refine aj.callS1 (d' := 0) (As := [.int q]) (rest := []) dX11_round_9 v_X11_128 w720 rfl rfl (Nat.le_of_ble_eq_true rfl) (Nat.le_of_ble_eq_true rfl) (k_isHalf _ q) (fun M hM => ?_)
    subst hM
    refine aj.if_neB (tgt := 19) dX11_round_12 rfl (fun c12 => ?_) (fun c12 => ?_)
    · have h_q := inR_bd (n := 1) c12 (by decide)
      have h2_q := h_q.2
      refine aj.iload_n dX11_round_19 rfl ?_
      refine aj.if_lt (tgt := 28) dX11_round_20 rfl (fun c20 => ?_) (fun c20 => ?_)
      · refine aj.ldc2 dX11_round_28 w1063 ?_
        exact aj.lret rfl dX11_round_31 ⟨by rw [if_pos (⟨c5, c12⟩ : _ ∧ _), if_neg (by unfold inR; simp only [Int32.lt_iff_toInt_lt, Int32.le_iff_toInt_le] at *; have e0 : (0 : Int32).toInt = 0 := rfl; have e100 : (100 : Int32).toInt = 100 := rfl; have e4 : (4 : Int32).toInt = 4 := rfl; have e99 : (99 : Int32).toInt = 99 := rfl; omega)], ⟨_, _, hA, hv, hw⟩⟩
      · refine aj.iload_n dX11_round_23 rfl ?_
        refine aj.iconst (v := 4) dX11_round_24 rfl ?_
        refine aj.icmp_le (tgt := 32) dX11_round_25 rfl (fun c25 => ?_) (fun c25 => ?_)
        · have c_n : inR n 0 4 := by unfold inR; simp only [Int32.lt_iff_toInt_lt, Int32.le_iff_toInt_le] at *; have e0 : (0 : Int32).toInt = 0 := rfl; have e100 : (100 : Int32).toInt = 100 := rfl; have e4 : (4 : Int32).toInt = 4 := rfl; have e99 : (99 : Int32).toInt = 99 := rfl; omega
          have h_n := inR_bd (n := 4) c_n (by decide)
          have h2_n := h_n.2
          refine aj.aload_n dX11_round_32 rfl ?_
          refine aj.iload_n dX11_round_33 rfl ?_
          refine aj.iload_n dX11_round_34 rfl ?_
          refine aj.callE0 (d' := 6) (As := [.int s, .int n]) (rest := []) dX11_round_35 v_X11_276 li_X11_playRound ⟨_, hA.ob (i := 0) rfl (by decide)⟩ rfl rfl rfl (Nat.le_of_ble_eq_true rfl) (Nat.le_of_ble_eq_true rfl) (k_play (mN s) h_s.1 (mN n) h_n.1 (by omega) h2_n hH hv hA) (fun M hM => ?_)
          obtain ⟨V, W, hA, hE, hEW, ⟨hI1, hI2⟩, hfs⟩ := hM
          have hv := rp_v hE hv
          have hw := rp_w hEW hw
          have hmr := mR_bd (ol := ol) hB (mN s) (mN n) h2_n (mN (B (21 + mN s))) (mN (B 27)) (mN (B 25))
          have hpw := pw_bd (mN n) h2_n
          have erp : rpV B sl ol (mN s) (mN n) 0 0 0 = mR B sl ol (mN s) (mN n) (mN (B (21 + mN s))) (mN (B 27)) (mN (B 25)) := rfl
          rw [erp] at hI2
          have e10n : lI (10 ^ mN n) = lN (10 ^ mN n) := by
            have h10 : (10 : Nat) ^ mN n ≤ 10 ^ 4 := Nat.pow_le_pow_right (by decide) h2_n
            have h104 : (10 : Nat) ^ 4 = 10000 := by decide
            rw [lI_N (by omega)]
            exact congrArg lI (by rw [Int.natCast_pow]; rfl)
          refine aj.aload_n dX11_round_38 rfl ?_
          refine gX11_roundPlay (i := 0) rfl hA w388 dX11_round_39 ?_
          refine aj.iconst (v := 0) dX11_round_42 rfl ?_
          refine aj.iconst (v := 0) dX11_round_43 rfl ?_
          refine aj.callE1 (d' := 0) (As := [.int 0, .int 0]) (rest := []) dX11_round_44 v_X11_279 li_X6_worth ⟨_, hA.ob (i := 54) rfl (by decide)⟩ rfl rfl rfl (Nat.le_of_ble_eq_true rfl) (Nat.le_of_ble_eq_true rfl) (k_rpWorth 0 rfl 0 rfl (by omega) (by omega) hA) (fun M hM => ?_)
          subst hM
          refine aj.aload_n dX11_round_47 rfl ?_
          refine gX11_roundPlay (i := 0) rfl hA w388 dX11_round_48 ?_
          refine gX6_scale (i := 54) rfl hA w329 dX11_round_51 ?_
          refine aj.iload_n dX11_round_54 rfl ?_
          refine aj.callS1 (d' := 1) (As := [.long (W 55 (0 * 6 + 0)), .long (W 54 0), .int q]) (rest := []) dX11_round_55 v_X11_236 w953 rfl rfl (Nat.le_of_ble_eq_true rfl) (Nat.le_of_ble_eq_true rfl) (k_lowest _ (W 55 (0 * 6 + 0)) (W 54 0) q (by rw [hI1, lI_T (by omega) (by omega)]; omega) (by rw [show W 55 (0 * 6 + 0) = W 55 0 from rfl, hI2, lI_T (by omega) (by omega)]; omega)) (fun M hM => ?_)
          subst hM
          exact aj.lret rfl dX11_round_58 ⟨by rw [if_pos (⟨c5, c12⟩ : _ ∧ _), if_pos c_n, hI2, hI1, e10n], ⟨_, _, hA, hv, hw⟩⟩
        · refine aj.ldc2 dX11_round_28 w1063 ?_
          exact aj.lret rfl dX11_round_31 ⟨by rw [if_pos (⟨c5, c12⟩ : _ ∧ _), if_neg (by unfold inR; simp only [Int32.lt_iff_toInt_lt, Int32.le_iff_toInt_le] at *; have e0 : (0 : Int32).toInt = 0 := rfl; have e100 : (100 : Int32).toInt = 100 := rfl; have e4 : (4 : Int32).toInt = 4 := rfl; have e99 : (99 : Int32).toInt = 99 := rfl; omega)], ⟨_, _, hA, hv, hw⟩⟩
    · refine aj.ldc2 dX11_round_15 w1062 ?_
      exact aj.lret rfl dX11_round_18 ⟨by rw [if_neg (fun z => c12 z.2)], ⟨_, _, hA, hv, hw⟩⟩
theorem p_begins {G : zG} {l : Launch} {a : Nat} {M0 M : zM} {V0 : Nat → Nat → Int32} {W0 : Nat → Nat → Int64} {R : Nat → Nat → Option Nat} {T : Nat} {B : Nat → Int32} {sl ol : Option (List Nat)} {Tm : Nat} (s : Int32) (n : Int32) (hM : kW a M0 M V0 W0 R) (hH : cH a M0 V0 R T B sl ol Tm)  : am G l kX11_begins 7 [.ref a, .int s, .int n] M 0 0 (zr (.int (if inR s 0 ((mN (B 6) : Int) - 1) then (if inR n 0 4 then (if mN n = 0 then (-1 : Int32) else nI (mBeg (rF B sl ol (mN s) (mN n - 1) (mN (B (21 + mN s))) (mN (B 27)) (mN (B 25))) (mR B sl ol (mN s) (mN n) (mN (B (21 + mN s))) (mN (B 27)) (mN (B 25))))) else -3) else -2)) (fun M' => kW a M0 M' V0 W0 R)) := by
  obtain ⟨V, W, hA, hv, hw⟩ := hM
  obtain ⟨hT, hb, hS, hB⟩ := id hH
  have hd0 := (dLaw_of hB).1
  have hd1 := (dLaw_of hB).2
  have h25 := hB.2.2.2.2.2.1
  have h26 := hB.2.2.2.2.2.2.1
  have h27 := hB.2.2.2.2.2.2.2.1
  have h6 := hB.2.2.1
  have hag := hB.2.2.2.2.1
  have hTm := hB.2.2.2.2.2.2.2.2.1
  have h25b := h25.2
  have h26b := h26.2
  have h27b := h27.2
  have h6b := h6.2
  refine am.of (by decide) (Nat.le_of_ble_eq_true rfl) ?_
  refine aj.aload_n dX11_begins_0 rfl ?_
  refine aj.iload_n dX11_begins_1 rfl ?_
  refine aj.callE1 (d' := 0) (As := [.int s]) (rest := []) dX11_begins_2 v_X11_124 li_X11_isShooter ⟨_, hA.ob (i := 0) rfl (by decide)⟩ rfl rfl rfl (Nat.le_of_ble_eq_true rfl) (Nat.le_of_ble_eq_true rfl) (k_isShooter s hH hA) (fun M hM => ?_)
  subst hM
  refine aj.if_neB (tgt := 11) dX11_begins_5 rfl (fun c5 => ?_) (fun c5 => ?_)
  · have h_s := inR_bdS c5 (by omega)
    have h2_s := h_s.2
    refine aj.iload_n dX11_begins_11 rfl ?_
    refine aj.if_lt (tgt := 20) dX11_begins_12 rfl (fun c12 => ?_) (fun c12 => ?_)
    · refine aj.bipush (v := (-3)) dX11_begins_20 rfl ?_
      exact aj.iret rfl dX11_begins_22 ⟨by rw [if_pos c5, if_neg (by unfold inR; simp only [Int32.lt_iff_toInt_lt, Int32.le_iff_toInt_le] at *; have e0 : (0 : Int32).toInt = 0 := rfl; have e100 : (100 : Int32).toInt = 100 := rfl; have e4 : (4 : Int32).toInt = 4 := rfl; have e99 : (99 : Int32).toInt = 99 := rfl; omega)], ⟨_, _, hA, hv, hw⟩⟩
    · refine aj.iload_n dX11_begins_15 rfl ?_
      refine aj.iconst (v := 4) dX11_begins_16 rfl ?_
      refine aj.icmp_le (tgt := 23) dX11_begins_17 rfl (fun c17 => ?_) (fun c17 => ?_)
      · have c_n : inR n 0 4 := by unfold inR; simp only [Int32.lt_iff_toInt_lt, Int32.le_iff_toInt_le] at *; have e0 : (0 : Int32).toInt = 0 := rfl; have e100 : (100 : Int32).toInt = 100 := rfl; have e4 : (4 : Int32).toInt = 4 := rfl; have e99 : (99 : Int32).toInt = 99 := rfl; omega
        have h_n := inR_bd (n := 4) c_n (by decide)
        have h2_n := h_n.2
        refine aj.iload_n dX11_begins_23 rfl ?_
        refine aj.if_neN (a := mN n) (tgt := 29) dX11_begins_24 h_n.1 (by omega) rfl (fun c24 => ?_) (fun c24 => ?_)
        · refine aj.aload_n dX11_begins_29 rfl ?_
          refine aj.iload_n dX11_begins_30 rfl ?_
          refine aj.iload_n dX11_begins_31 rfl ?_
          refine aj.callE0 (d' := 6) (As := [.int s, .int n]) (rest := []) dX11_begins_32 v_X11_276 li_X11_playRound ⟨_, hA.ob (i := 0) rfl (by decide)⟩ rfl rfl rfl (Nat.le_of_ble_eq_true rfl) (Nat.le_of_ble_eq_true rfl) (k_play (mN s) h_s.1 (mN n) h_n.1 (by omega) h2_n hH hv hA) (fun M hM => ?_)
          obtain ⟨V, W, hA, hE, hEW, ⟨hI1, hI2⟩, hfs⟩ := hM
          have hv := rp_v hE hv
          have hw := rp_w hEW hw
          refine aj.aload_n dX11_begins_35 rfl ?_
          refine gX11_roundPlay (i := 0) rfl hA w388 dX11_begins_36 ?_
          refine gX6_first (i := 54) rfl hA w331 dX11_begins_39 ?_
          exact aj.iret rfl dX11_begins_42 ⟨by rw [if_pos c5, if_pos c_n, if_neg c24]; exact congrArg (fun z => some (Value.int z)) (hfs (by omega)), ⟨_, _, hA, hv, hw⟩⟩
        · refine aj.iconst (v := (-1)) dX11_begins_27 rfl ?_
          exact aj.iret rfl dX11_begins_28 ⟨by rw [if_pos c5, if_pos c_n, if_pos c24], ⟨_, _, hA, hv, hw⟩⟩
      · refine aj.bipush (v := (-3)) dX11_begins_20 rfl ?_
        exact aj.iret rfl dX11_begins_22 ⟨by rw [if_pos c5, if_neg (by unfold inR; simp only [Int32.lt_iff_toInt_lt, Int32.le_iff_toInt_le] at *; have e0 : (0 : Int32).toInt = 0 := rfl; have e100 : (100 : Int32).toInt = 100 := rfl; have e4 : (4 : Int32).toInt = 4 := rfl; have e99 : (99 : Int32).toInt = 99 := rfl; omega)], ⟨_, _, hA, hv, hw⟩⟩
  · refine aj.bipush (v := (-2)) dX11_begins_8 rfl ?_
    exact aj.iret rfl dX11_begins_10 ⟨by rw [if_neg c5], ⟨_, _, hA, hv, hw⟩⟩
