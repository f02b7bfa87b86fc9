/-- the first of n by which most comes out -/
def zmI (F : Nat → Int) : Nat → Option Nat
  | 0 => none
  | n + 1 => match zmI F n with
    | none => some n
    | some k => if F n ≤ F k then some k else some n
theorem zmI_n {F : Nat → Int} {n : Nat} (h : zmI F n = none) : zmI F (n + 1) = some n := by
  show (match zmI F n with
    | none => some n
    | some k => if F n ≤ F k then some k else some n) = some n
  rw [h]
theorem zmI_k {F : Nat → Int} {n k : Nat} (h : zmI F n = some k) : zmI F (n + 1) = if F n ≤ F k then some k else some n := by
  show (match zmI F n with
    | none => some n
    | some k => if F n ≤ F k then some k else some n) = _
  rw [h]
theorem zmI_in {F : Nat → Int} : ∀ {n k : Nat}, zmI F n = some k → k < n ∧ (∀ j, j < n → F j ≤ F k) ∧ ∀ j, j < k → F j < F k
  | 0, _, h => by cases h
  | n + 1, k, h => by
    cases hz : zmI F n with
    | none =>
      rw [zmI_n hz] at h
      cases h
      have hn : n = 0 := by
        cases n with
        | zero => rfl
        | succ n =>
          cases hz2 : zmI F n with
          | none => rw [zmI_n hz2] at hz; cases hz
          | some j => rw [zmI_k hz2] at hz; split at hz <;> cases hz
      subst hn
      exact ⟨by omega, fun j hj => by rw [show j = 0 by omega]; exact Int.le_refl _, fun j hj => absurd hj (by omega)⟩
    | some j =>
      rw [zmI_k hz] at h
      obtain ⟨g1, g2, g3⟩ := zmI_in hz
      split at h
      · rename_i q
        cases h
        exact ⟨by omega, fun i hi => by
          by_cases e : i = n
          · rw [e]; exact q
          · exact g2 i (by omega), g3⟩
      · rename_i q
        cases h
        exact ⟨by omega, fun i hi => by
          by_cases e : i = n
          · rw [e]; exact Int.le_refl _
          · have := g2 i (by omega); omega, fun i hi => by have := g2 i hi; omega⟩
def zlC (F : Nat → Int) (r : Option Nat) (x : Int32) (y : Int64) : Prop := match r with
  | none => x = -1
  | some k => (x = nI k ∧ k < 2 ^ 31) ∧ y = lI (F k)
theorem zlC_n {F : Nat → Int} {r : Option Nat} {x : Int32} {y : Int64} (h : zlC F r x y) (hx : x = -1) : r = none := by
  cases r with
  | none => rfl
  | some k => exact absurd (h.1.1.symm.trans hx) (z_nI1 h.1.2)
theorem zlC_s {F : Nat → Int} {r : Option Nat} {x : Int32} {y : Int64} (h : zlC F r x y) (hx : ¬ x = -1) : ∃ k, r = some k ∧ y = lI (F k) := by
  cases r with
  | none => exact absurd h hx
  | some k => exact ⟨k, rfl, h.2⟩
theorem imx_ge {f : Nat → Int} {z : Int} : ∀ n, z ≤ imx f z n ∧ ∀ k, k < n → f k ≤ imx f z n
  | 0 => ⟨Int.le_refl _, fun k hk => absurd hk (by omega)⟩
  | n + 1 => by
    obtain ⟨h1, h2⟩ := imx_ge (f := f) (z := z) n
    rw [imx_s]
    refine ⟨by omega, fun k hk => ?_⟩
    by_cases e : k = n
    · subst e; omega
    · have := h2 k (by omega); omega
theorem zfirst_is {p : Nat → Prop} [DecidablePred p] : ∀ {n i k : Nat}, i ≤ k → k < i + n → p k → (∀ j, i ≤ j → j < k → ¬ p j) → zfirst p n i = some k
  | 0, i, k, h1, h2, _, _ => absurd h1 (by omega)
  | n + 1, i, k, h1, h2, h3, h4 => by
    rw [zfirst_s]
    by_cases e : i = k
    · subst e; rw [if_pos h3]
    · rw [if_neg (h4 i (Nat.le_refl _) (by omega))]
      exact zfirst_is (by omega) (by omega) h3 (fun j hj hk => h4 j (by omega) hk)
/-- what settles: the best aim, or waiting -/
theorem settle_of {F : Nat → Int} {k : Nat} (h : zmI F 21 = some k) : imx F (F 21) 21 = (if F k < F 21 then F 21 else F k) ∧ mBeg F (imx F (F 21) 21) = (if F k < F 21 then 21 else k) := by
  obtain ⟨g1, g2, g3⟩ := zmI_in h
  obtain ⟨i1, i2⟩ := imx_ge (f := F) (z := F 21) 21
  have e : imx F (F 21) 21 = (if F k < F 21 then F 21 else F k) := by
    rcases imx_att F (F 21) 21 with q | ⟨j, hj, q⟩
    · have := i2 k g1
      split <;> omega
    · have h1 := g2 j hj
      have h2 := i2 k g1
      split <;> omega
  refine ⟨e, ?_⟩
  unfold mBeg
  have hz : zfirst (fun a => F a = imx F (F 21) 21) 22 0 = some (if F k < F 21 then 21 else k) := by
    rw [e]
    by_cases q : F k < F 21
    · rw [if_pos q, if_pos q]
      exact zfirst_is (by omega) (by omega) rfl (fun j _ hj => by have := g2 j hj; omega)
    · rw [if_neg q, if_neg q]
      exact zfirst_is (by omega) (by omega) rfl (fun j _ hj => by have := g3 j hj; omega)
  rw [hz]
  rfl
theorem k_rpWorth {G : zG} {l : Launch} {a : Nat} {M0 M : zM} {V : Nat → Nat → Int32} {W : Nat → Nat → Int64} {R : Nat → Nat → Option Nat} (o : Nat) {x_o : Int32} (e_o : x_o = nI o) (h : Nat) {x_h : Int32} (e_h : x_h = nI h) (ho : o < 6) (hh : h < 6) (hA : kA a M0 M V W R) : am G l kX6_worth 0 [.ref (a + 54), .int x_o, .int x_h] M 0 0 (zr (.long (W 55 (o * 6 + h))) (fun M' => M' = M)) := by
  refine am.of (by decide) (Nat.le_of_ble_eq_true rfl) ?_
  refine aj.iload_n dX6_worth_0 rfl ?_
  refine aj.if_ltN (a := o) (tgt := 24) dX6_worth_1 e_o (by omega) rfl ?_
  refine aj.iload_n dX6_worth_4 rfl ?_
  refine aj.bipush (v := 6) dX6_worth_5 rfl ?_
  refine aj.icmp_geN (a := o) (b := 6) (tgt := 24) dX6_worth_7 e_o rfl (by omega) (by omega) rfl (fun c7 => ?_) (fun c7 => ?_)
  · exact absurd c7 (by omega)
  · refine aj.iload_n dX6_worth_10 rfl ?_
    refine aj.if_ltN (a := h) (tgt := 24) dX6_worth_11 e_h (by omega) rfl ?_
    refine aj.iload_n dX6_worth_14 rfl ?_
    refine aj.bipush (v := 6) dX6_worth_15 rfl ?_
    refine aj.icmp_geN (a := h) (b := 6) (tgt := 24) dX6_worth_17 e_h rfl (by omega) (by omega) rfl (fun c17 => ?_) (fun c17 => ?_)
    · exact absurd c17 (by omega)
    · refine aj.iconst (v := 1) dX6_worth_20 rfl ?_
      refine aj.goto (tgt := 25) dX6_worth_21 rfl ?_
      refine aj.istore_n (lv' := [(3, .int 1), (0, .ref (a + 54)), (1, .int x_o), (2, .int x_h)]) dX6_worth_25 (Nat.le_of_ble_eq_true rfl) rfl ?_
      refine aj.iload_n dX6_worth_26 rfl ?_
      refine aj.if_eqN (a := 1) (tgt := 44) dX6_worth_27 rfl (by omega) rfl (fun c27 => ?_) (fun c27 => ?_)
      · exact absurd c27 (by decide)
      · refine aj.aload_n dX6_worth_30 rfl ?_
        refine gX6_worths (i := 54) rfl hA w327 dX6_worth_31 ?_
        refine aj.iload_n dX6_worth_34 rfl ?_
        refine aj.bipush (v := 6) dX6_worth_35 rfl ?_
        refine aj.imulN (a := o) (b := 6) dX6_worth_37 e_o rfl ?_
        refine aj.iload_n dX6_worth_38 rfl ?_
        refine aj.iaddN (a := o * 6) (b := h) dX6_worth_39 rfl e_h ?_
        refine aj.kLl (i := 55) (j := (o * 6) + h) rfl dX6_worth_40 hA rfl (by omega) (by decide) ?_
        refine aj.goto (tgt := 45) dX6_worth_41 rfl ?_
        exact aj.lret rfl dX6_worth_45 ⟨rfl, rfl⟩
theorem k_rpBegin {G : zG} {l : Launch} {a : Nat} {M0 M : zM} {V : Nat → Nat → Int32} {W : Nat → Nat → Int64} {R : Nat → Nat → Option Nat} (hA : kA a M0 M V W R) : am G l kX6_begin 1 [.ref (a + 54)] M 0 0 (zv (fun M' => kA a M0 M' (va_up V 54 (upd (V 54) 0 (-1))) (va_up (va_up W 55 (fun _ => 0)) 54 (vp_updL (W 54) 0 1)) R)) := by
  refine am.of (by decide) (Nat.le_of_ble_eq_true rfl) ?_
  refine aj.aload_n dX6_begin_0 rfl ?_
  refine gX6_worths (i := 54) rfl hA w327 dX6_begin_1 ?_
  refine aj.lconst (v := 0) dX6_begin_4 rfl ?_
  refine aj.callS0 (d' := 0) (As := [.ref (a + 55), .long 0]) (rest := []) dX6_begin_5 v_X6_23 w1074 rfl rfl (Nat.le_of_ble_eq_true rfl) (Nat.le_of_ble_eq_true rfl) (k_fillL 0 rfl (by decide) hA) (fun M hM => ?_)
  have hA := hM
  refine aj.aload_n dX6_begin_8 rfl ?_
  refine aj.lconst (v := 1) dX6_begin_9 rfl ?_
  refine pX6_scale (i := 54) rfl hA w328 dX6_begin_10 (fun M hA => ?_)
  refine aj.aload_n dX6_begin_13 rfl ?_
  refine aj.iconst (v := (-1)) dX6_begin_14 rfl ?_
  refine pX6_first (i := 54) rfl hA w330 dX6_begin_15 (fun M hA => ?_)
  exact aj.vret rfl dX6_begin_18 ⟨rfl, hA⟩
theorem settle_lp {G : zG} {l : Launch} {a : Nat} {M0 : zM} {V : Nat → Nat → Int32} {W : Nat → Nat → Int64} {R : Nat → Nat → Option Nat} {B : Nat → Int32} {sl : Option (List Nat)} {sh : Int32} {age wd : Nat} (o : Nat) {x_o : Int32} (e_o : x_o = nI o) (h : Nat) {x_h : Int32} (e_h : x_h = nI h) (ho : o ≤ 3) (hh : h ≤ o) (op : Prop) [Decidable op] {F : Nat → Int} {k : Nat} {m0 m1 m2 : Int} (hT : tbF B sl sh age wd V (71 + 4 * o)) (hsc : W 54 0 = lI (10 ^ k)) (h0 : W 55 (o * 6 + h) = lI m0) (h1 : W 55 ((o + 1) * 6 + h) = lI m1) (h2 : W 55 ((o + 1) * 6 + (h + 1)) = lI m2) (hF : ∀ j, j < 21 → F j = (zsum (fun lot => mScore B (nI (mLand sl sh age wd j lot)) op) 10).toInt * 10 ^ k + (10 - (zcnt (fun lot => mFar B (nI (mLand sl sh age wd j lot)) = 0) 10 : Int)) * m1 + (zcnt (fun lot => mFar B (nI (mLand sl sh age wd j lot)) = 0) 10 : Int) * (if op then m2 else m1)) (hF21 : F 21 = 10 * m0) (hFb : ∀ j, -300000000000 ≤ F j ∧ F j ≤ 300000000000) : ∀ (n i : Nat) (y : Int64) (r : Nat → Int32) (M : zM), i + n = 21 → zlC F (zmI F i) (r 0) y → kA a M0 M (va_up V 54 r) W R → aj G l kX6_settle 2 64 [(12, .int (nI i)), (10, .long y), (8, .long (lI (if op then m2 else m1))), (6, .long (lI m1)), (0, .ref (a + 54)), (1, .ref (a + (71 + 4 * o))), (2, .int x_o), (3, .int x_h), (4, .int (zb (op))), (5, .int (B 5))] [] M 0 0 (zv (fun M' => ∃ r, kA a M0 M' (va_up V 54 r) (va_up W 55 (vp_updL (W 55) (o * 6 + h) (lI (imx F (F 21) 21)))) R ∧ r 0 = nI (mBeg F (imx F (F 21) 21)))) := by
  have hks := kTb_j o (by omega)
  intro n
  induction n with
  | zero =>
    intro i y r M hin hz hA
    rw [show i = 21 by omega] at hz
    obtain ⟨f, hf⟩ : ∃ f, zmI F 21 = some f := by
      cases hq : zmI F 21 with
      | some f => exact ⟨f, rfl⟩
      | none =>
        exfalso
        cases hq2 : zmI F 20 with
        | none => rw [zmI_n hq2] at hq; cases hq
        | some j => rw [zmI_k hq2] at hq; split at hq <;> cases hq
    rw [hf] at hz
    obtain ⟨⟨hz1, -⟩, hz2⟩ := hz
    obtain ⟨s1, s2⟩ := settle_of hf
    have hb21 := hFb 21
    have hbf := hFb f
    have e10 : (10 : Int64) * W 55 (o * 6 + h) = lI (F 21) := by rw [h0, show (10 : Int64) = lI 10 from rfl, lI_mul, hF21]
    have hcmp : y < lI (F 21) ↔ F f < F 21 := by rw [hz2]; exact lI_lt (by omega) (by omega) (by omega) (by omega)
    refine aj.iload dX6_settle_64 rfl ?_
    refine aj.bipush (v := 21) dX6_settle_66 rfl ?_
    refine aj.icmp_geN (a := i) (b := 21) (tgt := 153) dX6_settle_68 rfl rfl (by omega) (by omega) rfl (fun c68 => ?_) (fun c68 => ?_)
    · refine aj.ldc2 dX6_settle_153 w1086 ?_
      refine aj.aload_n dX6_settle_156 rfl ?_
      refine aj.iload_n dX6_settle_157 rfl ?_
      refine aj.iload_n dX6_settle_158 rfl ?_
      refine aj.callE1 (d' := 0) (As := [.int x_o, .int x_h]) (rest := [.long 10]) dX6_settle_159 v_X6_29 li_X6_worth ⟨_, hA.ob (i := 54) rfl (by decide)⟩ rfl rfl rfl (Nat.le_of_ble_eq_true rfl) (Nat.le_of_ble_eq_true rfl) (k_rpWorth o e_o h e_h (by omega) (by omega) hA) (fun M hM => ?_)
      subst hM
      refine aj.lmul dX6_settle_162 ?_
      rw [e10]
      refine aj.lstore (lv' := [(12, .long (lI (F 21))), (10, .long y), (8, .long (lI (if op then m2 else m1))), (6, .long (lI m1)), (0, .ref (a + 54)), (1, .ref (a + (71 + 4 * o))), (2, .int x_o), (3, .int x_h), (4, .int (zb (op))), (5, .int (B 5))]) dX6_settle_163 (Nat.le_of_ble_eq_true rfl) rfl ?_
      refine aj.lload dX6_settle_165 rfl ?_
      refine aj.lload dX6_settle_167 rfl ?_
      refine aj.lif_le (tgt := 183) dX6_settle_169 dX6_settle_170 rfl (fun c169 => ?_) (fun c169 => ?_)
      · refine aj.aload_n dX6_settle_183 rfl ?_
        refine gX6_worths (i := 54) rfl hA w327 dX6_settle_184 ?_
        refine aj.iload_n dX6_settle_187 rfl ?_
        refine aj.bipush (v := 6) dX6_settle_188 rfl ?_
        refine aj.imulN (a := o) (b := 6) dX6_settle_190 e_o rfl ?_
        refine aj.iload_n dX6_settle_191 rfl ?_
        refine aj.iaddN (a := o * 6) (b := h) dX6_settle_192 rfl e_h ?_
        refine aj.lload dX6_settle_193 rfl ?_
        refine aj.kSl (i := 55) (j := (o * 6) + h) rfl dX6_settle_195 hA rfl (by omega) (by decide) (fun M hA => ?_)
        exact aj.vret rfl dX6_settle_196 ⟨rfl, r, by rw [s1, if_neg (fun z => c169 (hcmp.mpr z)), ← hz2]; exact hA, by rw [s2, if_neg (fun z => c169 (hcmp.mpr z))]; exact hz1⟩
      · refine aj.aload_n dX6_settle_173 rfl ?_
        refine aj.bipush (v := 21) dX6_settle_174 rfl ?_
        refine pX6_first (i := 54) rfl hA w330 dX6_settle_176 (fun M hA => ?_)
        refine aj.lload dX6_settle_179 rfl ?_
        refine aj.lstore (lv' := [(10, .long (lI (F 21))), (12, .long (lI (F 21))), (8, .long (lI (if op then m2 else m1))), (6, .long (lI m1)), (0, .ref (a + 54)), (1, .ref (a + (71 + 4 * o))), (2, .int x_o), (3, .int x_h), (4, .int (zb (op))), (5, .int (B 5))]) dX6_settle_181 (Nat.le_of_ble_eq_true rfl) rfl ?_
        rw [bx_uu, va_up_self] at hA
        refine aj.aload_n dX6_settle_183 rfl ?_
        refine gX6_worths (i := 54) rfl hA w327 dX6_settle_184 ?_
        refine aj.iload_n dX6_settle_187 rfl ?_
        refine aj.bipush (v := 6) dX6_settle_188 rfl ?_
        refine aj.imulN (a := o) (b := 6) dX6_settle_190 e_o rfl ?_
        refine aj.iload_n dX6_settle_191 rfl ?_
        refine aj.iaddN (a := o * 6) (b := h) dX6_settle_192 rfl e_h ?_
        refine aj.lload dX6_settle_193 rfl ?_
        refine aj.kSl (i := 55) (j := (o * 6) + h) rfl dX6_settle_195 hA rfl (by omega) (by decide) (fun M hA => ?_)
        exact aj.vret rfl dX6_settle_196 ⟨rfl, _, by rw [s1, if_pos (hcmp.mp c169)]; exact hA, by rw [s2, if_pos (hcmp.mp c169), pk_us]; rfl⟩
    · exact absurd c68 (by omega)
  | succ n ih =>
    intro i y r M hin hz hA
    have hcl := zcnt_le (fun lot => mFar B (nI (mLand sl sh age wd i lot)) = 0) 10
    have htc : va_up V 54 r (71 + 4 * o + 2) i = nI (zcnt (fun lot => mFar B (nI (mLand sl sh age wd i lot)) = 0) 10) := by rw [va_up_ne _ _ (by omega)]; exact tb_tch hT (by omega)
    have hb1 := hFb i
    have hT1 : tbF B sl sh age wd (va_up V 54 r) (71 + 4 * o) := by
      unfold tbF
      rw [va_up_ne _ _ (by omega), va_up_ne _ _ (by omega), va_up_ne _ _ (by omega)]
      exact hT
    have hsum := tb_sum hT1 op (aim := i) (by omega)
    unfold tS at hsum
    refine aj.iload dX6_settle_64 rfl ?_
    refine aj.bipush (v := 21) dX6_settle_66 rfl ?_
    refine aj.icmp_geN (a := i) (b := 21) (tgt := 153) dX6_settle_68 rfl rfl (by omega) (by omega) rfl (fun c68 => ?_) (fun c68 => ?_)
    · exact absurd c68 (by omega)
    · refine aj.aload_n dX6_settle_71 rfl ?_
      refine aj.iload dX6_settle_72 rfl ?_
      refine aj.callE1 (d' := 1) (As := [.int (nI i)]) (rest := []) dX6_settle_74 v_X6_33 li_X8_touchCount ⟨_, hA.ob (i := (71 + 4 * o)) hks.1 (by decide)⟩ rfl rfl rfl (Nat.le_of_ble_eq_true rfl) (Nat.le_of_ble_eq_true rfl) (k_touchCount (o := (71 + 4 * o)) hks i rfl (by omega) hA) (fun M hM => ?_)
      subst hM
      refine aj.istore (lv' := [(13, .int (va_up V 54 r (71 + 4 * o + 2) i)), (12, .int (nI i)), (10, .long y), (8, .long (lI (if op then m2 else m1))), (6, .long (lI m1)), (0, .ref (a + 54)), (1, .ref (a + (71 + 4 * o))), (2, .int x_o), (3, .int x_h), (4, .int (zb (op))), (5, .int (B 5))]) dX6_settle_77 (Nat.le_of_ble_eq_true rfl) rfl ?_
      refine aj.aload_n dX6_settle_79 rfl ?_
      refine aj.iload dX6_settle_80 rfl ?_
      refine aj.iload dX6_settle_82 rfl ?_
      refine aj.if_eqB (tgt := 92) dX6_settle_84 rfl (fun c84 => ?_) (fun c84 => ?_)
      · refine aj.iconst (v := 0) dX6_settle_92 rfl ?_
        refine aj.callE1 (d' := 1) (As := [.int (nI i), .int 0]) (rest := []) dX6_settle_93 v_X6_39 li_X8_sum ⟨_, hA.ob (i := (71 + 4 * o)) hks.1 (by decide)⟩ rfl rfl rfl (Nat.le_of_ble_eq_true rfl) (Nat.le_of_ble_eq_true rfl) (k_sum (o := (71 + 4 * o)) hks i rfl 0 (by omega) hA) (fun M hM => ?_)
        subst hM
        refine aj.i2l dX6_settle_96 ?_
        refine aj.aload_n dX6_settle_97 rfl ?_
        refine gX6_scale (i := 54) rfl hA w328 dX6_settle_98 ?_
        refine aj.lmul dX6_settle_101 ?_
        refine aj.bipush (v := 10) dX6_settle_102 rfl ?_
        refine aj.iload dX6_settle_104 rfl ?_
        refine aj.isubN (a := 10) (b := (zcnt (fun lot => mFar B (nI (mLand sl sh age wd i lot)) = 0) 10)) dX6_settle_106 rfl htc (by omega) ?_
        refine aj.i2lN (a := 10 - ((zcnt (fun lot => mFar B (nI (mLand sl sh age wd i lot)) = 0) 10))) dX6_settle_107 rfl (by omega) ?_
        refine aj.lload dX6_settle_108 rfl ?_
        refine aj.lmul dX6_settle_110 ?_
        refine aj.ladd dX6_settle_111 ?_
        refine aj.iload dX6_settle_112 rfl ?_
        refine aj.i2lN (a := (zcnt (fun lot => mFar B (nI (mLand sl sh age wd i lot)) = 0) 10)) dX6_settle_114 htc (by omega) ?_
        refine aj.lload dX6_settle_115 rfl ?_
        refine aj.lmul dX6_settle_117 ?_
        refine aj.ladd dX6_settle_118 ?_
        rw [if_neg c84] at hsum
        rw [hsum, hsc, lI_i, lI_mul, lI_N (a := 10 - (zcnt (fun lot => mFar B (nI (mLand sl sh age wd i lot)) = 0) 10)) (by omega), lI_N (a := (zcnt (fun lot => mFar B (nI (mLand sl sh age wd i lot)) = 0) 10)) (by omega), lI_mul, lI_mul, lI_add, lI_add, show ((10 - (zcnt (fun lot => mFar B (nI (mLand sl sh age wd i lot)) = 0) 10) : Nat) : Int) = 10 - ((zcnt (fun lot => mFar B (nI (mLand sl sh age wd i lot)) = 0) 10) : Int) by omega, ← hF i (by omega)]
        refine aj.lstore (lv' := [(14, .long (lI (F i))), (13, .int (va_up V 54 r (71 + 4 * o + 2) i)), (12, .int (nI i)), (10, .long y), (8, .long (lI (if op then m2 else m1))), (6, .long (lI m1)), (0, .ref (a + 54)), (1, .ref (a + (71 + 4 * o))), (2, .int x_o), (3, .int x_h), (4, .int (zb (op))), (5, .int (B 5))]) dX6_settle_119 (Nat.le_of_ble_eq_true rfl) rfl ?_
        refine aj.aload_n dX6_settle_121 rfl ?_
        refine gX6_first (i := 54) rfl hA w330 dX6_settle_122 ?_
        refine aj.iconst (v := (-1)) dX6_settle_125 rfl ?_
        refine aj.icmp_eq (tgt := 137) dX6_settle_126 rfl (fun c126 => ?_) (fun c126 => ?_)
        · refine aj.aload_n dX6_settle_137 rfl ?_
          refine aj.iload dX6_settle_138 rfl ?_
          refine pX6_first (i := 54) rfl hA w330 dX6_settle_140 (fun M hA => ?_)
          refine aj.lload dX6_settle_143 rfl ?_
          refine aj.lstore (lv' := [(10, .long (lI (F i))), (14, .long (lI (F i))), (13, .int (va_up V 54 r (71 + 4 * o + 2) i)), (12, .int (nI i)), (8, .long (lI (if op then m2 else m1))), (6, .long (lI m1)), (0, .ref (a + 54)), (1, .ref (a + (71 + 4 * o))), (2, .int x_o), (3, .int x_h), (4, .int (zb (op))), (5, .int (B 5))]) dX6_settle_145 (Nat.le_of_ble_eq_true rfl) rfl ?_
          refine aj.iincN (a := i) (c := 1) (lv' := [(12, .int (nI (i + 1))), (10, .long (lI (F i))), (14, .long (lI (F i))), (13, .int (va_up V 54 r (71 + 4 * o + 2) i)), (8, .long (lI (if op then m2 else m1))), (6, .long (lI m1)), (0, .ref (a + 54)), (1, .ref (a + (71 + 4 * o))), (2, .int x_o), (3, .int x_h), (4, .int (zb (op))), (5, .int (B 5))]) dX6_settle_147 rfl (Nat.le_of_ble_eq_true rfl) rfl rfl rfl ?_
          refine aj.goto (tgt := 64) dX6_settle_150 rfl ?_
          refine aj.pick [0, 1, 4, 5, 6, 7, 8, 9, 10, 11] rfl ?_
          rw [bx_uu] at hA
          exact ih (i + 1) _ _ M (by omega) (by rw [zmI_n (zlC_n hz c126)]; exact ⟨⟨pk_us, by omega⟩, rfl⟩) hA
        · refine aj.lload dX6_settle_129 rfl ?_
          refine aj.lload dX6_settle_131 rfl ?_
          refine aj.lif_le (tgt := 147) dX6_settle_133 dX6_settle_134 rfl (fun c133 => ?_) (fun c133 => ?_)
          · refine aj.iincN (a := i) (c := 1) (lv' := [(12, .int (nI (i + 1))), (14, .long (lI (F i))), (13, .int (va_up V 54 r (71 + 4 * o + 2) i)), (10, .long y), (8, .long (lI (if op then m2 else m1))), (6, .long (lI m1)), (0, .ref (a + 54)), (1, .ref (a + (71 + 4 * o))), (2, .int x_o), (3, .int x_h), (4, .int (zb (op))), (5, .int (B 5))]) dX6_settle_147 rfl (Nat.le_of_ble_eq_true rfl) rfl rfl rfl ?_
            refine aj.goto (tgt := 64) dX6_settle_150 rfl ?_
            refine aj.pick [0, 3, 4, 5, 6, 7, 8, 9, 10, 11] rfl ?_
            obtain ⟨f, hf, hy⟩ := zlC_s hz c126
            have hbf := hFb f
            have hcmp : y < lI (F i) ↔ F f < F i := by rw [hy]; exact lI_lt (by omega) (by omega) (by omega) (by omega)
            exact ih (i + 1) _ _ M (by omega) (by rw [zmI_k hf, if_pos (by have := mt hcmp.mpr c133; omega), ← hf]; exact hz) hA
          · refine aj.aload_n dX6_settle_137 rfl ?_
            refine aj.iload dX6_settle_138 rfl ?_
            refine pX6_first (i := 54) rfl hA w330 dX6_settle_140 (fun M hA => ?_)
            refine aj.lload dX6_settle_143 rfl ?_
            refine aj.lstore (lv' := [(10, .long (lI (F i))), (14, .long (lI (F i))), (13, .int (va_up V 54 r (71 + 4 * o + 2) i)), (12, .int (nI i)), (8, .long (lI (if op then m2 else m1))), (6, .long (lI m1)), (0, .ref (a + 54)), (1, .ref (a + (71 + 4 * o))), (2, .int x_o), (3, .int x_h), (4, .int (zb (op))), (5, .int (B 5))]) dX6_settle_145 (Nat.le_of_ble_eq_true rfl) rfl ?_
            refine aj.iincN (a := i) (c := 1) (lv' := [(12, .int (nI (i + 1))), (10, .long (lI (F i))), (14, .long (lI (F i))), (13, .int (va_up V 54 r (71 + 4 * o + 2) i)), (8, .long (lI (if op then m2 else m1))), (6, .long (lI m1)), (0, .ref (a + 54)), (1, .ref (a + (71 + 4 * o))), (2, .int x_o), (3, .int x_h), (4, .int (zb (op))), (5, .int (B 5))]) dX6_settle_147 rfl (Nat.le_of_ble_eq_true rfl) rfl rfl rfl ?_
            refine aj.goto (tgt := 64) dX6_settle_150 rfl ?_
            refine aj.pick [0, 1, 4, 5, 6, 7, 8, 9, 10, 11] rfl ?_
            obtain ⟨f, hf, hy⟩ := zlC_s hz c126
            have hbf := hFb f
            have hcmp : y < lI (F i) ↔ F f < F i := by rw [hy]; exact lI_lt (by omega) (by omega) (by omega) (by omega)
            rw [bx_uu] at hA
            exact ih (i + 1) _ _ M (by omega) (by rw [zmI_k hf, if_neg (by have := hcmp.mp c133; omega)]; exact ⟨⟨pk_us, by omega⟩, rfl⟩) hA
      · refine aj.iload dX6_settle_87 rfl ?_
        refine aj.goto (tgt := 93) dX6_settle_89 rfl ?_
        refine aj.callE1 (d' := 1) (As := [.int (nI i), .int (B 5)]) (rest := []) dX6_settle_93 v_X6_39 li_X8_sum ⟨_, hA.ob (i := (71 + 4 * o)) hks.1 (by decide)⟩ rfl rfl rfl (Nat.le_of_ble_eq_true rfl) (Nat.le_of_ble_eq_true rfl) (k_sum (o := (71 + 4 * o)) hks i rfl (B 5) (by omega) hA) (fun M hM => ?_)
        subst hM
        refine aj.i2l dX6_settle_96 ?_
        refine aj.aload_n dX6_settle_97 rfl ?_
        refine gX6_scale (i := 54) rfl hA w328 dX6_settle_98 ?_
        refine aj.lmul dX6_settle_101 ?_
        refine aj.bipush (v := 10) dX6_settle_102 rfl ?_
        refine aj.iload dX6_settle_104 rfl ?_
        refine aj.isubN (a := 10) (b := (zcnt (fun lot => mFar B (nI (mLand sl sh age wd i lot)) = 0) 10)) dX6_settle_106 rfl htc (by omega) ?_
        refine aj.i2lN (a := 10 - ((zcnt (fun lot => mFar B (nI (mLand sl sh age wd i lot)) = 0) 10))) dX6_settle_107 rfl (by omega) ?_
        refine aj.lload dX6_settle_108 rfl ?_
        refine aj.lmul dX6_settle_110 ?_
        refine aj.ladd dX6_settle_111 ?_
        refine aj.iload dX6_settle_112 rfl ?_
        refine aj.i2lN (a := (zcnt (fun lot => mFar B (nI (mLand sl sh age wd i lot)) = 0) 10)) dX6_settle_114 htc (by omega) ?_
        refine aj.lload dX6_settle_115 rfl ?_
        refine aj.lmul dX6_settle_117 ?_
        refine aj.ladd dX6_settle_118 ?_
        rw [if_pos c84] at hsum
        rw [hsum, hsc, lI_i, lI_mul, lI_N (a := 10 - (zcnt (fun lot => mFar B (nI (mLand sl sh age wd i lot)) = 0) 10)) (by omega), lI_N (a := (zcnt (fun lot => mFar B (nI (mLand sl sh age wd i lot)) = 0) 10)) (by omega), lI_mul, lI_mul, lI_add, lI_add, show ((10 - (zcnt (fun lot => mFar B (nI (mLand sl sh age wd i lot)) = 0) 10) : Nat) : Int) = 10 - ((zcnt (fun lot => mFar B (nI (mLand sl sh age wd i lot)) = 0) 10) : Int) by omega, ← hF i (by omega)]
        refine aj.lstore (lv' := [(14, .long (lI (F i))), (13, .int (va_up V 54 r (71 + 4 * o + 2) i)), (12, .int (nI i)), (10, .long y), (8, .long (lI (if op then m2 else m1))), (6, .long (lI m1)), (0, .ref (a + 54)), (1, .ref (a + (71 + 4 * o))), (2, .int x_o), (3, .int x_h), (4, .int (zb (op))), (5, .int (B 5))]) dX6_settle_119 (Nat.le_of_ble_eq_true rfl) rfl ?_
        refine aj.aload_n dX6_settle_121 rfl ?_
        refine gX6_first (i := 54) rfl hA w330 dX6_settle_122 ?_
        refine aj.iconst (v := (-1)) dX6_settle_125 rfl ?_
        refine aj.icmp_eq (tgt := 137) dX6_settle_126 rfl (fun c126 => ?_) (fun c126 => ?_)
        · refine aj.aload_n dX6_settle_137 rfl ?_
          refine aj.iload dX6_settle_138 rfl ?_
          refine pX6_first (i := 54) rfl hA w330 dX6_settle_140 (fun M hA => ?_)
          refine aj.lload dX6_settle_143 rfl ?_
          refine aj.lstore (lv' := [(10, .long (lI (F i))), (14, .long (lI (F i))), (13, .int (va_up V 54 r (71 + 4 * o + 2) i)), (12, .int (nI i)), (8, .long (lI (if op then m2 else m1))), (6, .long (lI m1)), (0, .ref (a + 54)), (1, .ref (a + (71 + 4 * o))), (2, .int x_o), (3, .int x_h), (4, .int (zb (op))), (5, .int (B 5))]) dX6_settle_145 (Nat.le_of_ble_eq_true rfl) rfl ?_
          refine aj.iincN (a := i) (c := 1) (lv' := [(12, .int (nI (i + 1))), (10, .long (lI (F i))), (14, .long (lI (F i))), (13, .int (va_up V 54 r (71 + 4 * o + 2) i)), (8, .long (lI (if op then m2 else m1))), (6, .long (lI m1)), (0, .ref (a + 54)), (1, .ref (a + (71 + 4 * o))), (2, .int x_o), (3, .int x_h), (4, .int (zb (op))), (5, .int (B 5))]) dX6_settle_147 rfl (Nat.le_of_ble_eq_true rfl) rfl rfl rfl ?_
          refine aj.goto (tgt := 64) dX6_settle_150 rfl ?_
          refine aj.pick [0, 1, 4, 5, 6, 7, 8, 9, 10, 11] rfl ?_
          rw [bx_uu] at hA
          exact ih (i + 1) _ _ M (by omega) (by rw [zmI_n (zlC_n hz c126)]; exact ⟨⟨pk_us, by omega⟩, rfl⟩) hA
        · refine aj.lload dX6_settle_129 rfl ?_
          refine aj.lload dX6_settle_131 rfl ?_
          refine aj.lif_le (tgt := 147) dX6_settle_133 dX6_settle_134 rfl (fun c133 => ?_) (fun c133 => ?_)
          · refine aj.iincN (a := i) (c := 1) (lv' := [(12, .int (nI (i + 1))), (14, .long (lI (F i))), (13, .int (va_up V 54 r (71 + 4 * o + 2) i)), (10, .long y), (8, .long (lI (if op then m2 else m1))), (6, .long (lI m1)), (0, .ref (a + 54)), (1, .ref (a + (71 + 4 * o))), (2, .int x_o), (3, .int x_h), (4, .int (zb (op))), (5, .int (B 5))]) dX6_settle_147 rfl (Nat.le_of_ble_eq_true rfl) rfl rfl rfl ?_
            refine aj.goto (tgt := 64) dX6_settle_150 rfl ?_
            refine aj.pick [0, 3, 4, 5, 6, 7, 8, 9, 10, 11] rfl ?_
            obtain ⟨f, hf, hy⟩ := zlC_s hz c126
            have hbf := hFb f
            have hcmp : y < lI (F i) ↔ F f < F i := by rw [hy]; exact lI_lt (by omega) (by omega) (by omega) (by omega)
            exact ih (i + 1) _ _ M (by omega) (by rw [zmI_k hf, if_pos (by have := mt hcmp.mpr c133; omega), ← hf]; exact hz) hA
          · refine aj.aload_n dX6_settle_137 rfl ?_
            refine aj.iload dX6_settle_138 rfl ?_
            refine pX6_first (i := 54) rfl hA w330 dX6_settle_140 (fun M hA => ?_)
            refine aj.lload dX6_settle_143 rfl ?_
            refine aj.lstore (lv' := [(10, .long (lI (F i))), (14, .long (lI (F i))), (13, .int (va_up V 54 r (71 + 4 * o + 2) i)), (12, .int (nI i)), (8, .long (lI (if op then m2 else m1))), (6, .long (lI m1)), (0, .ref (a + 54)), (1, .ref (a + (71 + 4 * o))), (2, .int x_o), (3, .int x_h), (4, .int (zb (op))), (5, .int (B 5))]) dX6_settle_145 (Nat.le_of_ble_eq_true rfl) rfl ?_
            refine aj.iincN (a := i) (c := 1) (lv' := [(12, .int (nI (i + 1))), (10, .long (lI (F i))), (14, .long (lI (F i))), (13, .int (va_up V 54 r (71 + 4 * o + 2) i)), (8, .long (lI (if op then m2 else m1))), (6, .long (lI m1)), (0, .ref (a + 54)), (1, .ref (a + (71 + 4 * o))), (2, .int x_o), (3, .int x_h), (4, .int (zb (op))), (5, .int (B 5))]) dX6_settle_147 rfl (Nat.le_of_ble_eq_true rfl) rfl rfl rfl ?_
            refine aj.goto (tgt := 64) dX6_settle_150 rfl ?_
            refine aj.pick [0, 1, 4, 5, 6, 7, 8, 9, 10, 11] rfl ?_
            obtain ⟨f, hf, hy⟩ := zlC_s hz c126
            have hbf := hFb f
            have hcmp : y < lI (F i) ↔ F f < F i := by rw [hy]; exact lI_lt (by omega) (by omega) (by omega) (by omega)
            rw [bx_uu] at hA
            exact ih (i + 1) _ _ M (by omega) (by rw [zmI_k hf, if_neg (by have := hcmp.mp c133; omega)]; exact ⟨⟨pk_us, by omega⟩, rfl⟩) hA
theorem k_settle {G : zG} {l : Launch} {a : Nat} {M0 M : zM} {V : Nat → Nat → Int32} {W : Nat → Nat → Int64} {R : Nat → Nat → Option Nat} {B : Nat → Int32} {sl : Option (List Nat)} {sh : Int32} {age wd : Nat} (o : Nat) {x_o : Int32} (e_o : x_o = nI o) (h : Nat) {x_h : Int32} (e_h : x_h = nI h) (ho : o ≤ 3) (hh : h ≤ o) (op : Prop) [Decidable op] {F : Nat → Int} {k : Nat} {m0 m1 m2 : Int} (hT : tbF B sl sh age wd V (71 + 4 * o)) (hsc : W 54 0 = lI (10 ^ k)) (h0 : W 55 (o * 6 + h) = lI m0) (h1 : W 55 ((o + 1) * 6 + h) = lI m1) (h2 : W 55 ((o + 1) * 6 + (h + 1)) = lI m2) (hF : ∀ j, j < 21 → F j = (zsum (fun lot => mScore B (nI (mLand sl sh age wd j lot)) op) 10).toInt * 10 ^ k + (10 - (zcnt (fun lot => mFar B (nI (mLand sl sh age wd j lot)) = 0) 10 : Int)) * m1 + (zcnt (fun lot => mFar B (nI (mLand sl sh age wd j lot)) = 0) 10 : Int) * (if op then m2 else m1)) (hF21 : F 21 = 10 * m0) (hFb : ∀ j, -300000000000 ≤ F j ∧ F j ≤ 300000000000) (hA : kA a M0 M V W R) : am G l kX6_settle 2 [.ref (a + 54), .ref (a + (71 + 4 * o)), .int x_o, .int x_h, .int (zb (op)), .int (B 5)] M 0 0 (zv (fun M' => ∃ r, kA a M0 M' (va_up V 54 r) (va_up W 55 (vp_updL (W 55) (o * 6 + h) (lI (imx F (F 21) 21)))) R ∧ r 0 = nI (mBeg F (imx F (F 21) 21)))) := by
  have hks := kTb_j o (by omega)
  refine am.of (by decide) (Nat.le_of_ble_eq_true rfl) ?_
  refine aj.iload_n dX6_settle_0 rfl ?_
  refine aj.if_ltN (a := o) (tgt := 20) dX6_settle_1 e_o (by omega) rfl ?_
  refine aj.iload_n dX6_settle_4 rfl ?_
  refine aj.bipush (v := 6) dX6_settle_5 rfl ?_
  refine aj.icmp_geN (a := o) (b := 6) (tgt := 20) dX6_settle_7 e_o rfl (by omega) (by omega) rfl (fun c7 => ?_) (fun c7 => ?_)
  · exact absurd c7 (by omega)
  · refine aj.iload_n dX6_settle_10 rfl ?_
    refine aj.if_ltN (a := h) (tgt := 20) dX6_settle_11 e_h (by omega) rfl ?_
    refine aj.iload_n dX6_settle_14 rfl ?_
    refine aj.bipush (v := 6) dX6_settle_15 rfl ?_
    refine aj.icmp_ltN (a := h) (b := 6) (tgt := 21) dX6_settle_17 e_h rfl (by omega) (by omega) rfl (fun c17 => ?_) (fun c17 => ?_)
    · refine aj.aload_n dX6_settle_21 rfl ?_
      refine aj.iload_n dX6_settle_22 rfl ?_
      refine aj.iconst (v := 1) dX6_settle_23 rfl ?_
      refine aj.iaddN (a := o) (b := 1) dX6_settle_24 e_o rfl ?_
      refine aj.iload_n dX6_settle_25 rfl ?_
      refine aj.callE1 (d' := 0) (As := [.int (nI (o + 1)), .int x_h]) (rest := []) dX6_settle_26 v_X6_29 li_X6_worth ⟨_, hA.ob (i := 54) rfl (by decide)⟩ rfl rfl rfl (Nat.le_of_ble_eq_true rfl) (Nat.le_of_ble_eq_true rfl) (k_rpWorth (o + 1) rfl h e_h (by omega) (by omega) hA) (fun M hM => ?_)
      subst hM
      refine aj.lstore (lv' := [(6, .long (W 55 ((o + 1) * 6 + h))), (0, .ref (a + 54)), (1, .ref (a + (71 + 4 * o))), (2, .int x_o), (3, .int x_h), (4, .int (zb (op))), (5, .int (B 5))]) dX6_settle_29 (Nat.le_of_ble_eq_true rfl) rfl ?_
      refine aj.iload dX6_settle_31 rfl ?_
      refine aj.if_eqB (tgt := 49) dX6_settle_33 rfl (fun c33 => ?_) (fun c33 => ?_)
      · refine aj.lload dX6_settle_49 rfl ?_
        refine aj.lstore (lv' := [(8, .long (W 55 ((o + 1) * 6 + h))), (6, .long (W 55 ((o + 1) * 6 + h))), (0, .ref (a + 54)), (1, .ref (a + (71 + 4 * o))), (2, .int x_o), (3, .int x_h), (4, .int (zb (op))), (5, .int (B 5))]) dX6_settle_51 (Nat.le_of_ble_eq_true rfl) rfl ?_
        refine aj.lconst (v := 0) dX6_settle_53 rfl ?_
        refine aj.lstore (lv' := [(10, .long 0), (8, .long (W 55 ((o + 1) * 6 + h))), (6, .long (W 55 ((o + 1) * 6 + h))), (0, .ref (a + 54)), (1, .ref (a + (71 + 4 * o))), (2, .int x_o), (3, .int x_h), (4, .int (zb (op))), (5, .int (B 5))]) dX6_settle_54 (Nat.le_of_ble_eq_true rfl) rfl ?_
        refine aj.aload_n dX6_settle_56 rfl ?_
        refine aj.iconst (v := (-1)) dX6_settle_57 rfl ?_
        refine pX6_first (i := 54) rfl hA w330 dX6_settle_58 (fun M hA => ?_)
        refine aj.iconst (v := 0) dX6_settle_61 rfl ?_
        refine aj.istore (lv' := [(12, .int 0), (10, .long 0), (8, .long (W 55 ((o + 1) * 6 + h))), (6, .long (W 55 ((o + 1) * 6 + h))), (0, .ref (a + 54)), (1, .ref (a + (71 + 4 * o))), (2, .int x_o), (3, .int x_h), (4, .int (zb (op))), (5, .int (B 5))]) dX6_settle_62 (Nat.le_of_ble_eq_true rfl) rfl ?_
        refine aj.pick [0, 1, 2, 3, 4, 5, 6, 7, 8, 9] rfl ?_
        have key := settle_lp (G := G) (l := l) o e_o h e_h ho hh op hT hsc h0 h1 h2 hF hF21 hFb 21 0 0 _ M (by omega) (show upd (V 54) 0 (-1) 0 = -1 from pk_us) hA
        rw [if_neg c33] at key
        rw [h1]
        exact key
      · refine aj.aload_n dX6_settle_36 rfl ?_
        refine aj.iload_n dX6_settle_37 rfl ?_
        refine aj.iconst (v := 1) dX6_settle_38 rfl ?_
        refine aj.iaddN (a := o) (b := 1) dX6_settle_39 e_o rfl ?_
        refine aj.iload_n dX6_settle_40 rfl ?_
        refine aj.iconst (v := 1) dX6_settle_41 rfl ?_
        refine aj.iaddN (a := h) (b := 1) dX6_settle_42 e_h rfl ?_
        refine aj.callE1 (d' := 0) (As := [.int (nI (o + 1)), .int (nI (h + 1))]) (rest := []) dX6_settle_43 v_X6_29 li_X6_worth ⟨_, hA.ob (i := 54) rfl (by decide)⟩ rfl rfl rfl (Nat.le_of_ble_eq_true rfl) (Nat.le_of_ble_eq_true rfl) (k_rpWorth (o + 1) rfl (h + 1) rfl (by omega) (by omega) hA) (fun M hM => ?_)
        subst hM
        refine aj.goto (tgt := 51) dX6_settle_46 rfl ?_
        refine aj.lstore (lv' := [(8, .long (W 55 ((o + 1) * 6 + (h + 1)))), (6, .long (W 55 ((o + 1) * 6 + h))), (0, .ref (a + 54)), (1, .ref (a + (71 + 4 * o))), (2, .int x_o), (3, .int x_h), (4, .int (zb (op))), (5, .int (B 5))]) dX6_settle_51 (Nat.le_of_ble_eq_true rfl) rfl ?_
        refine aj.lconst (v := 0) dX6_settle_53 rfl ?_
        refine aj.lstore (lv' := [(10, .long 0), (8, .long (W 55 ((o + 1) * 6 + (h + 1)))), (6, .long (W 55 ((o + 1) * 6 + h))), (0, .ref (a + 54)), (1, .ref (a + (71 + 4 * o))), (2, .int x_o), (3, .int x_h), (4, .int (zb (op))), (5, .int (B 5))]) dX6_settle_54 (Nat.le_of_ble_eq_true rfl) rfl ?_
        refine aj.aload_n dX6_settle_56 rfl ?_
        refine aj.iconst (v := (-1)) dX6_settle_57 rfl ?_
        refine pX6_first (i := 54) rfl hA w330 dX6_settle_58 (fun M hA => ?_)
        refine aj.iconst (v := 0) dX6_settle_61 rfl ?_
        refine aj.istore (lv' := [(12, .int 0), (10, .long 0), (8, .long (W 55 ((o + 1) * 6 + (h + 1)))), (6, .long (W 55 ((o + 1) * 6 + h))), (0, .ref (a + 54)), (1, .ref (a + (71 + 4 * o))), (2, .int x_o), (3, .int x_h), (4, .int (zb (op))), (5, .int (B 5))]) dX6_settle_62 (Nat.le_of_ble_eq_true rfl) rfl ?_
        refine aj.pick [0, 1, 2, 3, 4, 5, 6, 7, 8, 9] rfl ?_
        have key := settle_lp (G := G) (l := l) o e_o h e_h ho hh op hT hsc h0 h1 h2 hF hF21 hFb 21 0 0 _ M (by omega) (show upd (V 54) 0 (-1) 0 = -1 from pk_us) hA
        rw [if_pos c33] at key
        rw [h1, h2]
        exact key
    · exact absurd c17 (by omega)
