def kTb (o : Nat) : Prop := kd o = (18, 0) ∧ kd (o + 1) = (0, 210) ∧ kd (o + 2) = (0, 21) ∧ kd (o + 3) = (0, 21)
theorem kTb_j : ∀ j, j < 4 → kTb (71 + 4 * j) := by unfold kTb; decide
theorem kTb_ge {o : Nat} (h : kTb o) : 71 ≤ o ∧ o < 87 := by
  have h0 : ∀ j, j < 87 → kd j = (18, 0) → 71 ≤ j := by decide
  have hi := (kIn_of h.1 (by decide)).1
  exact ⟨h0 o hi h.1, hi⟩
/-- a table, so far filled -/
def tbI (B : Nat → Int32) (sl : Option (List Nat)) (sh : Int32) (age wd : Nat) (V : Nat → Nat → Int32) (o i j : Nat) : Prop := ∀ aim, aim < 21 → (∀ lot, (lot < i ∨ (lot = i ∧ aim < j)) → lot < 10 → V (o + 1) (aim * 10 + lot) = nI (mLand sl sh age wd aim lot)) ∧ V (o + 2) aim = nI (zcnt (fun lot => mFar B (nI (mLand sl sh age wd aim lot)) = 0) (if aim < j then i + 1 else i)) ∧ V (o + 3) aim = zsum (fun lot => mScore B (nI (mLand sl sh age wd aim lot)) False) (if aim < j then i + 1 else i)
def tbE (V V1 : Nat → Nat → Int32) (o : Nat) : Prop := ∀ q, q ≠ 50 → q ≠ 51 → q ≠ o + 1 → q ≠ o + 2 → q ≠ o + 3 → V1 q = V q
/-- a table, filled -/
def tbF (B : Nat → Int32) (sl : Option (List Nat)) (sh : Int32) (age wd : Nat) (V : Nat → Nat → Int32) (o : Nat) : Prop := ∀ aim, aim < 21 → (∀ lot, lot < 10 → V (o + 1) (aim * 10 + lot) = nI (mLand sl sh age wd aim lot)) ∧ V (o + 2) aim = nI (zcnt (fun lot => mFar B (nI (mLand sl sh age wd aim lot)) = 0) 10) ∧ V (o + 3) aim = zsum (fun lot => mScore B (nI (mLand sl sh age wd aim lot)) False) 10
theorem tbI_step {B : Nat → Int32} {sl : Option (List Nat)} {sh : Int32} {age wd : Nat} {V V2 : Nat → Nat → Int32} {o i j : Nat} (h : tbI B sl sh age wd V o i j) (hj : j < 21) (hi : i < 10) (h1 : ∀ x, V2 (o + 1) x = if x = j * 10 + i then nI (mLand sl sh age wd j i) else V (o + 1) x) (h2 : ∀ x, V2 (o + 2) x = if x = j ∧ mFar B (nI (mLand sl sh age wd j i)) = 0 then V (o + 2) j + 1 else V (o + 2) x) (h3 : ∀ x, V2 (o + 3) x = if x = j ∧ ¬ mFar B (nI (mLand sl sh age wd j i)) = 0 then V (o + 3) j + mScore B (nI (mLand sl sh age wd j i)) False else V (o + 3) x) : tbI B sl sh age wd V2 o i (j + 1) := by
  intro aim ha
  obtain ⟨g1, g2, g3⟩ := h aim ha
  refine ⟨fun lot hl h10 => ?_, ?_, ?_⟩
  · rw [h1]
    by_cases e : aim * 10 + lot = j * 10 + i
    · have e1 : aim = j ∧ lot = i := by omega
      rw [if_pos e, e1.1, e1.2]
    · rw [if_neg e]
      exact g1 lot (by omega) h10
  · rw [h2]
    by_cases e : aim = j
    · subst e
      rw [if_pos (show aim < aim + 1 by omega), zcnt_s]
      rw [if_neg (show ¬ aim < aim by omega)] at g2
      by_cases q : mFar B (nI (mLand sl sh age wd aim i)) = 0
      · rw [if_pos ⟨rfl, q⟩, if_pos q, g2]; exact nI_add _ 1
      · rw [if_neg (fun z => q z.2), if_neg q, g2]; rfl
    · rw [if_neg (fun z => e z.1), g2]
      by_cases q : aim < j
      · rw [if_pos q, if_pos (by omega)]
      · rw [if_neg q, if_neg (by omega)]
  · rw [h3]
    by_cases e : aim = j
    · subst e
      rw [if_pos (show aim < aim + 1 by omega), zsum_s]
      rw [if_neg (show ¬ aim < aim by omega)] at g3
      by_cases q : mFar B (nI (mLand sl sh age wd aim i)) = 0
      · rw [if_neg (fun z => z.2 q), g3]
        have e0 : mScore B (nI (mLand sl sh age wd aim i)) False = 0 := by unfold mScore; rw [if_pos q, if_neg (fun z => z)]
        rw [e0, Int32.add_zero]
      · rw [if_pos ⟨rfl, q⟩, g3]
    · rw [if_neg (fun z => e z.1), g3]
      by_cases q : aim < j
      · rw [if_pos q, if_pos (by omega)]
      · rw [if_neg q, if_neg (by omega)]
theorem tbI_row {B : Nat → Int32} {sl : Option (List Nat)} {sh : Int32} {age wd : Nat} {V : Nat → Nat → Int32} {o i : Nat} (h : tbI B sl sh age wd V o i 21) : tbI B sl sh age wd V o (i + 1) 0 := by
  intro aim ha
  obtain ⟨g1, g2, g3⟩ := h aim ha
  rw [if_pos ha] at g2 g3
  exact ⟨fun lot hl h10 => g1 lot (by omega) h10, by rw [if_neg (by omega)]; exact g2, by rw [if_neg (by omega)]; exact g3⟩
theorem tbI_all {B : Nat → Int32} {sl : Option (List Nat)} {sh : Int32} {age wd : Nat} {V : Nat → Nat → Int32} {o : Nat} (h : tbI B sl sh age wd V o 10 0) : tbF B sl sh age wd V o := by
  intro aim ha
  obtain ⟨g1, g2, g3⟩ := h aim ha
  rw [if_neg (by omega)] at g2 g3
  exact ⟨fun lot hl => g1 lot (by omega) hl, g2, g3⟩
theorem tbI_cong {B : Nat → Int32} {sl : Option (List Nat)} {sh : Int32} {age wd : Nat} {V V2 : Nat → Nat → Int32} {o i j : Nat} (h : tbI B sl sh age wd V o i j) (h1 : V2 (o + 1) = V (o + 1)) (h2 : V2 (o + 2) = V (o + 2)) (h3 : V2 (o + 3) = V (o + 3)) : tbI B sl sh age wd V2 o i j := by
  intro aim ha
  rw [h1, h2, h3]
  exact h aim ha
def nA (sl : Option (List Nat)) : Bool := match sl with
  | none => false
  | some cs => decide (1004 ∈ cs)
theorem nA_no {sl : Option (List Nat)} (h : ¬ nA sl = true) (hd : dLaw sl false [0, 1, 2, 3, 4]) (sh : Int32) (age wd aim lot : Nat) : mStray sl sh age wd aim lot = mStray sl sh age wd 0 lot := by
  match sl, h, hd with
  | none, _, _ => rfl
  | some cs, h, hd =>
    have h' : ¬ 1004 ∈ cs := fun z => h (decide_eq_true z)
    unfold mStray
    refine congrArg (fun q : List Int32 => q.headD 0) (lwRun_congr (fun c hc h5 h6 => ?_) [])
    have h7 := (hd cs rfl).2 c hc h5 h6
    have h8 : c - 1000 ≠ 4 := fun z => h' (by rw [show (1004 : Nat) = c by omega]; exact hc)
    simp only [List.mem_cons, List.not_mem_nil, or_false] at h7
    rcases h7 with e | e | e | e | e
    · rw [e]; rfl
    · rw [e]; rfl
    · rw [e]; rfl
    · rw [e]; rfl
    · exact absurd e h8
theorem fill_in {G : zG} {l : Launch} {a : Nat} {M0 : zM} {V : Nat → Nat → Int32} {W : Nat → Nat → Int64} {R : Nat → Nat → Option Nat} {t : Nat} {B : Nat → Int32} {sl ol : Option (List Nat)} {o : Nat} (hk : kTb o) {sh : Int32} (age : Nat) {x_age : Int32} (e_age : x_age = nI age) (wd : Nat) {x_wd : Int32} (e_wd : x_wd = nI wd) (hage : age < 2 ^ 31) (hb : bW a M0 t B sl ol) (hd0 : dLaw sl false [0, 1, 2, 3, 4]) {Q : Option Value → zM → Prop} {i : Nat} (hi : i < 10) (hc : ∀ (V1 : Nat → Nat → Int32) (M : zM), tbI B sl sh age wd V1 o i 21 → tbE V V1 o → kA a M0 M V1 W R → aj G l kX8_fill 4 171 [(7, .int (nI i)), (0, .ref (a + o)), (1, .ref (a + 49)), (2, .ref t), (3, .int sh), (4, .int x_age), (5, .int x_wd), (6, .int (zb (nA sl = true)))] [] M 0 0 Q) : ∀ (n j : Nat) (V1 : Nat → Nat → Int32) (s8 : Int32) (M : zM), j + n = 21 → s8 = mKept (mStray sl sh age wd (j - 1) i) (-9) 9 → tbI B sl sh age wd V1 o i j → tbE V V1 o → kA a M0 M V1 W R → aj G l kX8_fill 4 68 [(9, .int (nI j)), (8, .int s8), (7, .int (nI i)), (0, .ref (a + o)), (1, .ref (a + 49)), (2, .ref t), (3, .int sh), (4, .int x_age), (5, .int x_wd), (6, .int (zb (nA sl = true)))] [] M 0 0 Q := by
  have hge := kTb_ge hk
  intro n
  induction n with
  | zero =>
    intro j V1 s8 M hin h8 hI hE hA
    refine aj.iload dX8_fill_68 rfl ?_
    refine aj.bipush (v := 21) dX8_fill_70 rfl ?_
    refine aj.icmp_geN (a := j) (b := 21) (tgt := 171) dX8_fill_72 rfl rfl (by omega) (by omega) rfl (fun c72 => ?_) (fun c72 => ?_)
    · have hj : j = 21 := by omega
      subst hj
      refine aj.pick [2, 3, 4, 5, 6, 7, 8, 9] rfl ?_
      exact hc V1 M hI hE hA
    · exact absurd c72 (by omega)
  | succ n ih =>
    intro j V1 s8 M hin h8 hI hE hA
    refine aj.iload dX8_fill_68 rfl ?_
    refine aj.bipush (v := 21) dX8_fill_70 rfl ?_
    refine aj.icmp_geN (a := j) (b := 21) (tgt := 171) dX8_fill_72 rfl rfl (by omega) (by omega) rfl (fun c72 => ?_) (fun c72 => ?_)
    · exact absurd c72 (by omega)
    · refine aj.iload dX8_fill_75 rfl ?_
      refine aj.if_eqB (tgt := 101) dX8_fill_77 rfl (fun c77 => ?_) (fun c77 => ?_)
      · refine aj.iload dX8_fill_101 rfl ?_
        refine aj.iload dX8_fill_103 rfl ?_
        have e8 : s8 = mKept (mStray sl sh age wd j i) (-9) 9 := by rw [h8, nA_no c77 hd0, nA_no c77 hd0 sh age wd j i]
        refine aj.callS1 (d' := 1) (As := [.int (nI j), .int s8]) (rest := []) dX8_fill_105 v_X8_45 w787 rfl rfl (Nat.le_of_ble_eq_true rfl) (Nat.le_of_ble_eq_true rfl) (k_placeOf _ (nI j) s8) (fun M hM => ?_)
        subst hM
        have epl : mKept (nI j + s8) 0 20 = nI (mLand sl sh age wd j i) := by rw [e8]; exact (mKept_20 _).1
        rw [epl]
        refine aj.istore (lv' := [(10, .int (nI (mLand sl sh age wd j i))), (9, .int (nI j)), (8, .int s8), (7, .int (nI i)), (0, .ref (a + o)), (1, .ref (a + 49)), (2, .ref t), (3, .int sh), (4, .int x_age), (5, .int x_wd), (6, .int (zb (nA sl = true)))]) dX8_fill_108 (Nat.le_of_ble_eq_true rfl) rfl ?_
        refine aj.aload_n dX8_fill_110 rfl ?_
        refine gX8_landings (i := o) hk.1 hA w365 dX8_fill_111 ?_
        refine aj.iload dX8_fill_114 rfl ?_
        refine aj.bipush (v := 10) dX8_fill_116 rfl ?_
        refine aj.imulN (a := j) (b := 10) dX8_fill_118 rfl rfl ?_
        refine aj.iload dX8_fill_119 rfl ?_
        refine aj.iaddN (a := j * 10) (b := i) dX8_fill_121 rfl rfl ?_
        refine aj.iload dX8_fill_122 rfl ?_
        refine aj.kS (i := (o + 1)) (j := (j * 10) + i) hk.2.1 dX8_fill_124 hA rfl (by omega) (by decide) (fun M hA => ?_)
        refine aj.aload_n dX8_fill_125 rfl ?_
        refine aj.iload dX8_fill_126 rfl ?_
        refine aj.callE1 (d' := 0) (As := [.int (nI (mLand sl sh age wd j i))]) (rest := []) dX8_fill_128 v_X8_49 li_X0_distance (hA.bw hb).ob rfl rfl rfl (Nat.le_of_ble_eq_true rfl) (Nat.le_of_ble_eq_true rfl) (k_distance (nI (mLand sl sh age wd j i)) (hA.bw hb)) (fun M hM => ?_)
        subst hM
        refine aj.if_ne (tgt := 148) dX8_fill_131 rfl (fun c131 => ?_) (fun c131 => ?_)
        · refine aj.aload_n dX8_fill_148 rfl ?_
          refine gX8_missed (i := o) hk.1 hA w367 dX8_fill_149 ?_
          refine aj.iload dX8_fill_152 rfl ?_
          refine aj.dup2 dX8_fill_154 rfl rfl ?_
          refine aj.kL (i := (o + 3)) (j := j) hk.2.2.2 dX8_fill_155 hA rfl (by omega) (by decide) ?_
          refine aj.aload_n dX8_fill_156 rfl ?_
          refine aj.iload dX8_fill_157 rfl ?_
          refine aj.iconst (v := 0) dX8_fill_159 rfl ?_
          refine aj.callE1 (d' := 1) (As := [.int (nI (mLand sl sh age wd j i)), .int 0]) (rest := [.int ((va_up V1 (o + 1) (upd (V1 (o + 1)) ((j * 10) + i) (nI (mLand sl sh age wd j i)))) (o + 3) j), .int (nI j), .ref (a + (o + 3))]) dX8_fill_160 v_X8_53 li_X0_worth (hA.bw hb).ob rfl rfl rfl (Nat.le_of_ble_eq_true rfl) (Nat.le_of_ble_eq_true rfl) (k_worth (nI (mLand sl sh age wd j i)) (False) (hA.bw hb)) (fun M hM => ?_)
          subst hM
          refine aj.iadd dX8_fill_163 ?_
          refine aj.kS (i := (o + 3)) (j := j) hk.2.2.2 dX8_fill_164 hA rfl (by omega) (by decide) (fun M hA => ?_)
          refine aj.iincN (a := j) (c := 1) (lv' := [(9, .int (nI (j + 1))), (10, .int (nI (mLand sl sh age wd j i))), (8, .int s8), (7, .int (nI i)), (0, .ref (a + o)), (1, .ref (a + 49)), (2, .ref t), (3, .int sh), (4, .int x_age), (5, .int x_wd), (6, .int (zb (nA sl = true)))]) dX8_fill_165 rfl (Nat.le_of_ble_eq_true rfl) rfl rfl rfl ?_
          refine aj.goto (tgt := 68) dX8_fill_168 rfl ?_
          refine aj.pick [0, 2, 3, 4, 5, 6, 7, 8, 9, 10] rfl ?_
          exact ih (j + 1) _ _ M (by omega) (by rw [Nat.add_sub_cancel]; exact e8) (tbI_step hI (by omega) hi (fun x => by rw [va_up_ne _ _ (show o + 1 ≠ o + 3 by omega), va_up_self]; rfl) (fun x => by rw [va_up_ne _ _ (show o + 2 ≠ o + 3 by omega), va_up_ne _ _ (show o + 2 ≠ o + 1 by omega), if_neg (fun z => c131 z.2)]) (fun x => by
            rw [va_up_self, va_up_ne _ _ (show o + 3 ≠ o + 1 by omega)]
            show (if x = j then _ else _) = _
            by_cases e : x = j
            · rw [if_pos e, if_pos ⟨e, c131⟩]
            · rw [if_neg e, if_neg (fun z => e z.1)])) (fun q q0 q1 q2 q3 q4 => by rw [va_up_ne _ _ q4, va_up_ne _ _ q2]; exact hE q q0 q1 q2 q3 q4) hA
        · refine aj.aload_n dX8_fill_134 rfl ?_
          refine gX8_touched (i := o) hk.1 hA w366 dX8_fill_135 ?_
          refine aj.iload dX8_fill_138 rfl ?_
          refine aj.dup2 dX8_fill_140 rfl rfl ?_
          refine aj.kL (i := (o + 2)) (j := j) hk.2.2.1 dX8_fill_141 hA rfl (by omega) (by decide) ?_
          refine aj.iconst (v := 1) dX8_fill_142 rfl ?_
          refine aj.iadd dX8_fill_143 ?_
          refine aj.kS (i := (o + 2)) (j := j) hk.2.2.1 dX8_fill_144 hA rfl (by omega) (by decide) (fun M hA => ?_)
          refine aj.goto (tgt := 165) dX8_fill_145 rfl ?_
          refine aj.iincN (a := j) (c := 1) (lv' := [(9, .int (nI (j + 1))), (10, .int (nI (mLand sl sh age wd j i))), (8, .int s8), (7, .int (nI i)), (0, .ref (a + o)), (1, .ref (a + 49)), (2, .ref t), (3, .int sh), (4, .int x_age), (5, .int x_wd), (6, .int (zb (nA sl = true)))]) dX8_fill_165 rfl (Nat.le_of_ble_eq_true rfl) rfl rfl rfl ?_
          refine aj.goto (tgt := 68) dX8_fill_168 rfl ?_
          refine aj.pick [0, 2, 3, 4, 5, 6, 7, 8, 9, 10] rfl ?_
          exact ih (j + 1) _ _ M (by omega) (by rw [Nat.add_sub_cancel]; exact e8) (tbI_step hI (by omega) hi (fun x => by rw [va_up_ne _ _ (show o + 1 ≠ o + 2 by omega), va_up_self]; rfl) (fun x => by
            rw [va_up_self, va_up_ne _ _ (show o + 2 ≠ o + 1 by omega)]
            show (if x = j then _ else _) = _
            by_cases e : x = j
            · rw [if_pos e, if_pos ⟨e, c131⟩]
            · rw [if_neg e, if_neg (fun z => e z.1)]) (fun x => by rw [va_up_ne _ _ (show o + 3 ≠ o + 2 by omega), va_up_ne _ _ (show o + 3 ≠ o + 1 by omega), if_neg (fun z => z.2 c131)])) (fun q q0 q1 q2 q3 q4 => by rw [va_up_ne _ _ q3, va_up_ne _ _ q2]; exact hE q q0 q1 q2 q3 q4) hA
      · refine aj.iload dX8_fill_80 rfl ?_
        refine aj.if_leN (a := j) (tgt := 101) dX8_fill_82 rfl (by omega) rfl (fun c82 => ?_) (fun c82 => ?_)
        · refine aj.iload dX8_fill_101 rfl ?_
          refine aj.iload dX8_fill_103 rfl ?_
          have e8 : s8 = mKept (mStray sl sh age wd j i) (-9) 9 := by rw [h8, c82]
          refine aj.callS1 (d' := 1) (As := [.int (nI j), .int s8]) (rest := []) dX8_fill_105 v_X8_45 w787 rfl rfl (Nat.le_of_ble_eq_true rfl) (Nat.le_of_ble_eq_true rfl) (k_placeOf _ (nI j) s8) (fun M hM => ?_)
          subst hM
          have epl : mKept (nI j + s8) 0 20 = nI (mLand sl sh age wd j i) := by rw [e8]; exact (mKept_20 _).1
          rw [epl]
          refine aj.istore (lv' := [(10, .int (nI (mLand sl sh age wd j i))), (9, .int (nI j)), (8, .int s8), (7, .int (nI i)), (0, .ref (a + o)), (1, .ref (a + 49)), (2, .ref t), (3, .int sh), (4, .int x_age), (5, .int x_wd), (6, .int (zb (nA sl = true)))]) dX8_fill_108 (Nat.le_of_ble_eq_true rfl) rfl ?_
          refine aj.aload_n dX8_fill_110 rfl ?_
          refine gX8_landings (i := o) hk.1 hA w365 dX8_fill_111 ?_
          refine aj.iload dX8_fill_114 rfl ?_
          refine aj.bipush (v := 10) dX8_fill_116 rfl ?_
          refine aj.imulN (a := j) (b := 10) dX8_fill_118 rfl rfl ?_
          refine aj.iload dX8_fill_119 rfl ?_
          refine aj.iaddN (a := j * 10) (b := i) dX8_fill_121 rfl rfl ?_
          refine aj.iload dX8_fill_122 rfl ?_
          refine aj.kS (i := (o + 1)) (j := (j * 10) + i) hk.2.1 dX8_fill_124 hA rfl (by omega) (by decide) (fun M hA => ?_)
          refine aj.aload_n dX8_fill_125 rfl ?_
          refine aj.iload dX8_fill_126 rfl ?_
          refine aj.callE1 (d' := 0) (As := [.int (nI (mLand sl sh age wd j i))]) (rest := []) dX8_fill_128 v_X8_49 li_X0_distance (hA.bw hb).ob rfl rfl rfl (Nat.le_of_ble_eq_true rfl) (Nat.le_of_ble_eq_true rfl) (k_distance (nI (mLand sl sh age wd j i)) (hA.bw hb)) (fun M hM => ?_)
          subst hM
          refine aj.if_ne (tgt := 148) dX8_fill_131 rfl (fun c131 => ?_) (fun c131 => ?_)
          · refine aj.aload_n dX8_fill_148 rfl ?_
            refine gX8_missed (i := o) hk.1 hA w367 dX8_fill_149 ?_
            refine aj.iload dX8_fill_152 rfl ?_
            refine aj.dup2 dX8_fill_154 rfl rfl ?_
            refine aj.kL (i := (o + 3)) (j := j) hk.2.2.2 dX8_fill_155 hA rfl (by omega) (by decide) ?_
            refine aj.aload_n dX8_fill_156 rfl ?_
            refine aj.iload dX8_fill_157 rfl ?_
            refine aj.iconst (v := 0) dX8_fill_159 rfl ?_
            refine aj.callE1 (d' := 1) (As := [.int (nI (mLand sl sh age wd j i)), .int 0]) (rest := [.int ((va_up V1 (o + 1) (upd (V1 (o + 1)) ((j * 10) + i) (nI (mLand sl sh age wd j i)))) (o + 3) j), .int (nI j), .ref (a + (o + 3))]) dX8_fill_160 v_X8_53 li_X0_worth (hA.bw hb).ob rfl rfl rfl (Nat.le_of_ble_eq_true rfl) (Nat.le_of_ble_eq_true rfl) (k_worth (nI (mLand sl sh age wd j i)) (False) (hA.bw hb)) (fun M hM => ?_)
            subst hM
            refine aj.iadd dX8_fill_163 ?_
            refine aj.kS (i := (o + 3)) (j := j) hk.2.2.2 dX8_fill_164 hA rfl (by omega) (by decide) (fun M hA => ?_)
            refine aj.iincN (a := j) (c := 1) (lv' := [(9, .int (nI (j + 1))), (10, .int (nI (mLand sl sh age wd j i))), (8, .int s8), (7, .int (nI i)), (0, .ref (a + o)), (1, .ref (a + 49)), (2, .ref t), (3, .int sh), (4, .int x_age), (5, .int x_wd), (6, .int (zb (nA sl = true)))]) dX8_fill_165 rfl (Nat.le_of_ble_eq_true rfl) rfl rfl rfl ?_
            refine aj.goto (tgt := 68) dX8_fill_168 rfl ?_
            refine aj.pick [0, 2, 3, 4, 5, 6, 7, 8, 9, 10] rfl ?_
            exact ih (j + 1) _ _ M (by omega) (by rw [Nat.add_sub_cancel]; exact e8) (tbI_step hI (by omega) hi (fun x => by rw [va_up_ne _ _ (show o + 1 ≠ o + 3 by omega), va_up_self]; rfl) (fun x => by rw [va_up_ne _ _ (show o + 2 ≠ o + 3 by omega), va_up_ne _ _ (show o + 2 ≠ o + 1 by omega), if_neg (fun z => c131 z.2)]) (fun x => by
              rw [va_up_self, va_up_ne _ _ (show o + 3 ≠ o + 1 by omega)]
              show (if x = j then _ else _) = _
              by_cases e : x = j
              · rw [if_pos e, if_pos ⟨e, c131⟩]
              · rw [if_neg e, if_neg (fun z => e z.1)])) (fun q q0 q1 q2 q3 q4 => by rw [va_up_ne _ _ q4, va_up_ne _ _ q2]; exact hE q q0 q1 q2 q3 q4) hA
          · refine aj.aload_n dX8_fill_134 rfl ?_
            refine gX8_touched (i := o) hk.1 hA w366 dX8_fill_135 ?_
            refine aj.iload dX8_fill_138 rfl ?_
            refine aj.dup2 dX8_fill_140 rfl rfl ?_
            refine aj.kL (i := (o + 2)) (j := j) hk.2.2.1 dX8_fill_141 hA rfl (by omega) (by decide) ?_
            refine aj.iconst (v := 1) dX8_fill_142 rfl ?_
            refine aj.iadd dX8_fill_143 ?_
            refine aj.kS (i := (o + 2)) (j := j) hk.2.2.1 dX8_fill_144 hA rfl (by omega) (by decide) (fun M hA => ?_)
            refine aj.goto (tgt := 165) dX8_fill_145 rfl ?_
            refine aj.iincN (a := j) (c := 1) (lv' := [(9, .int (nI (j + 1))), (10, .int (nI (mLand sl sh age wd j i))), (8, .int s8), (7, .int (nI i)), (0, .ref (a + o)), (1, .ref (a + 49)), (2, .ref t), (3, .int sh), (4, .int x_age), (5, .int x_wd), (6, .int (zb (nA sl = true)))]) dX8_fill_165 rfl (Nat.le_of_ble_eq_true rfl) rfl rfl rfl ?_
            refine aj.goto (tgt := 68) dX8_fill_168 rfl ?_
            refine aj.pick [0, 2, 3, 4, 5, 6, 7, 8, 9, 10] rfl ?_
            exact ih (j + 1) _ _ M (by omega) (by rw [Nat.add_sub_cancel]; exact e8) (tbI_step hI (by omega) hi (fun x => by rw [va_up_ne _ _ (show o + 1 ≠ o + 2 by omega), va_up_self]; rfl) (fun x => by
              rw [va_up_self, va_up_ne _ _ (show o + 2 ≠ o + 1 by omega)]
              show (if x = j then _ else _) = _
              by_cases e : x = j
              · rw [if_pos e, if_pos ⟨e, c131⟩]
              · rw [if_neg e, if_neg (fun z => e z.1)]) (fun x => by rw [va_up_ne _ _ (show o + 3 ≠ o + 2 by omega), va_up_ne _ _ (show o + 3 ≠ o + 1 by omega), if_neg (fun z => z.2 c131)])) (fun q q0 q1 q2 q3 q4 => by rw [va_up_ne _ _ q3, va_up_ne _ _ q2]; exact hE q q0 q1 q2 q3 q4) hA
        · refine aj.aload_n dX8_fill_85 rfl ?_
          refine aj.aload_n dX8_fill_86 rfl ?_
          refine aj.iload_n dX8_fill_87 rfl ?_
          refine aj.iload dX8_fill_88 rfl ?_
          refine aj.iload dX8_fill_90 rfl ?_
          refine aj.iload dX8_fill_92 rfl ?_
          refine aj.iload dX8_fill_94 rfl ?_
          refine aj.callE1 (d' := 3) (As := [.ref t, .int sh, .int x_age, .int x_wd, .int (nI j), .int (nI i)]) (rest := []) dX8_fill_96 v_X8_39 li_X4_stray ⟨_, hA.ob (i := 49) rfl (by decide)⟩ rfl rfl rfl (Nat.le_of_ble_eq_true rfl) (Nat.le_of_ble_eq_true rfl) (k_stray sh age e_age wd e_wd j rfl i rfl (by omega) hb hd0 hA) (fun M hM => ?_)
          obtain ⟨v1, v2, hA⟩ := hM
          refine aj.istore (lv' := [(8, .int (mKept (mStray sl sh age wd j i) (-9) 9)), (9, .int (nI j)), (7, .int (nI i)), (0, .ref (a + o)), (1, .ref (a + 49)), (2, .ref t), (3, .int sh), (4, .int x_age), (5, .int x_wd), (6, .int (zb (nA sl = true)))]) dX8_fill_99 (Nat.le_of_ble_eq_true rfl) rfl ?_
          refine aj.iload dX8_fill_101 rfl ?_
          refine aj.iload dX8_fill_103 rfl ?_
          refine aj.callS1 (d' := 1) (As := [.int (nI j), .int (mKept (mStray sl sh age wd j i) (-9) 9)]) (rest := []) dX8_fill_105 v_X8_45 w787 rfl rfl (Nat.le_of_ble_eq_true rfl) (Nat.le_of_ble_eq_true rfl) (k_placeOf _ (nI j) (mKept (mStray sl sh age wd j i) (-9) 9)) (fun M hM => ?_)
          subst hM
          have epl : mKept (nI j + (mKept (mStray sl sh age wd j i) (-9) 9)) 0 20 = nI (mLand sl sh age wd j i) := by exact (mKept_20 _).1
          rw [epl]
          refine aj.istore (lv' := [(10, .int (nI (mLand sl sh age wd j i))), (8, .int (mKept (mStray sl sh age wd j i) (-9) 9)), (9, .int (nI j)), (7, .int (nI i)), (0, .ref (a + o)), (1, .ref (a + 49)), (2, .ref t), (3, .int sh), (4, .int x_age), (5, .int x_wd), (6, .int (zb (nA sl = true)))]) dX8_fill_108 (Nat.le_of_ble_eq_true rfl) rfl ?_
          refine aj.aload_n dX8_fill_110 rfl ?_
          refine gX8_landings (i := o) hk.1 hA w365 dX8_fill_111 ?_
          refine aj.iload dX8_fill_114 rfl ?_
          refine aj.bipush (v := 10) dX8_fill_116 rfl ?_
          refine aj.imulN (a := j) (b := 10) dX8_fill_118 rfl rfl ?_
          refine aj.iload dX8_fill_119 rfl ?_
          refine aj.iaddN (a := j * 10) (b := i) dX8_fill_121 rfl rfl ?_
          refine aj.iload dX8_fill_122 rfl ?_
          refine aj.kS (i := (o + 1)) (j := (j * 10) + i) hk.2.1 dX8_fill_124 hA rfl (by omega) (by decide) (fun M hA => ?_)
          refine aj.aload_n dX8_fill_125 rfl ?_
          refine aj.iload dX8_fill_126 rfl ?_
          refine aj.callE1 (d' := 0) (As := [.int (nI (mLand sl sh age wd j i))]) (rest := []) dX8_fill_128 v_X8_49 li_X0_distance (hA.bw hb).ob rfl rfl rfl (Nat.le_of_ble_eq_true rfl) (Nat.le_of_ble_eq_true rfl) (k_distance (nI (mLand sl sh age wd j i)) (hA.bw hb)) (fun M hM => ?_)
          subst hM
          refine aj.if_ne (tgt := 148) dX8_fill_131 rfl (fun c131 => ?_) (fun c131 => ?_)
          · refine aj.aload_n dX8_fill_148 rfl ?_
            refine gX8_missed (i := o) hk.1 hA w367 dX8_fill_149 ?_
            refine aj.iload dX8_fill_152 rfl ?_
            refine aj.dup2 dX8_fill_154 rfl rfl ?_
            refine aj.kL (i := (o + 3)) (j := j) hk.2.2.2 dX8_fill_155 hA rfl (by omega) (by decide) ?_
            refine aj.aload_n dX8_fill_156 rfl ?_
            refine aj.iload dX8_fill_157 rfl ?_
            refine aj.iconst (v := 0) dX8_fill_159 rfl ?_
            refine aj.callE1 (d' := 1) (As := [.int (nI (mLand sl sh age wd j i)), .int 0]) (rest := [.int ((va_up (va_up (va_up V1 50 v1) 51 v2) (o + 1) (upd ((va_up (va_up V1 50 v1) 51 v2) (o + 1)) ((j * 10) + i) (nI (mLand sl sh age wd j i)))) (o + 3) j), .int (nI j), .ref (a + (o + 3))]) dX8_fill_160 v_X8_53 li_X0_worth (hA.bw hb).ob rfl rfl rfl (Nat.le_of_ble_eq_true rfl) (Nat.le_of_ble_eq_true rfl) (k_worth (nI (mLand sl sh age wd j i)) (False) (hA.bw hb)) (fun M hM => ?_)
            subst hM
            refine aj.iadd dX8_fill_163 ?_
            refine aj.kS (i := (o + 3)) (j := j) hk.2.2.2 dX8_fill_164 hA rfl (by omega) (by decide) (fun M hA => ?_)
            refine aj.iincN (a := j) (c := 1) (lv' := [(9, .int (nI (j + 1))), (10, .int (nI (mLand sl sh age wd j i))), (8, .int (mKept (mStray sl sh age wd j i) (-9) 9)), (7, .int (nI i)), (0, .ref (a + o)), (1, .ref (a + 49)), (2, .ref t), (3, .int sh), (4, .int x_age), (5, .int x_wd), (6, .int (zb (nA sl = true)))]) dX8_fill_165 rfl (Nat.le_of_ble_eq_true rfl) rfl rfl rfl ?_
            refine aj.goto (tgt := 68) dX8_fill_168 rfl ?_
            refine aj.pick [0, 2, 3, 4, 5, 6, 7, 8, 9, 10] rfl ?_
            exact ih (j + 1) _ _ M (by omega) (by rw [Nat.add_sub_cancel]) (tbI_step hI (by omega) hi (fun x => by rw [va_up_ne _ _ (show o + 1 ≠ o + 3 by omega), va_up_self, va_up_ne _ _ (by omega), va_up_ne _ _ (by omega)]; rfl) (fun x => by rw [va_up_ne _ _ (show o + 2 ≠ o + 3 by omega), va_up_ne _ _ (show o + 2 ≠ o + 1 by omega), va_up_ne _ _ (by omega), va_up_ne _ _ (by omega), if_neg (fun z => c131 z.2)]) (fun x => by
              rw [va_up_self, va_up_ne _ _ (show o + 3 ≠ o + 1 by omega), va_up_ne _ _ (by omega), va_up_ne _ _ (by omega)]
              show (if x = j then _ else _) = _
              by_cases e : x = j
              · rw [if_pos e, if_pos ⟨e, c131⟩]
              · rw [if_neg e, if_neg (fun z => e z.1)])) (fun q q0 q1 q2 q3 q4 => by rw [va_up_ne _ _ q4, va_up_ne _ _ q2, va_up_ne _ _ q1, va_up_ne _ _ q0]; exact hE q q0 q1 q2 q3 q4) hA
          · refine aj.aload_n dX8_fill_134 rfl ?_
            refine gX8_touched (i := o) hk.1 hA w366 dX8_fill_135 ?_
            refine aj.iload dX8_fill_138 rfl ?_
            refine aj.dup2 dX8_fill_140 rfl rfl ?_
            refine aj.kL (i := (o + 2)) (j := j) hk.2.2.1 dX8_fill_141 hA rfl (by omega) (by decide) ?_
            refine aj.iconst (v := 1) dX8_fill_142 rfl ?_
            refine aj.iadd dX8_fill_143 ?_
            refine aj.kS (i := (o + 2)) (j := j) hk.2.2.1 dX8_fill_144 hA rfl (by omega) (by decide) (fun M hA => ?_)
            refine aj.goto (tgt := 165) dX8_fill_145 rfl ?_
            refine aj.iincN (a := j) (c := 1) (lv' := [(9, .int (nI (j + 1))), (10, .int (nI (mLand sl sh age wd j i))), (8, .int (mKept (mStray sl sh age wd j i) (-9) 9)), (7, .int (nI i)), (0, .ref (a + o)), (1, .ref (a + 49)), (2, .ref t), (3, .int sh), (4, .int x_age), (5, .int x_wd), (6, .int (zb (nA sl = true)))]) dX8_fill_165 rfl (Nat.le_of_ble_eq_true rfl) rfl rfl rfl ?_
            refine aj.goto (tgt := 68) dX8_fill_168 rfl ?_
            refine aj.pick [0, 2, 3, 4, 5, 6, 7, 8, 9, 10] rfl ?_
            exact ih (j + 1) _ _ M (by omega) (by rw [Nat.add_sub_cancel]) (tbI_step hI (by omega) hi (fun x => by rw [va_up_ne _ _ (show o + 1 ≠ o + 2 by omega), va_up_self, va_up_ne _ _ (by omega), va_up_ne _ _ (by omega)]; rfl) (fun x => by
              rw [va_up_self, va_up_ne _ _ (show o + 2 ≠ o + 1 by omega), va_up_ne _ _ (by omega), va_up_ne _ _ (by omega)]
              show (if x = j then _ else _) = _
              by_cases e : x = j
              · rw [if_pos e, if_pos ⟨e, c131⟩]
              · rw [if_neg e, if_neg (fun z => e z.1)]) (fun x => by rw [va_up_ne _ _ (show o + 3 ≠ o + 2 by omega), va_up_ne _ _ (show o + 3 ≠ o + 1 by omega), va_up_ne _ _ (by omega), va_up_ne _ _ (by omega), if_neg (fun z => z.2 c131)])) (fun q q0 q1 q2 q3 q4 => by rw [va_up_ne _ _ q3, va_up_ne _ _ q2, va_up_ne _ _ q1, va_up_ne _ _ q0]; exact hE q q0 q1 q2 q3 q4) hA
theorem fill_out {G : zG} {l : Launch} {a : Nat} {M0 : zM} {V : Nat → Nat → Int32} {W : Nat → Nat → Int64} {R : Nat → Nat → Option Nat} {t : Nat} {B : Nat → Int32} {sl ol : Option (List Nat)} {o : Nat} (hk : kTb o) {sh : Int32} (age : Nat) {x_age : Int32} (e_age : x_age = nI age) (wd : Nat) {x_wd : Int32} (e_wd : x_wd = nI wd) (hage : age < 2 ^ 31) (hb : bW a M0 t B sl ol) (hd0 : dLaw sl false [0, 1, 2, 3, 4]) : ∀ (n i : Nat) (V1 : Nat → Nat → Int32) (M : zM), i + n = 10 → tbI B sl sh age wd V1 o i 0 → tbE V V1 o → kA a M0 M V1 W R → aj G l kX8_fill 4 43 [(7, .int (nI i)), (0, .ref (a + o)), (1, .ref (a + 49)), (2, .ref t), (3, .int sh), (4, .int x_age), (5, .int x_wd), (6, .int (zb (nA sl = true)))] [] M 0 0 (zv (fun M' => ∃ V1, kA a M0 M' V1 W R ∧ tbE V V1 o ∧ tbF B sl sh age wd V1 o)) := by
  have hge := kTb_ge hk
  intro n
  induction n with
  | zero =>
    intro i V1 M hin hI hE hA
    refine aj.iload dX8_fill_43 rfl ?_
    refine aj.bipush (v := 10) dX8_fill_45 rfl ?_
    refine aj.icmp_geN (a := i) (b := 10) (tgt := 177) dX8_fill_47 rfl rfl (by omega) (by omega) rfl (fun c47 => ?_) (fun c47 => ?_)
    · have hi : i = 10 := by omega
      subst hi
      exact aj.vret rfl dX8_fill_177 ⟨rfl, V1, hA, hE, tbI_all hI⟩
    · exact absurd c47 (by omega)
  | succ n ih =>
    intro i V1 M hin hI hE hA
    refine aj.iload dX8_fill_43 rfl ?_
    refine aj.bipush (v := 10) dX8_fill_45 rfl ?_
    refine aj.icmp_geN (a := i) (b := 10) (tgt := 177) dX8_fill_47 rfl rfl (by omega) (by omega) rfl (fun c47 => ?_) (fun c47 => ?_)
    · exact absurd c47 (by omega)
    · refine aj.aload_n dX8_fill_50 rfl ?_
      refine aj.aload_n dX8_fill_51 rfl ?_
      refine aj.iload_n dX8_fill_52 rfl ?_
      refine aj.iload dX8_fill_53 rfl ?_
      refine aj.iload dX8_fill_55 rfl ?_
      refine aj.iconst (v := 0) dX8_fill_57 rfl ?_
      refine aj.iload dX8_fill_58 rfl ?_
      refine aj.callE1 (d' := 3) (As := [.ref t, .int sh, .int x_age, .int x_wd, .int 0, .int (nI i)]) (rest := []) dX8_fill_60 v_X8_39 li_X4_stray ⟨_, hA.ob (i := 49) rfl (by decide)⟩ rfl rfl rfl (Nat.le_of_ble_eq_true rfl) (Nat.le_of_ble_eq_true rfl) (k_stray sh age e_age wd e_wd 0 rfl i rfl (by omega) hb hd0 hA) (fun M hM => ?_)
      obtain ⟨v1, v2, hA⟩ := hM
      refine aj.istore (lv' := [(8, .int (mKept (mStray sl sh age wd 0 i) (-9) 9)), (7, .int (nI i)), (0, .ref (a + o)), (1, .ref (a + 49)), (2, .ref t), (3, .int sh), (4, .int x_age), (5, .int x_wd), (6, .int (zb (nA sl = true)))]) dX8_fill_63 (Nat.le_of_ble_eq_true rfl) rfl ?_
      refine aj.iconst (v := 0) dX8_fill_65 rfl ?_
      refine aj.istore (lv' := [(9, .int 0), (8, .int (mKept (mStray sl sh age wd 0 i) (-9) 9)), (7, .int (nI i)), (0, .ref (a + o)), (1, .ref (a + 49)), (2, .ref t), (3, .int sh), (4, .int x_age), (5, .int x_wd), (6, .int (zb (nA sl = true)))]) dX8_fill_66 (Nat.le_of_ble_eq_true rfl) rfl ?_
      refine aj.pick [0, 1, 2, 3, 4, 5, 6, 7, 8, 9] rfl ?_
      refine fill_in (V := V) hk age e_age wd e_wd hage hb hd0 (by omega) (fun V2 M hI hE hA => ?_) 21 0 _ _ M (by omega) rfl (tbI_cong hI (by rw [va_up_ne _ _ (by omega), va_up_ne _ _ (by omega)]) (by rw [va_up_ne _ _ (by omega), va_up_ne _ _ (by omega)]) (by rw [va_up_ne _ _ (by omega), va_up_ne _ _ (by omega)])) (fun q q0 q1 q2 q3 q4 => by rw [va_up_ne _ _ q1, va_up_ne _ _ q0]; exact hE q q0 q1 q2 q3 q4) hA
      refine aj.iincN (a := i) (c := 1) (lv' := [(7, .int (nI (i + 1))), (0, .ref (a + o)), (1, .ref (a + 49)), (2, .ref t), (3, .int sh), (4, .int x_age), (5, .int x_wd), (6, .int (zb (nA sl = true)))]) dX8_fill_171 rfl (Nat.le_of_ble_eq_true rfl) rfl rfl rfl ?_
      refine aj.goto (tgt := 43) dX8_fill_174 rfl ?_
      refine aj.pick [0, 1, 2, 3, 4, 5, 6, 7] rfl ?_
      exact ih (i + 1) V2 M (by omega) (tbI_row hI) hE hA
theorem k_fillN {G : zG} {l : Launch} {a : Nat} {M0 M : zM} {V : Nat → Nat → Int32} {W : Nat → Nat → Int64} {R : Nat → Nat → Option Nat} {t : Nat} {B : Nat → Int32} {ol : Option (List Nat)} {o : Nat} (hk : kTb o) {sh : Int32} (age : Nat) {x_age : Int32} (e_age : x_age = nI age) (wd : Nat) {x_wd : Int32} (e_wd : x_wd = nI wd) (hage : age < 2 ^ 31) (hb : bW a M0 t B none ol) (hd0 : dLaw none false [0, 1, 2, 3, 4]) (hA : kA a M0 M V W R) : am G l kX8_fill 4 [.ref (a + o), .ref (a + 49), .ref t, .int sh, .int x_age, .int x_wd] M 0 0 (zv (fun M' => ∃ V1, kA a M0 M' V1 W R ∧ tbE V V1 o ∧ tbF B none sh age wd V1 o)) := by
  refine am.of (by decide) (Nat.le_of_ble_eq_true rfl) ?_
  refine aj.aload_n dX8_fill_0 rfl ?_
  refine gX8_touched (i := o) hk.1 hA w366 dX8_fill_1 ?_
  refine aj.iconst (v := 0) dX8_fill_4 rfl ?_
  refine aj.callS0 (d' := 0) (As := [.ref (a + (o + 2)), .int 0]) (rest := []) dX8_fill_5 v_X8_21 w701 rfl rfl (Nat.le_of_ble_eq_true rfl) (Nat.le_of_ble_eq_true rfl) (k_fillI 0 hk.2.2.1 (by decide) hA) (fun M hM => ?_)
  have hA := hM
  refine aj.aload_n dX8_fill_8 rfl ?_
  refine gX8_missed (i := o) hk.1 hA w367 dX8_fill_9 ?_
  refine aj.iconst (v := 0) dX8_fill_12 rfl ?_
  refine aj.callS0 (d' := 0) (As := [.ref (a + (o + 3)), .int 0]) (rest := []) dX8_fill_13 v_X8_21 w701 rfl rfl (Nat.le_of_ble_eq_true rfl) (Nat.le_of_ble_eq_true rfl) (k_fillI 0 hk.2.2.2 (by decide) hA) (fun M hM => ?_)
  have hA := hM
  refine aj.aload_n dX8_fill_16 rfl ?_
  refine gB_straysN hA hb w230 dX8_fill_17 ?_
  refine aj.ifnullN (tgt := 37) dX8_fill_20 rfl ?_
  refine aj.iconst (v := 0) dX8_fill_37 rfl ?_
  refine aj.istore (lv' := [(6, .int 0), (0, .ref (a + o)), (1, .ref (a + 49)), (2, .ref t), (3, .int sh), (4, .int x_age), (5, .int x_wd)]) dX8_fill_38 (Nat.le_of_ble_eq_true rfl) rfl ?_
  refine aj.iconst (v := 0) dX8_fill_40 rfl ?_
  refine aj.istore (lv' := [(7, .int 0), (6, .int 0), (0, .ref (a + o)), (1, .ref (a + 49)), (2, .ref t), (3, .int sh), (4, .int x_age), (5, .int x_wd)]) dX8_fill_41 (Nat.le_of_ble_eq_true rfl) rfl ?_
  refine aj.pick [0, 2, 3, 4, 5, 6, 7, 1] rfl ?_
  exact fill_out (G := G) (l := l) (V := V) (sh := sh) hk age e_age wd e_wd hage hb hd0 10 0 _ M (by omega) (fun aim ha => ⟨fun lot hl h10 => absurd hl (by omega), by rw [if_neg (by omega), va_up_ne _ _ (by omega), va_up_self]; rfl, by rw [if_neg (by omega), va_up_self]; rfl⟩) (fun q q0 q1 q2 q3 q4 => by rw [va_up_ne _ _ q4, va_up_ne _ _ q3]) hA
theorem k_fillS {G : zG} {l : Launch} {a : Nat} {M0 M : zM} {V : Nat → Nat → Int32} {W : Nat → Nat → Int64} {R : Nat → Nat → Option Nat} {t : Nat} {B : Nat → Int32} {ol : Option (List Nat)} {cs : List Nat} {o : Nat} (hk : kTb o) {sh : Int32} (age : Nat) {x_age : Int32} (e_age : x_age = nI age) (wd : Nat) {x_wd : Int32} (e_wd : x_wd = nI wd) (hage : age < 2 ^ 31) (hb : bW a M0 t B (some cs) ol) (hd0 : dLaw (some cs) false [0, 1, 2, 3, 4]) (hA : kA a M0 M V W R) : am G l kX8_fill 4 [.ref (a + o), .ref (a + 49), .ref t, .int sh, .int x_age, .int x_wd] M 0 0 (zv (fun M' => ∃ V1, kA a M0 M' V1 W R ∧ tbE V V1 o ∧ tbF B (some cs) sh age wd V1 o)) := by
  refine am.of (by decide) (Nat.le_of_ble_eq_true rfl) ?_
  refine aj.aload_n dX8_fill_0 rfl ?_
  refine gX8_touched (i := o) hk.1 hA w366 dX8_fill_1 ?_
  refine aj.iconst (v := 0) dX8_fill_4 rfl ?_
  refine aj.callS0 (d' := 0) (As := [.ref (a + (o + 2)), .int 0]) (rest := []) dX8_fill_5 v_X8_21 w701 rfl rfl (Nat.le_of_ble_eq_true rfl) (Nat.le_of_ble_eq_true rfl) (k_fillI 0 hk.2.2.1 (by decide) hA) (fun M hM => ?_)
  have hA := hM
  refine aj.aload_n dX8_fill_8 rfl ?_
  refine gX8_missed (i := o) hk.1 hA w367 dX8_fill_9 ?_
  refine aj.iconst (v := 0) dX8_fill_12 rfl ?_
  refine aj.callS0 (d' := 0) (As := [.ref (a + (o + 3)), .int 0]) (rest := []) dX8_fill_13 v_X8_21 w701 rfl rfl (Nat.le_of_ble_eq_true rfl) (Nat.le_of_ble_eq_true rfl) (k_fillI 0 hk.2.2.2 (by decide) hA) (fun M hM => ?_)
  have hA := hM
  refine aj.aload_n dX8_fill_16 rfl ?_
  refine gB_straysS hA hb w230 dX8_fill_17 (fun lp lq hpo hqo hp hq hn31 => ?_)
  refine aj.ifnull dX8_fill_20 ?_
  refine aj.aload_n dX8_fill_23 rfl ?_
  refine gB_straysS hA hb w230 dX8_fill_24 (fun lp lq hpo hqo hp hq hn31 => ?_)
  refine aj.get (i := 1) (cq := (RX2, TX2, 2)) dX8_fill_27 ((hA.2.1 lp hpo).trans hp) rfl (Nat.le_of_ble_eq_true rfl) w690 rfl ?_
  refine aj.if_eqB (tgt := 37) dX8_fill_30 rfl (fun c30 => ?_) (fun c30 => ?_)
  · refine aj.iconst (v := 0) dX8_fill_37 rfl ?_
    refine aj.istore (lv' := [(6, .int 0), (0, .ref (a + o)), (1, .ref (a + 49)), (2, .ref t), (3, .int sh), (4, .int x_age), (5, .int x_wd)]) dX8_fill_38 (Nat.le_of_ble_eq_true rfl) rfl ?_
    refine aj.iconst (v := 0) dX8_fill_40 rfl ?_
    refine aj.istore (lv' := [(7, .int 0), (6, .int 0), (0, .ref (a + o)), (1, .ref (a + 49)), (2, .ref t), (3, .int sh), (4, .int x_age), (5, .int x_wd)]) dX8_fill_41 (Nat.le_of_ble_eq_true rfl) rfl ?_
    refine aj.pick [0, 2, 3, 4, 5, 6, 7, 1] rfl ?_
    have key := fill_out (G := G) (l := l) (V := V) (sh := sh) hk age e_age wd e_wd hage hb hd0 10 0 _ M (by omega) (fun aim ha => ⟨fun lot hl h10 => absurd hl (by omega), by rw [if_neg (by omega), va_up_ne _ _ (by omega), va_up_self]; rfl, by rw [if_neg (by omega), va_up_self]; rfl⟩) (fun q q0 q1 q2 q3 q4 => by rw [va_up_ne _ _ q4, va_up_ne _ _ q3]) hA
    rw [show zb (nA (some cs) = true) = 0 from zb_f (fun z => c30 (of_decide_eq_true z))] at key
    exact key
  · refine aj.iconst (v := 1) dX8_fill_33 rfl ?_
    refine aj.goto (tgt := 38) dX8_fill_34 rfl ?_
    refine aj.istore (lv' := [(6, .int 1), (0, .ref (a + o)), (1, .ref (a + 49)), (2, .ref t), (3, .int sh), (4, .int x_age), (5, .int x_wd)]) dX8_fill_38 (Nat.le_of_ble_eq_true rfl) rfl ?_
    refine aj.iconst (v := 0) dX8_fill_40 rfl ?_
    refine aj.istore (lv' := [(7, .int 0), (6, .int 1), (0, .ref (a + o)), (1, .ref (a + 49)), (2, .ref t), (3, .int sh), (4, .int x_age), (5, .int x_wd)]) dX8_fill_41 (Nat.le_of_ble_eq_true rfl) rfl ?_
    refine aj.pick [0, 2, 3, 4, 5, 6, 7, 1] rfl ?_
    have key := fill_out (G := G) (l := l) (V := V) (sh := sh) hk age e_age wd e_wd hage hb hd0 10 0 _ M (by omega) (fun aim ha => ⟨fun lot hl h10 => absurd hl (by omega), by rw [if_neg (by omega), va_up_ne _ _ (by omega), va_up_self]; rfl, by rw [if_neg (by omega), va_up_self]; rfl⟩) (fun q q0 q1 q2 q3 q4 => by rw [va_up_ne _ _ q4, va_up_ne _ _ q3]) hA
    rw [show zb (nA (some cs) = true) = 1 from zb_t (decide_eq_true c30)] at key
    exact key
theorem k_fill {G : zG} {l : Launch} {a : Nat} {M0 M : zM} {V : Nat → Nat → Int32} {W : Nat → Nat → Int64} {R : Nat → Nat → Option Nat} {t : Nat} {B : Nat → Int32} {sl ol : Option (List Nat)} {o : Nat} (hk : kTb o) {sh : Int32} (age : Nat) {x_age : Int32} (e_age : x_age = nI age) (wd : Nat) {x_wd : Int32} (e_wd : x_wd = nI wd) (hage : age < 2 ^ 31) (hb : bW a M0 t B sl ol) (hd0 : dLaw sl false [0, 1, 2, 3, 4]) (hA : kA a M0 M V W R) : am G l kX8_fill 4 [.ref (a + o), .ref (a + 49), .ref t, .int sh, .int x_age, .int x_wd] M 0 0 (zv (fun M' => ∃ V1, kA a M0 M' V1 W R ∧ tbE V V1 o ∧ tbF B sl sh age wd V1 o)) := by
  cases sl with
  | none => exact k_fillN hk age e_age wd e_wd hage hb hd0 hA
  | some cs => exact k_fillS hk age e_age wd e_wd hage hb hd0 hA
