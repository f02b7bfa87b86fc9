theorem q_fault {G : zG} {l : Launch} {b : Nat} {M0 M : zM} {I : Nat → Int32} {A : Nat → Nat → Int32} {L : Nat → Nat → Int64} (q : Int32) (hM : mW b M0 M I A L) : am G l kX12_fault 0 [.ref b, .int q] M 0 0 (zr (.int (if q = 0 then I 13 else if q = 1 then I 14 else -1)) (fun M' => mW b M0 M' I A L)) := by
  obtain ⟨u, v, w, hA⟩ := hM
  refine am.of (by decide) (Nat.le_of_ble_eq_true rfl) ?_
  refine aj.aload_n dX12_fault_0 rfl ?_
  refine aj.iconst (v := 0) dX12_fault_1 rfl ?_
  refine pM0 rfl dX12_fault_2 hA (fun M hA => ?_)
  refine aj.iload_n dX12_fault_5 rfl ?_
  refine aj.if_ne (tgt := 16) dX12_fault_6 rfl (fun c6 => ?_) (fun c6 => ?_)
  · refine aj.iload_n dX12_fault_16 rfl ?_
    refine aj.iconst (v := 1) dX12_fault_17 rfl ?_
    refine aj.icmp_ne (tgt := 28) dX12_fault_18 rfl (fun c18 => ?_) (fun c18 => ?_)
    · refine aj.iconst (v := (-1)) dX12_fault_28 rfl ?_
      exact aj.iret rfl dX12_fault_29 ⟨by rw [if_neg c6, if_neg c18], _, _, _, hA⟩
    · refine aj.aload_n dX12_fault_21 rfl ?_
      refine gM14 rfl dX12_fault_22 hA ?_
      refine aj.goto (tgt := 29) dX12_fault_25 rfl ?_
      exact aj.iret rfl dX12_fault_29 ⟨by rw [if_neg c6, if_pos c18], _, _, _, hA⟩
  · refine aj.aload_n dX12_fault_9 rfl ?_
    refine gM13 rfl dX12_fault_10 hA ?_
    refine aj.goto (tgt := 29) dX12_fault_13 rfl ?_
    exact aj.iret rfl dX12_fault_29 ⟨by rw [if_pos c6], _, _, _, hA⟩
def mCount (I : Nat → Int32) (A : Nat → Nat → Int32) (k : Nat) : Int32 := match k with
  | 0 => A 1 1
  | 1 => A 1 2
  | 2 => A 1 6
  | 3 => A 1 3
  | 4 => A 1 4
  | 5 => A 1 5
  | 6 => A 1 26
  | 7 => A 1 27
  | 8 => A 1 25
  | 9 => A 1 28
  | 10 => I 5
  | 11 => A 1 0
  | _ => -1
theorem q_count {G : zG} {l : Launch} {b : Nat} {M0 M : zM} {I : Nat → Int32} {A : Nat → Nat → Int32} {L : Nat → Nat → Int64} (q : Int32) (hM : mW b M0 M I A L) : am G l kX12_count 0 [.ref b, .int q] M 0 0 (zr (.int (if inR q 0 11 then mCount I A (mN q) else -1)) (fun M' => mW b M0 M' I A L)) := by
  obtain ⟨u, v, w, hA⟩ := hM
  refine am.of (by decide) (Nat.le_of_ble_eq_true rfl) ?_
  refine aj.aload_n dX12_count_0 rfl ?_
  refine aj.iconst (v := 0) dX12_count_1 rfl ?_
  refine pM0 rfl dX12_count_2 hA (fun M hA => ?_)
  refine aj.iload_n dX12_count_5 rfl ?_
  by_cases c6 : inR q 0 11
  · have h_q := inR_bd (n := 11) c6 (by decide)
    rw [if_pos c6]
    obtain ⟨kq, hkq, e⟩ : ∃ k : Nat, k ≤ 11 ∧ q = nI k := ⟨mN q, h_q.2, h_q.1⟩
    subst e
    rw [mN_nI (by omega)]
    rcases (show kq = 0 ∨ kq = 1 ∨ kq = 2 ∨ kq = 3 ∨ kq = 4 ∨ kq = 5 ∨ kq = 6 ∨ kq = 7 ∨ kq = 8 ∨ kq = 9 ∨ kq = 10 ∨ kq = 11 by omega) with rfl | rfl | rfl | rfl | rfl | rfl | rfl | rfl | rfl | rfl | rfl | rfl
    · refine aj.swIn (tgt := 68) (off := 62) dX12_count_6 (by decide) (by decide) (by decide) rfl ?_
      refine aj.aload_n dX12_count_68 rfl ?_
      refine gM1 rfl dX12_count_69 hA ?_
      refine aj.iconst (v := 1) dX12_count_72 rfl ?_
      refine aM1N (i := 1) dX12_count_73 hA rfl (by omega) ?_
      exact aj.iret rfl dX12_count_74 ⟨rfl, _, _, _, hA⟩
    · refine aj.swIn (tgt := 75) (off := 69) dX12_count_6 (by decide) (by decide) (by decide) rfl ?_
      refine aj.aload_n dX12_count_75 rfl ?_
      refine gM1 rfl dX12_count_76 hA ?_
      refine aj.iconst (v := 2) dX12_count_79 rfl ?_
      refine aM1N (i := 2) dX12_count_80 hA rfl (by omega) ?_
      exact aj.iret rfl dX12_count_81 ⟨rfl, _, _, _, hA⟩
    · refine aj.swIn (tgt := 82) (off := 76) dX12_count_6 (by decide) (by decide) (by decide) rfl ?_
      refine aj.aload_n dX12_count_82 rfl ?_
      refine gM1 rfl dX12_count_83 hA ?_
      refine aj.bipush (v := 6) dX12_count_86 rfl ?_
      refine aM1N (i := 6) dX12_count_88 hA rfl (by omega) ?_
      exact aj.iret rfl dX12_count_89 ⟨rfl, _, _, _, hA⟩
    · refine aj.swIn (tgt := 90) (off := 84) dX12_count_6 (by decide) (by decide) (by decide) rfl ?_
      refine aj.aload_n dX12_count_90 rfl ?_
      refine gM1 rfl dX12_count_91 hA ?_
      refine aj.iconst (v := 3) dX12_count_94 rfl ?_
      refine aM1N (i := 3) dX12_count_95 hA rfl (by omega) ?_
      exact aj.iret rfl dX12_count_96 ⟨rfl, _, _, _, hA⟩
    · refine aj.swIn (tgt := 97) (off := 91) dX12_count_6 (by decide) (by decide) (by decide) rfl ?_
      refine aj.aload_n dX12_count_97 rfl ?_
      refine gM1 rfl dX12_count_98 hA ?_
      refine aj.iconst (v := 4) dX12_count_101 rfl ?_
      refine aM1N (i := 4) dX12_count_102 hA rfl (by omega) ?_
      exact aj.iret rfl dX12_count_103 ⟨rfl, _, _, _, hA⟩
    · refine aj.swIn (tgt := 104) (off := 98) dX12_count_6 (by decide) (by decide) (by decide) rfl ?_
      refine aj.aload_n dX12_count_104 rfl ?_
      refine gM1 rfl dX12_count_105 hA ?_
      refine aj.iconst (v := 5) dX12_count_108 rfl ?_
      refine aM1N (i := 5) dX12_count_109 hA rfl (by omega) ?_
      exact aj.iret rfl dX12_count_110 ⟨rfl, _, _, _, hA⟩
    · refine aj.swIn (tgt := 111) (off := 105) dX12_count_6 (by decide) (by decide) (by decide) rfl ?_
      refine aj.aload_n dX12_count_111 rfl ?_
      refine gM1 rfl dX12_count_112 hA ?_
      refine aj.bipush (v := 26) dX12_count_115 rfl ?_
      refine aM1N (i := 26) dX12_count_117 hA rfl (by omega) ?_
      exact aj.iret rfl dX12_count_118 ⟨rfl, _, _, _, hA⟩
    · refine aj.swIn (tgt := 119) (off := 113) dX12_count_6 (by decide) (by decide) (by decide) rfl ?_
      refine aj.aload_n dX12_count_119 rfl ?_
      refine gM1 rfl dX12_count_120 hA ?_
      refine aj.bipush (v := 27) dX12_count_123 rfl ?_
      refine aM1N (i := 27) dX12_count_125 hA rfl (by omega) ?_
      exact aj.iret rfl dX12_count_126 ⟨rfl, _, _, _, hA⟩
    · refine aj.swIn (tgt := 127) (off := 121) dX12_count_6 (by decide) (by decide) (by decide) rfl ?_
      refine aj.aload_n dX12_count_127 rfl ?_
      refine gM1 rfl dX12_count_128 hA ?_
      refine aj.bipush (v := 25) dX12_count_131 rfl ?_
      refine aM1N (i := 25) dX12_count_133 hA rfl (by omega) ?_
      exact aj.iret rfl dX12_count_134 ⟨rfl, _, _, _, hA⟩
    · refine aj.swIn (tgt := 135) (off := 129) dX12_count_6 (by decide) (by decide) (by decide) rfl ?_
      refine aj.aload_n dX12_count_135 rfl ?_
      refine gM1 rfl dX12_count_136 hA ?_
      refine aj.bipush (v := 28) dX12_count_139 rfl ?_
      refine aM1N (i := 28) dX12_count_141 hA rfl (by omega) ?_
      exact aj.iret rfl dX12_count_142 ⟨rfl, _, _, _, hA⟩
    · refine aj.swIn (tgt := 143) (off := 137) dX12_count_6 (by decide) (by decide) (by decide) rfl ?_
      refine aj.aload_n dX12_count_143 rfl ?_
      refine gM5 rfl dX12_count_144 hA ?_
      exact aj.iret rfl dX12_count_147 ⟨rfl, _, _, _, hA⟩
    · refine aj.swIn (tgt := 148) (off := 142) dX12_count_6 (by decide) (by decide) (by decide) rfl ?_
      refine aj.aload_n dX12_count_148 rfl ?_
      refine gM1 rfl dX12_count_149 hA ?_
      refine aj.iconst (v := 0) dX12_count_152 rfl ?_
      refine aM1N (i := 0) dX12_count_153 hA rfl (by omega) ?_
      exact aj.iret rfl dX12_count_154 ⟨rfl, _, _, _, hA⟩
  · rw [if_neg c6]
    refine aj.swOut (tgt := 155) dX12_count_6 (by unfold inR at c6; omega) rfl ?_
    refine aj.iconst (v := (-1)) dX12_count_155 rfl ?_
    exact aj.iret rfl dX12_count_156 ⟨rfl, _, _, _, hA⟩
def mCut (v : Int64) (s : Int32) : Int64 := if s = 0 then v.toInt32.toInt8.toInt32.toInt64 else if s = 1 then v.toInt32.toInt16.toInt32.toInt64 else if s = 2 then v.toInt32.toInt64 else v
theorem c_cut {G : zG} {l : Launch} (M : zM) (v : Int64) (s : Int32) : am G l kX12_cut 0 [.long v, .int s] M 0 0 (zr (.long (mCut v s)) (fun M' => M' = M)) := by
  refine am.of (by decide) (Nat.le_of_ble_eq_true rfl) ?_
  refine aj.iload_n dX12_cut_0 rfl ?_
  refine aj.if_ne (tgt := 11) dX12_cut_1 rfl (fun c1 => ?_) (fun c1 => ?_)
  · refine aj.iload_n dX12_cut_11 rfl ?_
    refine aj.iconst (v := 1) dX12_cut_12 rfl ?_
    refine aj.icmp_ne (tgt := 23) dX12_cut_13 rfl (fun c13 => ?_) (fun c13 => ?_)
    · refine aj.iload_n dX12_cut_23 rfl ?_
      refine aj.iconst (v := 2) dX12_cut_24 rfl ?_
      refine aj.icmp_ne (tgt := 34) dX12_cut_25 rfl (fun c25 => ?_) (fun c25 => ?_)
      · refine aj.lload_n dX12_cut_34 rfl ?_
        exact aj.lret rfl dX12_cut_35 ⟨by unfold mCut; rw [if_neg c1, if_neg c13, if_neg c25], rfl⟩
      · refine aj.lload_n dX12_cut_28 rfl ?_
        refine aj.l2i dX12_cut_29 ?_
        refine aj.i2l dX12_cut_30 ?_
        refine aj.goto (tgt := 35) dX12_cut_31 rfl ?_
        exact aj.lret rfl dX12_cut_35 ⟨by unfold mCut; rw [if_neg c1, if_neg c13, if_pos c25], rfl⟩
    · refine aj.lload_n dX12_cut_16 rfl ?_
      refine aj.l2i dX12_cut_17 ?_
      refine aj.i2s dX12_cut_18 ?_
      refine aj.i2l dX12_cut_19 ?_
      refine aj.goto (tgt := 35) dX12_cut_20 rfl ?_
      exact aj.lret rfl dX12_cut_35 ⟨by unfold mCut; rw [if_neg c1, if_pos c13], rfl⟩
  · refine aj.lload_n dX12_cut_4 rfl ?_
    refine aj.l2i dX12_cut_5 ?_
    refine aj.i2b dX12_cut_6 ?_
    refine aj.i2l dX12_cut_7 ?_
    refine aj.goto (tgt := 35) dX12_cut_8 rfl ?_
    exact aj.lret rfl dX12_cut_35 ⟨by unfold mCut; rw [if_pos c1], rfl⟩
def zfil (f : Nat → Int64) (d n : Nat) : Nat → Int64 := fun j => if d ≤ j ∧ j < d + n then 0 else f j
theorem zfil_s {f : Nat → Int64} {d i : Nat} : vp_updL (zfil f d i) (d + i) 0 = zfil f d (i + 1) := by
  funext j
  unfold vp_updL zfil
  by_cases h : j = d + i
  · rw [if_pos h, if_pos (by omega)]
  · rw [if_neg h]
    by_cases h2 : d ≤ j ∧ j < d + i
    · rw [if_pos h2, if_pos (by omega)]
    · rw [if_neg h2, if_neg (by omega)]
theorem zfil_0 {f : Nat → Int64} {d : Nat} : zfil f d 0 = f := by
  funext j
  unfold zfil
  rw [if_neg (by omega)]
theorem numbers_loop {G : zG} {l : Launch} {b : Nat} {M0 : zM} {I : Nat → Int32} {A : Nat → Nat → Int32} {L : Nat → Nat → Int64} {P : zM → Prop} (t : Nat) {x_t : Int32} (e_t : x_t = nI t) (n0 : Nat) {x_n0 : Int32} (e_n0 : x_n0 = nI n0) (ht : t < 4) (hn : n0 ≤ 40) (hP : ∀ M, mW b M0 M I A (va_up L 34 (zfil (L 34) (40 * t) n0)) → P M) : ∀ (n i : Nat) (M : zM), i + n = n0 → mW b M0 M I A (va_up L 34 (zfil (L 34) (40 * t) i)) → aj G l kX12_numbers 1 64 [(4, .int (nI i)), (0, .ref b), (1, .int x_t), (3, .int x_n0)] [] M 0 0 (zr (.int 0) P) := by
  intro n
  induction n with
  | zero =>
    intro i M hin hM
    obtain ⟨u, v, w, hA⟩ := hM
    refine aj.iload dX12_numbers_64 rfl ?_
    refine aj.iload_n dX12_numbers_66 rfl ?_
    refine aj.icmp_geN (a := i) (b := n0) (tgt := 89) dX12_numbers_67 rfl e_n0 (by omega) (by omega) rfl (fun c67 => ?_) (fun c67 => ?_)
    · refine aj.iconst (v := 0) dX12_numbers_89 rfl ?_
      exact aj.iret rfl dX12_numbers_90 ⟨rfl, hP M ⟨_, _, _, by rw [← show i = n0 by omega]; exact hA⟩⟩
    · exact absurd c67 (by omega)
  | succ n ih =>
    intro i M hin hM
    obtain ⟨u, v, w, hA⟩ := hM
    refine aj.iload dX12_numbers_64 rfl ?_
    refine aj.iload_n dX12_numbers_66 rfl ?_
    refine aj.icmp_geN (a := i) (b := n0) (tgt := 89) dX12_numbers_67 rfl e_n0 (by omega) (by omega) rfl (fun c67 => ?_) (fun c67 => ?_)
    · exact absurd c67 (by omega)
    · refine aj.aload_n dX12_numbers_70 rfl ?_
      refine gM34 rfl dX12_numbers_71 hA ?_
      refine aj.bipush (v := 40) dX12_numbers_74 rfl ?_
      refine aj.iload_n dX12_numbers_76 rfl ?_
      refine aj.imulN (a := 40) (b := t) dX12_numbers_77 rfl e_t ?_
      refine aj.iload dX12_numbers_78 rfl ?_
      refine aj.iaddN (a := 40 * t) (b := i) dX12_numbers_80 rfl rfl ?_
      refine aj.lconst (v := 0) dX12_numbers_81 rfl ?_
      refine sM34N (i := (40 * t) + i) dX12_numbers_82 hA rfl (by omega) (fun M hA => ?_)
      refine aj.iincN (a := i) (c := 1) (lv' := [(4, .int (nI (i + 1))), (0, .ref b), (1, .int x_t), (3, .int x_n0)]) dX12_numbers_83 rfl (Nat.le_of_ble_eq_true rfl) rfl rfl rfl ?_
      refine aj.goto (tgt := 64) dX12_numbers_86 rfl ?_
      refine aj.pick [0, 1, 2, 3] rfl ?_
      rw [bx_uu] at hA
      exact ih (i + 1) M (by omega) ⟨_, _, _, by rw [← zfil_s]; exact hA⟩
theorem q_numbers {G : zG} {l : Launch} {b : Nat} {M0 M : zM} {I : Nat → Int32} {A : Nat → Nat → Int32} {L : Nat → Nat → Int64} (t : Int32) (q : Int32) (n : Int32) (hM : mW b M0 M I A L) : am G l kX12_numbers 1 [.ref b, .int t, .int q, .int n] M 0 0 (zr (.int (if (inR t 0 3 ∧ inR q 0 3) then (if inR n 0 40 then 0 else -3) else -2)) (fun M' => ∃ A' L', mW b M0 M' I A' L' ∧ A' 32 = (if inR t 0 3 ∧ inR q 0 3 ∧ inR n 0 40 then upd (A 32) (mN t) q else A 32) ∧ A' 33 = (if inR t 0 3 ∧ inR q 0 3 ∧ inR n 0 40 then upd (A 33) (mN t) n else A 33) ∧ (∀ j, j ≠ 32 → j ≠ 33 → A' j = A j) ∧ L' 34 = (if inR t 0 3 ∧ inR q 0 3 ∧ inR n 0 40 then zfil (L 34) (40 * mN t) (mN n) else L 34) ∧ ∀ j, j ≠ 34 → L' j = L j)) := by
  obtain ⟨u, v, w, hA⟩ := hM
  refine am.of (by decide) (Nat.le_of_ble_eq_true rfl) ?_
  refine aj.aload_n dX12_numbers_0 rfl ?_
  refine aj.iconst (v := 0) dX12_numbers_1 rfl ?_
  refine pM0 rfl dX12_numbers_2 hA (fun M hA => ?_)
  refine aj.iload_n dX12_numbers_5 rfl ?_
  refine aj.i2l dX12_numbers_6 ?_
  refine aj.lconst (v := 0) dX12_numbers_7 rfl ?_
  refine aj.ldc2 dX12_numbers_8 w1608 ?_
  refine aj.callS1 (d' := 0) (As := [.long (Int32.toInt64 t), .long 0, .long 3]) (rest := []) dX12_numbers_11 v_X12_142 w1380 rfl rfl (Nat.le_of_ble_eq_true rfl) (Nat.le_of_ble_eq_true rfl) (c_withinI (a := 0) (c := 3) _ t 0 3 rfl rfl) (fun M hM => ?_)
  subst hM
  refine aj.if_eqB (tgt := 29) dX12_numbers_14 rfl (fun c14 => ?_) (fun c14 => ?_)
  · refine aj.bipush (v := (-2)) dX12_numbers_29 rfl ?_
    exact aj.iret rfl dX12_numbers_31 ⟨by rw [if_neg (fun z => c14 z.1)], _, _, ⟨_, _, _, hA⟩, by rw [if_neg (fun z => c14 z.1)], by rw [if_neg (fun z => c14 z.1)], fun _ _ _ => rfl, by rw [if_neg (fun z => c14 z.1)], fun _ _ => rfl⟩
  · have h_t := inR_bd (n := 3) c14 (by decide)
    have h2_t := h_t.2
    refine aj.iload_n dX12_numbers_17 rfl ?_
    refine aj.i2l dX12_numbers_18 ?_
    refine aj.lconst (v := 0) dX12_numbers_19 rfl ?_
    refine aj.ldc2 dX12_numbers_20 w1608 ?_
    refine aj.callS1 (d' := 0) (As := [.long (Int32.toInt64 q), .long 0, .long 3]) (rest := []) dX12_numbers_23 v_X12_142 w1380 rfl rfl (Nat.le_of_ble_eq_true rfl) (Nat.le_of_ble_eq_true rfl) (c_withinI (a := 0) (c := 3) _ q 0 3 rfl rfl) (fun M hM => ?_)
    subst hM
    refine aj.if_neB (tgt := 32) dX12_numbers_26 rfl (fun c26 => ?_) (fun c26 => ?_)
    · have h_q := inR_bd (n := 3) c26 (by decide)
      have h2_q := h_q.2
      refine aj.iload_n dX12_numbers_32 rfl ?_
      refine aj.i2l dX12_numbers_33 ?_
      refine aj.lconst (v := 0) dX12_numbers_34 rfl ?_
      refine aj.ldc2 dX12_numbers_35 w1640 ?_
      refine aj.callS1 (d' := 0) (As := [.long (Int32.toInt64 n), .long 0, .long 40]) (rest := []) dX12_numbers_38 v_X12_142 w1380 rfl rfl (Nat.le_of_ble_eq_true rfl) (Nat.le_of_ble_eq_true rfl) (c_withinI (a := 0) (c := 40) _ n 0 40 rfl rfl) (fun M hM => ?_)
      subst hM
      refine aj.if_neB (tgt := 47) dX12_numbers_41 rfl (fun c41 => ?_) (fun c41 => ?_)
      · have h_n := inR_bd (n := 40) c41 (by decide)
        have h2_n := h_n.2
        refine aj.aload_n dX12_numbers_47 rfl ?_
        refine gM32 rfl dX12_numbers_48 hA ?_
        refine aj.iload_n dX12_numbers_51 rfl ?_
        refine aj.iload_n dX12_numbers_52 rfl ?_
        refine sM32N (i := mN t) dX12_numbers_53 hA h_t.1 (by omega) (fun M hA => ?_)
        refine aj.aload_n dX12_numbers_54 rfl ?_
        refine gM33 rfl dX12_numbers_55 hA ?_
        refine aj.iload_n dX12_numbers_58 rfl ?_
        refine aj.iload_n dX12_numbers_59 rfl ?_
        refine sM33N (i := mN t) dX12_numbers_60 hA h_t.1 (by omega) (fun M hA => ?_)
        refine aj.iconst (v := 0) dX12_numbers_61 rfl ?_
        refine aj.istore (lv' := [(4, .int 0), (0, .ref b), (1, .int t), (2, .int q), (3, .int n)]) dX12_numbers_62 (Nat.le_of_ble_eq_true rfl) rfl ?_
        refine aj.pick [0, 1, 2, 4] rfl ?_
        rw [if_pos (⟨c14, c26⟩ : _ ∧ _), if_pos c41]
        exact numbers_loop (A := va_up (va_up A 32 (upd (A 32) (mN t) q)) 33 (upd (A 33) (mN t) n)) (mN t) h_t.1 (mN n) h_n.1 (by omega) h2_n (fun M hM => ⟨_, _, hM, by rw [if_pos ⟨c14, c26, c41⟩]; rfl, by rw [if_pos ⟨c14, c26, c41⟩]; rfl, fun j h1 h2 => by rw [va_up_ne _ _ h2, va_up_ne _ _ h1], by rw [if_pos ⟨c14, c26, c41⟩]; rfl, fun j h => va_up_ne _ _ h⟩) (mN n) 0 M (by omega) ⟨_, _, _, by rw [zfil_0, va_up_id]; exact hA⟩
      · refine aj.bipush (v := (-3)) dX12_numbers_44 rfl ?_
        exact aj.iret rfl dX12_numbers_46 ⟨by rw [if_pos ⟨c14, c26⟩, if_neg c41], _, _, ⟨_, _, _, hA⟩, by rw [if_neg (fun z => c41 z.2.2)], by rw [if_neg (fun z => c41 z.2.2)], fun _ _ _ => rfl, by rw [if_neg (fun z => c41 z.2.2)], fun _ _ => rfl⟩
    · refine aj.bipush (v := (-2)) dX12_numbers_29 rfl ?_
      exact aj.iret rfl dX12_numbers_31 ⟨by rw [if_neg (fun z => c26 z.2)], _, _, ⟨_, _, _, hA⟩, by rw [if_neg (fun z => c26 z.2.1)], by rw [if_neg (fun z => c26 z.2.1)], fun _ _ _ => rfl, by rw [if_neg (fun z => c26 z.2.1)], fun _ _ => rfl⟩
theorem q_write {G : zG} {l : Launch} {b : Nat} {M0 M : zM} {I : Nat → Int32} {A : Nat → Nat → Int32} {L : Nat → Nat → Int64} (t : Int32) (q : Int32) (z : Int64) (hM : mW b M0 M I A L) (hTr : ∀ j, j < 4 → bd (A 33 j) 40) {sl ol : Option (List Nat)} {T : Nat} (hB : mOK (A 1) sl ol T) : am G l kX12_write 2 [.ref b, .int t, .int q, .long z] M 0 0 (zr (.long (if inR t 0 3 then (if A 32 (mN t) = -1 then -6 else if inR q 0 ((mN (A 33 (mN t)) : Int) - 1) then mCut z (A 32 (mN t)) else -7) else -2)) (fun M' => ∃ L', mW b M0 M' I A L' ∧ L' 34 = (if inR t 0 3 ∧ ¬ A 32 (mN t) = -1 ∧ inR q 0 ((mN (A 33 (mN t)) : Int) - 1) then vp_updL (L 34) (40 * mN t + mN q) (mCut z (A 32 (mN t))) else L 34) ∧ ∀ j, j ≠ 34 → L' j = L j)) := by
  obtain ⟨u, v, w, hA⟩ := hM
  refine am.of (by decide) (Nat.le_of_ble_eq_true rfl) ?_
  refine aj.aload_n dX12_write_0 rfl ?_
  refine aj.iconst (v := 0) dX12_write_1 rfl ?_
  refine pM0 rfl dX12_write_2 hA (fun M hA => ?_)
  refine aj.aload_n dX12_write_5 rfl ?_
  refine aj.iload_n dX12_write_6 rfl ?_
  refine aj.callV1 (d' := 1) (As := [.int t]) (rest := []) dX12_write_7 v_X12_294 li_X12_noTray hA.1 rfl rfl rfl (Nat.le_of_ble_eq_true rfl) (Nat.le_of_ble_eq_true rfl) (q_noTray t ⟨_, _, _, hA⟩ hB) (fun M hM => ?_)
  obtain ⟨u, v, w, hA⟩ := hM
  refine aj.istore (lv' := [(5, .int (if inR t 0 3 then (if A 32 (mN t) = -1 then (-6 : Int32) else 0) else -2)), (0, .ref b), (1, .int t), (2, .int q), (3, .long z)]) dX12_write_10 (Nat.le_of_ble_eq_true rfl) rfl ?_
  refine aj.iload dX12_write_12 rfl ?_
  refine aj.if_eq (tgt := 21) dX12_write_14 rfl (fun c14 => ?_) (fun c14 => ?_)
  · have g1 : inR t 0 3 := Classical.byContradiction fun q => by rw [if_neg q] at c14; exact absurd c14 (by decide)
    have g2 : ¬ A 32 (mN t) = -1 := fun q => by rw [if_pos g1, if_pos q] at c14; exact absurd c14 (by decide)
    have h_t := inR_bd (n := 3) g1 (by decide)
    have h2_t := h_t.2
    have hm40 := (hTr (mN t) (by omega)).2
    have hS6 : (A 33 (mN t) - 1).toInt64.toInt = (mN (A 33 (mN t)) : Int) - 1 := by
      have h1 := hTr (mN t) (by omega)
      rw [z_i64, h1.1, show (1 : Int32) = nI 1 from rfl, pk_sub_toInt (by omega) (by decide)]
      rw [← h1.1]
      rfl
    refine aj.iload_n dX12_write_21 rfl ?_
    refine aj.i2l dX12_write_22 ?_
    refine aj.lconst (v := 0) dX12_write_23 rfl ?_
    refine aj.aload_n dX12_write_24 rfl ?_
    refine gM33 rfl dX12_write_25 hA ?_
    refine aj.iload_n dX12_write_28 rfl ?_
    refine aM33N (i := mN t) dX12_write_29 hA h_t.1 (by omega) ?_
    refine aj.iconst (v := 1) dX12_write_30 rfl ?_
    refine aj.isub dX12_write_31 ?_
    refine aj.i2l dX12_write_32 ?_
    refine aj.callS1 (d' := 0) (As := [.long (Int32.toInt64 q), .long 0, .long (Int32.toInt64 ((A 33 (mN t)) - 1))]) (rest := []) dX12_write_33 v_X12_142 w1380 rfl rfl (Nat.le_of_ble_eq_true rfl) (Nat.le_of_ble_eq_true rfl) (c_withinI (a := 0) (c := (mN (A 33 (mN t)) : Int) - 1) _ q 0 _ rfl hS6) (fun M hM => ?_)
    subst hM
    refine aj.if_neB (tgt := 43) dX12_write_36 rfl (fun c36 => ?_) (fun c36 => ?_)
    · have h_q := inR_bdS c36 (by omega)
      have h2_q := h_q.2
      refine aj.aload_n dX12_write_43 rfl ?_
      refine gM34 rfl dX12_write_44 hA ?_
      refine aj.bipush (v := 40) dX12_write_47 rfl ?_
      refine aj.iload_n dX12_write_49 rfl ?_
      refine aj.imulN (a := 40) (b := mN t) dX12_write_50 rfl h_t.1 ?_
      refine aj.iload_n dX12_write_51 rfl ?_
      refine aj.iaddN (a := 40 * (mN t)) (b := mN q) dX12_write_52 rfl h_q.1 ?_
      refine aj.lload_n dX12_write_53 rfl ?_
      refine aj.aload_n dX12_write_54 rfl ?_
      refine gM32 rfl dX12_write_55 hA ?_
      refine aj.iload_n dX12_write_58 rfl ?_
      refine aM32N (i := mN t) dX12_write_59 hA h_t.1 (by omega) ?_
      refine aj.callS1 (d' := 0) (As := [.long z, .int (A 32 (mN t))]) (rest := [.int (nI ((40 * (mN t)) + (mN q))), .ref (b + 19)]) dX12_write_60 v_X12_432 w1854 rfl rfl (Nat.le_of_ble_eq_true rfl) (Nat.le_of_ble_eq_true rfl) (c_cut _ z (A 32 (mN t))) (fun M hM => ?_)
      subst hM
      refine sM34N (i := (40 * (mN t)) + (mN q)) dX12_write_63 hA rfl (by omega) (fun M hA => ?_)
      refine aj.aload_n dX12_write_64 rfl ?_
      refine gM34 rfl dX12_write_65 hA ?_
      refine aj.bipush (v := 40) dX12_write_68 rfl ?_
      refine aj.iload_n dX12_write_70 rfl ?_
      refine aj.imulN (a := 40) (b := mN t) dX12_write_71 rfl h_t.1 ?_
      refine aj.iload_n dX12_write_72 rfl ?_
      refine aj.iaddN (a := 40 * (mN t)) (b := mN q) dX12_write_73 rfl h_q.1 ?_
      refine aM34N (i := (40 * (mN t)) + (mN q)) dX12_write_74 hA rfl (by omega) ?_
      exact aj.lret rfl dX12_write_75 ⟨by rw [if_pos g1, if_neg g2, if_pos c36]; exact congrArg (fun q => some (Value.long q)) pk_uLs, _, ⟨_, _, _, hA⟩, by rw [if_pos ⟨g1, g2, c36⟩]; rfl, fun j h => va_up_ne _ _ h⟩
    · refine aj.ldc2 dX12_write_39 w1852 ?_
      exact aj.lret rfl dX12_write_42 ⟨by rw [if_pos g1, if_neg g2, if_neg c36], _, ⟨_, _, _, hA⟩, by rw [if_neg (fun z => c36 z.2.2)], fun _ _ => rfl⟩
  · refine aj.iload dX12_write_17 rfl ?_
    refine aj.i2l dX12_write_19 ?_
    exact aj.lret rfl dX12_write_20 ⟨by by_cases c1 : inR t 0 3; (by_cases c2 : A 32 (mN t) = -1; (simp only [if_pos c1, if_pos c2]; rfl); exact absurd (by rw [if_pos c1, if_neg c2]) c14); (simp only [if_neg c1]; rfl), _, ⟨_, _, _, hA⟩, by rw [if_neg (fun z => c14 (by rw [if_pos z.1, if_neg z.2.1]))], fun _ _ => rfl⟩
