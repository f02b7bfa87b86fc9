/-- what is known of a round -/
def rK (B : Nat → Int32) (sl ol : Option (List Nat)) (s n : Nat) (kn : Nat → Int32) (wo : Nat → Int64) : Prop := ∀ t a h, t < n → a ≤ t → h ≤ a → kn (25 * t + 5 * a + h) = 0 ∨ (kn (25 * t + 5 * a + h) = 1 ∧ wo (25 * t + 5 * a + h) = lI (mR B sl ol s (n - t) (mN (B (21 + s)) + a) (mN (B 27) + t) (mN (B 25) + h)))
/-- a time of a round at which so many minutes are left -/
def rV (B : Nat → Int32) (s n k age mi hu : Nat) : Prop := k ≤ n ∧ ∃ a h, a ≤ n - k ∧ h ≤ a ∧ age = mN (B (21 + s)) + a ∧ mi = mN (B 27) + (n - k) ∧ hu = mN (B 25) + h
abbrev rF (B : Nat → Int32) (sl ol : Option (List Nat)) (s k age mi hu : Nat) : Nat → Int := mRB B sl ol (mR B sl ol s k) k s age mi hu
theorem rF_bd {B : Nat → Int32} {sl ol : Option (List Nat)} {T : Nat} (hB : mOK B sl ol T) {s k age mi hu : Nat} (hk : k ≤ 4) (aim : Nat) : -300000000000 ≤ rF B sl ol s k age mi hu aim ∧ rF B sl ol s k age mi hu aim ≤ 300000000000 := by
  have hp := pw_bd k hk
  have h := mRB_bd (ol := ol) (k := k) (s := s) (age := age) (mi := mi) (hu := hu) hB hk (c := (10 : Int) ^ k * 2200000 - 1100000) (by omega) (mR_bd hB s k hk) aim
  show _ ≤ mRB _ _ _ _ _ _ _ _ _ _ ∧ mRB _ _ _ _ _ _ _ _ _ _ ≤ _
  omega
theorem rX_bd {B : Nat → Int32} {sl ol : Option (List Nat)} {T : Nat} (hB : mOK B sl ol T) {s k age mi hu : Nat} (hk : k ≤ 4) (n : Nat) : -300000000000 ≤ imx (rF B sl ol s k age mi hu) (rF B sl ol s k age mi hu 21) n ∧ imx (rF B sl ol s k age mi hu) (rF B sl ol s k age mi hu 21) n ≤ 300000000000 := imx_bd (rF_bd hB hk 21) (rF_bd hB hk) n
theorem imx_att (f : Nat → Int) (z : Int) : ∀ n, imx f z n = z ∨ ∃ k, k < n ∧ f k = imx f z n
  | 0 => Or.inl rfl
  | n + 1 => by
    rw [imx_s]
    rcases Int.le_total (imx f z n) (f n) with h | h
    · exact Or.inr ⟨n, by omega, by omega⟩
    · rcases imx_att f z n with q | ⟨k, hk, q⟩
      · exact Or.inl (by omega)
      · exact Or.inr ⟨k, by omega, by omega⟩
theorem zfirst_ex {p : Nat → Prop} [DecidablePred p] : ∀ {n i k : Nat}, i ≤ k → k < i + n → p k → ∃ r, zfirst p n i = some r
  | 0, i, k, h1, h2, _ => absurd h1 (by omega)
  | n + 1, i, k, h1, h2, h3 => by
    rw [zfirst_s]
    split
    · exact ⟨i, rfl⟩
    · rename_i q
      exact zfirst_ex (k := k) (by have : k ≠ i := fun e => q (e ▸ h3); omega) (by omega) h3
theorem roundOf_loop {G : zG} {l : Launch} {b : Nat} {M0 : zM} {I : Nat → Int32} {A : Nat → Nat → Int32} {L : Nat → Nat → Int64} (s : Nat) {x_s : Int32} (e_s : x_s = nI s) (n : Nat) {sl ol : Option (List Nat)} {T : Nat} (hB : mOK (A 1) sl ol T) (hs : s < 4) (hn : n ≤ 4) (h27 : I 27 = nI n) (k a h : Nat) (hkn : k + 1 ≤ n) (ha : a ≤ n - (k + 1)) (hh : h ≤ a) (hrec : ∀ (age mi hu : Nat) (kn : Nat → Int32) (wo : Nat → Int64) (M : zM), rV (A 1) s n k age mi hu → rK (A 1) sl ol s n kn wo → mW b M0 M I (va_up A 26 kn) (va_up L 25 wo) → am G l kX12_roundOf (2 * k + 3) [.ref b, .int x_s, .int (nI k), .int (nI age), .int (nI mi), .int (nI hu)] M 0 0 (zr (.long (lI (mR (A 1) sl ol s k age mi hu))) (fun M' => ∃ (kn : Nat → Int32) (wo : Nat → Int64), rK (A 1) sl ol s n kn wo ∧ mW b M0 M' I (va_up A 26 kn) (va_up L 25 wo)))) : ∀ (m i : Nat) (x : Int64) (kn : Nat → Int32) (wo : Nat → Int64) (M : zM), i + m = 21 → x = lI (imx (rF (A 1) sl ol s k (mN (A 1 (21 + s)) + a) (mN (A 1 27) + (n - (k + 1))) (mN (A 1 25) + h)) (rF (A 1) sl ol s k (mN (A 1 (21 + s)) + a) (mN (A 1 27) + (n - (k + 1))) (mN (A 1 25) + h) 21) i) → rK (A 1) sl ol s n kn wo → mW b M0 M I (va_up A 26 kn) (va_up L 25 wo) → aj G l kX12_roundOf (2 * k + 5) 78 [(9, .int (nI i)), (7, .long x), (6, .int (nI (25 * (n - (k + 1)) + 5 * a + h))), (0, .ref b), (1, .int x_s), (2, .int (nI (k + 1))), (3, .int (nI ((mN (A 1 (21 + s)) + a)))), (4, .int (nI ((mN (A 1 27) + (n - (k + 1)))))), (5, .int (nI ((mN (A 1 25) + h))))] [] M 0 0 (zr (.long (lI (mR (A 1) sl ol s (k + 1) (mN (A 1 (21 + s)) + a) (mN (A 1 27) + (n - (k + 1))) (mN (A 1 25) + h)))) (fun M' => ∃ (kn : Nat → Int32) (wo : Nat → Int64), rK (A 1) sl ol s n kn wo ∧ mW b M0 M' I (va_up A 26 kn) (va_up L 25 wo))) := by
  have hT := hB.2.2.2.2.2.2.2.2.1
  have hN6 := hB.2.2.1.2
  have hN25 := hB.2.2.2.2.2.1.2
  have hN26 := hB.2.2.2.2.2.2.1.2
  have hN27 := hB.2.2.2.2.2.2.2.1.2
  have hN1 := hB.1.1.2
  have hN2 := hB.1.2.1.2
  have hag := hB.2.2.2.2.1 s hs
  have hag2 := hag.2
  intro m
  induction m with
  | zero =>
    intro i x kn wo M hin hx hK hM
    obtain ⟨u, v, w, hA⟩ := hM
    have hfb := rF_bd (s := s) (k := k) (age := (mN (A 1 (21 + s)) + a)) (mi := (mN (A 1 27) + (n - (k + 1)))) (hu := (mN (A 1 25) + h)) hB (by omega) i
    have hxb := rX_bd (s := s) (k := k) (age := (mN (A 1 (21 + s)) + a)) (mi := (mN (A 1 27) + (n - (k + 1)))) (hu := (mN (A 1 25) + h)) hB (by omega) i
    refine aj.iload dX12_roundOf_78 rfl ?_
    refine aj.bipush (v := 21) dX12_roundOf_80 rfl ?_
    refine aj.icmp_geN (a := i) (b := 21) (tgt := 123) dX12_roundOf_82 rfl rfl (by omega) (by omega) rfl (fun c82 => ?_) (fun c82 => ?_)
    · refine aj.aload_n dX12_roundOf_123 rfl ?_
      refine gM26 rfl dX12_roundOf_124 hA ?_
      refine aj.iload dX12_roundOf_127 rfl ?_
      refine aj.iconst (v := 1) dX12_roundOf_129 rfl ?_
      refine sM26N (i := 25 * (n - (k + 1)) + 5 * a + h) dX12_roundOf_130 hA rfl (by omega) (fun M hA => ?_)
      refine aj.aload_n dX12_roundOf_131 rfl ?_
      refine gM25 rfl dX12_roundOf_132 hA ?_
      refine aj.iload dX12_roundOf_135 rfl ?_
      refine aj.lload dX12_roundOf_137 rfl ?_
      refine sM25N (i := 25 * (n - (k + 1)) + 5 * a + h) dX12_roundOf_139 hA rfl (by omega) (fun M hA => ?_)
      refine aj.lload dX12_roundOf_140 rfl ?_
      rw [bx_uu, bx_uu] at hA
      refine aj.lret rfl dX12_roundOf_142 ⟨by rw [hx, show i = 21 by omega]; rfl, _, _, ?_, u, v, w, hA⟩
      intro t' a' h' h1 h2 h3
      by_cases e : 25 * t' + 5 * a' + h' = 25 * (n - (k + 1)) + 5 * a + h
      · have e1 : t' = n - (k + 1) := by omega
        have e2 : a' = a := by omega
        have e3 : h' = h := by omega
        subst e1
        subst e2
        subst e3
        refine Or.inr ⟨pk_us, updL_s.trans ?_⟩
        rw [hx, show i = 21 by omega, show n - (n - (k + 1)) = k + 1 by omega]
        rfl
      · rw [pk_un e, updL_n e]
        exact hK t' a' h' h1 h2 h3
    · exact absurd c82 (by omega)
  | succ m ih =>
    intro i x kn wo M hin hx hK hM
    obtain ⟨u, v, w, hA⟩ := hM
    have hfb := rF_bd (s := s) (k := k) (age := (mN (A 1 (21 + s)) + a)) (mi := (mN (A 1 27) + (n - (k + 1)))) (hu := (mN (A 1 25) + h)) hB (by omega) i
    have hxb := rX_bd (s := s) (k := k) (age := (mN (A 1 (21 + s)) + a)) (mi := (mN (A 1 27) + (n - (k + 1)))) (hu := (mN (A 1 25) + h)) hB (by omega) i
    refine aj.iload dX12_roundOf_78 rfl ?_
    refine aj.bipush (v := 21) dX12_roundOf_80 rfl ?_
    refine aj.icmp_geN (a := i) (b := 21) (tgt := 123) dX12_roundOf_82 rfl rfl (by omega) (by omega) rfl (fun c82 => ?_) (fun c82 => ?_)
    · exact absurd c82 (by omega)
    · refine aj.aload_n dX12_roundOf_85 rfl ?_
      refine aj.iload_n dX12_roundOf_86 rfl ?_
      refine aj.iload_n dX12_roundOf_87 rfl ?_
      refine aj.iload_n dX12_roundOf_88 rfl ?_
      refine aj.iload dX12_roundOf_89 rfl ?_
      refine aj.iload dX12_roundOf_91 rfl ?_
      refine aj.iload dX12_roundOf_93 rfl ?_
      refine aj.callV1 (d' := (2 * k + 4)) (As := [.int x_s, .int (nI (k + 1)), .int (nI ((mN (A 1 (21 + s)) + a))), .int (nI ((mN (A 1 27) + (n - (k + 1))))), .int (nI ((mN (A 1 25) + h))), .int (nI i)]) (rest := []) dX12_roundOf_95 v_X12_363 li_X12_roundBy hA.1 rfl rfl rfl (Nat.le_of_ble_eq_true rfl) (by omega) (c_roundBy (d := 2 * k + 3) (by omega) s e_s k i rfl (mN (A 1 (21 + s)) + a) (mN (A 1 27) + (n - (k + 1))) (mN (A 1 25) + h) (rV (A 1) s n k) (mR (A 1) sl ol s k) (rK (A 1) sl ol s n) hB hs (by omega) (by omega) (by omega) (by omega) (by omega) (⟨by omega, a, h, by omega, hh, rfl, by omega, rfl⟩ : rV (A 1) s n k (mN (A 1 (21 + s)) + a) ((mN (A 1 27) + (n - (k + 1))) + 1) (mN (A 1 25) + h)) (⟨by omega, a + 1, h, by omega, by omega, rfl, by omega, rfl⟩ : rV (A 1) s n k ((mN (A 1 (21 + s)) + a) + 1) ((mN (A 1 27) + (n - (k + 1))) + 1) (mN (A 1 25) + h)) (⟨by omega, a + 1, h + 1, by omega, by omega, rfl, by omega, rfl⟩ : rV (A 1) s n k ((mN (A 1 (21 + s)) + a) + 1) ((mN (A 1 27) + (n - (k + 1))) + 1) ((mN (A 1 25) + h) + 1)) hrec kn wo hK M ⟨_, _, _, hA⟩) (fun M hM => ?_)
      obtain ⟨kn, wo, hK, u, v, w, hA⟩ := hM
      refine aj.lstore (lv' := [(10, .long (lI (rF (A 1) sl ol s k (mN (A 1 (21 + s)) + a) (mN (A 1 27) + (n - (k + 1))) (mN (A 1 25) + h) i))), (9, .int (nI i)), (7, .long x), (6, .int (nI (25 * (n - (k + 1)) + 5 * a + h))), (0, .ref b), (1, .int x_s), (2, .int (nI (k + 1))), (3, .int (nI ((mN (A 1 (21 + s)) + a)))), (4, .int (nI ((mN (A 1 27) + (n - (k + 1)))))), (5, .int (nI ((mN (A 1 25) + h))))]) dX12_roundOf_98 (Nat.le_of_ble_eq_true rfl) rfl ?_
      refine aj.lload dX12_roundOf_100 rfl ?_
      refine aj.lload dX12_roundOf_102 rfl ?_
      refine aj.lif_le (tgt := 113) dX12_roundOf_104 dX12_roundOf_105 rfl (fun c104 => ?_) (fun c104 => ?_)
      · refine aj.lload dX12_roundOf_113 rfl ?_
        refine aj.lstore (lv' := [(7, .long x), (10, .long (lI (rF (A 1) sl ol s k (mN (A 1 (21 + s)) + a) (mN (A 1 27) + (n - (k + 1))) (mN (A 1 25) + h) i))), (9, .int (nI i)), (6, .int (nI (25 * (n - (k + 1)) + 5 * a + h))), (0, .ref b), (1, .int x_s), (2, .int (nI (k + 1))), (3, .int (nI ((mN (A 1 (21 + s)) + a)))), (4, .int (nI ((mN (A 1 27) + (n - (k + 1)))))), (5, .int (nI ((mN (A 1 25) + h))))]) dX12_roundOf_115 (Nat.le_of_ble_eq_true rfl) rfl ?_
        refine aj.iincN (a := i) (c := 1) (lv' := [(9, .int (nI (i + 1))), (7, .long x), (10, .long (lI (rF (A 1) sl ol s k (mN (A 1 (21 + s)) + a) (mN (A 1 27) + (n - (k + 1))) (mN (A 1 25) + h) i))), (6, .int (nI (25 * (n - (k + 1)) + 5 * a + h))), (0, .ref b), (1, .int x_s), (2, .int (nI (k + 1))), (3, .int (nI ((mN (A 1 (21 + s)) + a)))), (4, .int (nI ((mN (A 1 27) + (n - (k + 1)))))), (5, .int (nI ((mN (A 1 25) + h))))]) dX12_roundOf_117 rfl (Nat.le_of_ble_eq_true rfl) rfl rfl rfl ?_
        refine aj.goto (tgt := 78) dX12_roundOf_120 rfl ?_
        refine aj.pick [0, 1, 3, 4, 5, 6, 7, 8, 9] rfl ?_
        exact ih (i + 1) _ kn wo M (by omega) (by rw [hx, imx_s, Int.max_eq_left (by rw [hx, lI_lt (by omega) (by omega) (by omega) (by omega)] at c104; omega)]) hK ⟨_, _, _, hA⟩
      · refine aj.lload dX12_roundOf_108 rfl ?_
        refine aj.goto (tgt := 115) dX12_roundOf_110 rfl ?_
        refine aj.lstore (lv' := [(7, .long (lI (rF (A 1) sl ol s k (mN (A 1 (21 + s)) + a) (mN (A 1 27) + (n - (k + 1))) (mN (A 1 25) + h) i))), (10, .long (lI (rF (A 1) sl ol s k (mN (A 1 (21 + s)) + a) (mN (A 1 27) + (n - (k + 1))) (mN (A 1 25) + h) i))), (9, .int (nI i)), (6, .int (nI (25 * (n - (k + 1)) + 5 * a + h))), (0, .ref b), (1, .int x_s), (2, .int (nI (k + 1))), (3, .int (nI ((mN (A 1 (21 + s)) + a)))), (4, .int (nI ((mN (A 1 27) + (n - (k + 1)))))), (5, .int (nI ((mN (A 1 25) + h))))]) dX12_roundOf_115 (Nat.le_of_ble_eq_true rfl) rfl ?_
        refine aj.iincN (a := i) (c := 1) (lv' := [(9, .int (nI (i + 1))), (7, .long (lI (rF (A 1) sl ol s k (mN (A 1 (21 + s)) + a) (mN (A 1 27) + (n - (k + 1))) (mN (A 1 25) + h) i))), (10, .long (lI (rF (A 1) sl ol s k (mN (A 1 (21 + s)) + a) (mN (A 1 27) + (n - (k + 1))) (mN (A 1 25) + h) i))), (6, .int (nI (25 * (n - (k + 1)) + 5 * a + h))), (0, .ref b), (1, .int x_s), (2, .int (nI (k + 1))), (3, .int (nI ((mN (A 1 (21 + s)) + a)))), (4, .int (nI ((mN (A 1 27) + (n - (k + 1)))))), (5, .int (nI ((mN (A 1 25) + h))))]) dX12_roundOf_117 rfl (Nat.le_of_ble_eq_true rfl) rfl rfl rfl ?_
        refine aj.goto (tgt := 78) dX12_roundOf_120 rfl ?_
        refine aj.pick [0, 1, 3, 4, 5, 6, 7, 8, 9] rfl ?_
        exact ih (i + 1) _ kn wo M (by omega) (by rw [imx_s, Int.max_eq_right (by rw [hx, lI_lt (by omega) (by omega) (by omega) (by omega)] at c104; omega)]) hK ⟨_, _, _, hA⟩
theorem roundOf_s {G : zG} {l : Launch} {b : Nat} {M0 : zM} {I : Nat → Int32} {A : Nat → Nat → Int32} {L : Nat → Nat → Int64} (s : Nat) {x_s : Int32} (e_s : x_s = nI s) (n : Nat) {sl ol : Option (List Nat)} {T : Nat} (hB : mOK (A 1) sl ol T) (hs : s < 4) (hn : n ≤ 4) (h27 : I 27 = nI n) (k a h : Nat) (hkn : k + 1 ≤ n) (ha : a ≤ n - (k + 1)) (hh : h ≤ a) (hrec : ∀ (age mi hu : Nat) (kn : Nat → Int32) (wo : Nat → Int64) (M : zM), rV (A 1) s n k age mi hu → rK (A 1) sl ol s n kn wo → mW b M0 M I (va_up A 26 kn) (va_up L 25 wo) → am G l kX12_roundOf (2 * k + 3) [.ref b, .int x_s, .int (nI k), .int (nI age), .int (nI mi), .int (nI hu)] M 0 0 (zr (.long (lI (mR (A 1) sl ol s k age mi hu))) (fun M' => ∃ (kn : Nat → Int32) (wo : Nat → Int64), rK (A 1) sl ol s n kn wo ∧ mW b M0 M' I (va_up A 26 kn) (va_up L 25 wo)))) (kn : Nat → Int32) (wo : Nat → Int64) (M : zM) (hK : rK (A 1) sl ol s n kn wo) (hM : mW b M0 M I (va_up A 26 kn) (va_up L 25 wo)) : am G l kX12_roundOf (2 * k + 5) [.ref b, .int x_s, .int (nI (k + 1)), .int (nI (mN (A 1 (21 + s)) + a)), .int (nI (mN (A 1 27) + (n - (k + 1)))), .int (nI (mN (A 1 25) + h))] M 0 0 (zr (.long (lI (mR (A 1) sl ol s (k + 1) (mN (A 1 (21 + s)) + a) (mN (A 1 27) + (n - (k + 1))) (mN (A 1 25) + h)))) (fun M' => ∃ (kn : Nat → Int32) (wo : Nat → Int64), rK (A 1) sl ol s n kn wo ∧ mW b M0 M' I (va_up A 26 kn) (va_up L 25 wo))) := by
  obtain ⟨u, v, w, hA⟩ := hM
  have hT := hB.2.2.2.2.2.2.2.2.1
  have hN6 := hB.2.2.1.2
  have hN25 := hB.2.2.2.2.2.1.2
  have hN26 := hB.2.2.2.2.2.2.1.2
  have hN27 := hB.2.2.2.2.2.2.2.1.2
  have hN1 := hB.1.1.2
  have hN2 := hB.1.2.1.2
  have hag := hB.2.2.2.2.1 s hs
  have hag2 := hag.2
  refine am.of (by decide) (Nat.le_of_ble_eq_true rfl) ?_
  refine aj.iload_n dX12_roundOf_0 rfl ?_
  refine aj.if_neN (a := k + 1) (tgt := 6) dX12_roundOf_1 rfl (by omega) rfl (fun c1 => ?_) (fun c1 => ?_)
  · refine aj.bipush (v := 25) dX12_roundOf_6 rfl ?_
    refine aj.aload_n dX12_roundOf_8 rfl ?_
    refine gM27 rfl dX12_roundOf_9 hA ?_
    refine aj.iload_n dX12_roundOf_12 rfl ?_
    refine aj.isubN (a := n) (b := k + 1) dX12_roundOf_13 h27 rfl (by omega) ?_
    refine aj.imulN (a := 25) (b := n - (k + 1)) dX12_roundOf_14 rfl rfl ?_
    refine aj.iconst (v := 5) dX12_roundOf_15 rfl ?_
    refine aj.iload_n dX12_roundOf_16 rfl ?_
    refine aj.aload_n dX12_roundOf_17 rfl ?_
    refine gM1 rfl dX12_roundOf_18 hA ?_
    refine aj.bipush (v := 21) dX12_roundOf_21 rfl ?_
    refine aj.iload_n dX12_roundOf_23 rfl ?_
    refine aj.iaddN (a := 21) (b := s) dX12_roundOf_24 rfl e_s ?_
    refine aM1N (i := 21 + s) dX12_roundOf_25 hA rfl (by omega) ?_
    refine aj.isubN (a := (mN (A 1 (21 + s)) + a)) (b := mN (A 1 (21 + s))) dX12_roundOf_26 rfl hag.1 (by omega) ?_
    refine aj.imulN (a := 5) (b := ((mN (A 1 (21 + s)) + a)) - (mN (A 1 (21 + s)))) dX12_roundOf_27 rfl rfl ?_
    refine aj.iaddN (a := 25 * (n - (k + 1))) (b := 5 * (((mN (A 1 (21 + s)) + a)) - (mN (A 1 (21 + s))))) dX12_roundOf_28 rfl rfl ?_
    refine aj.iload dX12_roundOf_29 rfl ?_
    refine aj.iaddN (a := (25 * (n - (k + 1))) + (5 * (((mN (A 1 (21 + s)) + a)) - (mN (A 1 (21 + s)))))) (b := (mN (A 1 25) + h)) dX12_roundOf_31 rfl rfl ?_
    refine aj.aload_n dX12_roundOf_32 rfl ?_
    refine gM1 rfl dX12_roundOf_33 hA ?_
    refine aj.bipush (v := 25) dX12_roundOf_36 rfl ?_
    refine aM1N (i := 25) dX12_roundOf_38 hA rfl (by omega) ?_
    refine aj.isubN (a := ((25 * (n - (k + 1))) + (5 * (((mN (A 1 (21 + s)) + a)) - (mN (A 1 (21 + s)))))) + ((mN (A 1 25) + h))) (b := mN (A 1 25)) dX12_roundOf_39 rfl hB.2.2.2.2.2.1.1 (by omega) ?_
    refine aj.istore (lv' := [(6, .int (nI ((((25 * (n - (k + 1))) + (5 * (((mN (A 1 (21 + s)) + a)) - (mN (A 1 (21 + s)))))) + ((mN (A 1 25) + h))) - (mN (A 1 25))))), (0, .ref b), (1, .int x_s), (2, .int (nI (k + 1))), (3, .int (nI ((mN (A 1 (21 + s)) + a)))), (4, .int (nI ((mN (A 1 27) + (n - (k + 1)))))), (5, .int (nI ((mN (A 1 25) + h))))]) dX12_roundOf_40 (Nat.le_of_ble_eq_true rfl) rfl ?_
    refine aj.aload_n dX12_roundOf_42 rfl ?_
    refine gM26 rfl dX12_roundOf_43 hA ?_
    refine aj.iload dX12_roundOf_46 rfl ?_
    refine aM26N (i := 25 * (n - (k + 1)) + 5 * a + h) dX12_roundOf_48 hA (congrArg nI (by omega)) (by omega) ?_
    refine aj.if_eq (tgt := 60) dX12_roundOf_49 rfl (fun c49 => ?_) (fun c49 => ?_)
    · refine aj.aload_n dX12_roundOf_60 rfl ?_
      refine aj.iload_n dX12_roundOf_61 rfl ?_
      refine aj.iload_n dX12_roundOf_62 rfl ?_
      refine aj.iload_n dX12_roundOf_63 rfl ?_
      refine aj.iload dX12_roundOf_64 rfl ?_
      refine aj.iload dX12_roundOf_66 rfl ?_
      refine aj.bipush (v := 21) dX12_roundOf_68 rfl ?_
      refine aj.callV1 (d' := (2 * k + 4)) (As := [.int x_s, .int (nI (k + 1)), .int (nI ((mN (A 1 (21 + s)) + a))), .int (nI ((mN (A 1 27) + (n - (k + 1))))), .int (nI ((mN (A 1 25) + h))), .int 21]) (rest := []) dX12_roundOf_70 v_X12_363 li_X12_roundBy hA.1 rfl rfl rfl (Nat.le_of_ble_eq_true rfl) (by omega) (c_roundBy (d := 2 * k + 3) (by omega) s e_s k 21 rfl (mN (A 1 (21 + s)) + a) (mN (A 1 27) + (n - (k + 1))) (mN (A 1 25) + h) (rV (A 1) s n k) (mR (A 1) sl ol s k) (rK (A 1) sl ol s n) hB hs (by omega) (by omega) (by omega) (by omega) (by omega) (⟨by omega, a, h, by omega, hh, rfl, by omega, rfl⟩ : rV (A 1) s n k (mN (A 1 (21 + s)) + a) ((mN (A 1 27) + (n - (k + 1))) + 1) (mN (A 1 25) + h)) (⟨by omega, a + 1, h, by omega, by omega, rfl, by omega, rfl⟩ : rV (A 1) s n k ((mN (A 1 (21 + s)) + a) + 1) ((mN (A 1 27) + (n - (k + 1))) + 1) (mN (A 1 25) + h)) (⟨by omega, a + 1, h + 1, by omega, by omega, rfl, by omega, rfl⟩ : rV (A 1) s n k ((mN (A 1 (21 + s)) + a) + 1) ((mN (A 1 27) + (n - (k + 1))) + 1) ((mN (A 1 25) + h) + 1)) hrec kn wo hK M ⟨_, _, _, hA⟩) (fun M hM => ?_)
      obtain ⟨kn, wo, hK, u, v, w, hA⟩ := hM
      refine aj.lstore (lv' := [(7, .long (lI (rF (A 1) sl ol s k (mN (A 1 (21 + s)) + a) (mN (A 1 27) + (n - (k + 1))) (mN (A 1 25) + h) 21))), (6, .int (nI ((((25 * (n - (k + 1))) + (5 * (((mN (A 1 (21 + s)) + a)) - (mN (A 1 (21 + s)))))) + ((mN (A 1 25) + h))) - (mN (A 1 25))))), (0, .ref b), (1, .int x_s), (2, .int (nI (k + 1))), (3, .int (nI ((mN (A 1 (21 + s)) + a)))), (4, .int (nI ((mN (A 1 27) + (n - (k + 1)))))), (5, .int (nI ((mN (A 1 25) + h))))]) dX12_roundOf_73 (Nat.le_of_ble_eq_true rfl) rfl ?_
      refine aj.iconst (v := 0) dX12_roundOf_75 rfl ?_
      refine aj.istore (lv' := [(9, .int 0), (7, .long (lI (rF (A 1) sl ol s k (mN (A 1 (21 + s)) + a) (mN (A 1 27) + (n - (k + 1))) (mN (A 1 25) + h) 21))), (6, .int (nI ((((25 * (n - (k + 1))) + (5 * (((mN (A 1 (21 + s)) + a)) - (mN (A 1 (21 + s)))))) + ((mN (A 1 25) + h))) - (mN (A 1 25))))), (0, .ref b), (1, .int x_s), (2, .int (nI (k + 1))), (3, .int (nI ((mN (A 1 (21 + s)) + a)))), (4, .int (nI ((mN (A 1 27) + (n - (k + 1)))))), (5, .int (nI ((mN (A 1 25) + h))))]) dX12_roundOf_76 (Nat.le_of_ble_eq_true rfl) rfl ?_
      refine aj.pick [0, 1, 2, 3, 4, 5, 6, 7, 8] rfl ?_
      have epl : nI ((((25 * (n - (k + 1))) + (5 * (((mN (A 1 (21 + s)) + a)) - (mN (A 1 (21 + s)))))) + ((mN (A 1 25) + h))) - (mN (A 1 25))) = nI (25 * (n - (k + 1)) + 5 * a + h) := (congrArg nI (by omega))
      show aj G l kX12_roundOf (2 * k + 5) 78 [(9, .int 0), (7, .long (lI (rF (A 1) sl ol s k (mN (A 1 (21 + s)) + a) (mN (A 1 27) + (n - (k + 1))) (mN (A 1 25) + h) 21))), (6, .int (nI ((((25 * (n - (k + 1))) + (5 * (((mN (A 1 (21 + s)) + a)) - (mN (A 1 (21 + s)))))) + ((mN (A 1 25) + h))) - (mN (A 1 25))))), (0, .ref b), (1, .int x_s), (2, .int (nI (k + 1))), (3, .int (nI ((mN (A 1 (21 + s)) + a)))), (4, .int (nI ((mN (A 1 27) + (n - (k + 1)))))), (5, .int (nI ((mN (A 1 25) + h))))] [] M 0 0 _
      rw [epl]
      exact roundOf_loop s e_s n hB hs hn h27 k a h hkn ha hh hrec 21 0 _ kn wo M (by omega) rfl hK ⟨_, _, _, hA⟩
    · refine aj.aload_n dX12_roundOf_52 rfl ?_
      refine gM25 rfl dX12_roundOf_53 hA ?_
      refine aj.iload dX12_roundOf_56 rfl ?_
      refine aM25N (i := 25 * (n - (k + 1)) + 5 * a + h) dX12_roundOf_58 hA (congrArg nI (by omega)) (by omega) ?_
      rcases hK (n - (k + 1)) a h (by omega) ha hh with q | ⟨q1, q2⟩
      · exact absurd q c49
      · refine aj.lret rfl dX12_roundOf_59 ⟨?_, kn, wo, hK, u, v, w, hA⟩
        rw [show n - (n - (k + 1)) = k + 1 by omega] at q2
        exact congrArg (fun z => some (Value.long z)) q2
  · exact absurd c1 (by omega)
theorem c_roundOf {G : zG} {l : Launch} {b : Nat} {M0 : zM} {I : Nat → Int32} {A : Nat → Nat → Int32} {L : Nat → Nat → Int64} (s : Nat) {x_s : Int32} (e_s : x_s = nI s) (n : Nat) {sl ol : Option (List Nat)} {T : Nat} (hB : mOK (A 1) sl ol T) (hs : s < 4) (hn : n ≤ 4) (h27 : I 27 = nI n) : ∀ (k age mi hu : Nat) (kn : Nat → Int32) (wo : Nat → Int64) (M : zM), rV (A 1) s n k age mi hu → rK (A 1) sl ol s n kn wo → mW b M0 M I (va_up A 26 kn) (va_up L 25 wo) → am G l kX12_roundOf (2 * k + 3) [.ref b, .int x_s, .int (nI k), .int (nI age), .int (nI mi), .int (nI hu)] M 0 0 (zr (.long (lI (mR (A 1) sl ol s k age mi hu))) (fun M' => ∃ (kn : Nat → Int32) (wo : Nat → Int64), rK (A 1) sl ol s n kn wo ∧ mW b M0 M' I (va_up A 26 kn) (va_up L 25 wo))) := by
  intro k
  induction k with
  | zero =>
    intro age mi hu kn wo M hv hK hM
    obtain ⟨u, v, w, hA⟩ := hM
    refine am.of (by decide) (Nat.le_of_ble_eq_true rfl) ?_
    refine aj.iload_n dX12_roundOf_0 rfl ?_
    refine aj.if_neN (a := 0) (tgt := 6) dX12_roundOf_1 rfl (by omega) rfl (fun c1 => ?_) (fun c1 => ?_)
    · exact absurd rfl c1
    · refine aj.lconst (v := 0) dX12_roundOf_4 rfl ?_
      exact aj.lret rfl dX12_roundOf_5 ⟨rfl, kn, wo, hK, u, v, w, hA⟩
  | succ k ih =>
    intro age mi hu kn wo M hv hK hM
    obtain ⟨h1, a, h, h2, h3, rfl, rfl, rfl⟩ := hv
    exact roundOf_s s e_s n hB hs hn h27 k a h h1 h2 h3 ih kn wo M hK hM
theorem laysR_l {G : zG} {l : Launch} {b : Nat} {M0 : zM} {I : Nat → Int32} {A : Nat → Nat → Int32} {L : Nat → Nat → Int64} {Q : Option Value → zM → Prop} (x y : Int32) (hk : ∀ (kn : Nat → Int32) (M : zM), (∀ j, j < 125 → kn j = 0) → mW b M0 M I (va_up A 26 kn) L → aj G l kX12_laysRound 12 21 [(0, .ref b), (1, .int x), (2, .int y)] [] M 0 0 Q) : ∀ (m i : Nat) (kn : Nat → Int32) (M : zM), i + m = 125 → (∀ j, j < i → kn j = 0) → mW b M0 M I (va_up A 26 kn) L → aj G l kX12_laysRound 12 2 [(3, .int (nI i)), (0, .ref b), (1, .int x), (2, .int y)] [] M 0 0 Q := by
  intro m
  induction m with
  | zero =>
    intro i kn M hin hkn hM
    obtain ⟨u, v, w, hA⟩ := hM
    refine aj.iload_n dX12_laysRound_2 rfl ?_
    refine aj.bipush (v := 125) dX12_laysRound_3 rfl ?_
    refine aj.icmp_geN (a := i) (b := 125) (tgt := 21) dX12_laysRound_5 rfl rfl (by omega) (by omega) rfl (fun c5 => ?_) (fun c5 => ?_)
    · refine aj.pick [1, 2, 3] rfl ?_
      exact hk kn M (fun k hk => hkn k (by omega)) ⟨_, _, _, hA⟩
    · exact absurd c5 (by omega)
  | succ m ih =>
    intro i kn M hin hkn hM
    obtain ⟨u, v, w, hA⟩ := hM
    refine aj.iload_n dX12_laysRound_2 rfl ?_
    refine aj.bipush (v := 125) dX12_laysRound_3 rfl ?_
    refine aj.icmp_geN (a := i) (b := 125) (tgt := 21) dX12_laysRound_5 rfl rfl (by omega) (by omega) rfl (fun c5 => ?_) (fun c5 => ?_)
    · exact absurd c5 (by omega)
    · refine aj.aload_n dX12_laysRound_8 rfl ?_
      refine gM26 rfl dX12_laysRound_9 hA ?_
      refine aj.iload_n dX12_laysRound_12 rfl ?_
      refine aj.iconst (v := 0) dX12_laysRound_13 rfl ?_
      refine sM26N (i := i) dX12_laysRound_14 hA rfl (by omega) (fun M hA => ?_)
      refine aj.iincN (a := i) (c := 1) (lv' := [(3, .int (nI (i + 1))), (0, .ref b), (1, .int x), (2, .int y)]) dX12_laysRound_15 rfl (Nat.le_of_ble_eq_true rfl) rfl rfl rfl ?_
      refine aj.goto (tgt := 2) dX12_laysRound_18 rfl ?_
      refine aj.pick [0, 1, 2, 3] rfl ?_
      rw [bx_uu] at hA
      exact ih (i + 1) _ M (by omega) (fun k hk => if e : k = i then (by rw [e]; exact pk_us) else (by rw [pk_un e]; exact hkn k (by omega))) ⟨_, _, _, hA⟩
theorem laysR_mid {G : zG} {l : Launch} {b : Nat} {M0 : zM} {I : Nat → Int32} {A : Nat → Nat → Int32} {L : Nat → Nat → Int64} (s : Nat) {x_s : Int32} (e_s : x_s = nI s) (n : Nat) {x_n : Int32} (e_n : x_n = nI n) {sl ol : Option (List Nat)} {T : Nat} (hB : mOK (A 1) sl ol T) (hs : s < 4) (hn : n ≤ 4) (kn : Nat → Int32) (M : zM) (hkn : ∀ j, j < 125 → kn j = 0) (hM : mW b M0 M I (va_up A 26 kn) L) : aj G l kX12_laysRound 12 21 [(0, .ref b), (1, .int x_s), (2, .int x_n)] [] M 0 0 (zr (.long (lI (mR (A 1) sl ol s n (mN (A 1 (21 + s))) (mN (A 1 27)) (mN (A 1 25))))) (fun M' => ∃ (kn : Nat → Int32) (wo : Nat → Int64), rK (A 1) sl ol s n kn wo ∧ mW b M0 M' (va_up I 27 (nI n)) (va_up A 26 kn) (va_up L 25 wo))) := by
  obtain ⟨u, v, w, hA⟩ := hM
  subst e_n
  have hT := hB.2.2.2.2.2.2.2.2.1
  have hN6 := hB.2.2.1.2
  have hN25 := hB.2.2.2.2.2.1.2
  have hN26 := hB.2.2.2.2.2.2.1.2
  have hN27 := hB.2.2.2.2.2.2.2.1.2
  have hN1 := hB.1.1.2
  have hN2 := hB.1.2.1.2
  have hag := hB.2.2.2.2.1 s hs
  have hag2 := hag.2
  refine aj.aload_n dX12_laysRound_21 rfl ?_
  refine aj.iload_n dX12_laysRound_22 rfl ?_
  refine pM27 rfl dX12_laysRound_23 hA (fun M hA => ?_)
  have hcall := c_roundOf (G := G) (l := l) (I := va_up I 27 (nI n)) (A := A) (L := L) s e_s n hB hs hn rfl n (mN (A 1 (21 + s))) (mN (A 1 27)) (mN (A 1 25)) kn (L 25) M ⟨Nat.le_refl _, 0, 0, by omega, by omega, rfl, by omega, rfl⟩ (fun t a h h1 h2 h3 => Or.inl (hkn _ (by omega))) ⟨u, v, w, by rw [va_up_id]; exact hA⟩
  rw [← hag.1, ← hB.2.2.2.2.2.2.2.1.1, ← hB.2.2.2.2.2.1.1] at hcall
  refine aj.aload_n dX12_laysRound_26 rfl ?_
  refine aj.iload_n dX12_laysRound_27 rfl ?_
  refine aj.iload_n dX12_laysRound_28 rfl ?_
  refine aj.aload_n dX12_laysRound_29 rfl ?_
  refine gM1 rfl dX12_laysRound_30 hA ?_
  refine aj.bipush (v := 21) dX12_laysRound_33 rfl ?_
  refine aj.iload_n dX12_laysRound_35 rfl ?_
  refine aj.iaddN (a := 21) (b := s) dX12_laysRound_36 rfl e_s ?_
  refine aM1N (i := 21 + s) dX12_laysRound_37 hA rfl (by omega) ?_
  refine aj.aload_n dX12_laysRound_38 rfl ?_
  refine gM1 rfl dX12_laysRound_39 hA ?_
  refine aj.bipush (v := 27) dX12_laysRound_42 rfl ?_
  refine aM1N (i := 27) dX12_laysRound_44 hA rfl (by omega) ?_
  refine aj.aload_n dX12_laysRound_45 rfl ?_
  refine gM1 rfl dX12_laysRound_46 hA ?_
  refine aj.bipush (v := 25) dX12_laysRound_49 rfl ?_
  refine aM1N (i := 25) dX12_laysRound_51 hA rfl (by omega) ?_
  refine aj.callV1 (d' := (2 * n + 3)) (As := [.int x_s, .int (nI n), .int (A 1 (21 + s)), .int (A 1 27), .int (A 1 25)]) (rest := []) dX12_laysRound_52 v_X12_356 li_X12_roundOf hA.1 rfl rfl rfl (Nat.le_of_ble_eq_true rfl) (by omega) (hcall) (fun M hM => ?_)
  obtain ⟨kn, wo, hK, u, v, w, hA⟩ := hM
  exact aj.lret rfl dX12_laysRound_55 ⟨rfl, kn, wo, hK, u, v, w, hA⟩
theorem c_laysRound {G : zG} {l : Launch} {b : Nat} {M0 M : zM} {I : Nat → Int32} {A : Nat → Nat → Int32} {L : Nat → Nat → Int64} (s : Nat) {x_s : Int32} (e_s : x_s = nI s) (n : Nat) {x_n : Int32} (e_n : x_n = nI n) {sl ol : Option (List Nat)} {T : Nat} (hM : mW b M0 M I A L) (hB : mOK (A 1) sl ol T) (hs : s < 4) (hn : n ≤ 4) : am G l kX12_laysRound 12 [.ref b, .int x_s, .int x_n] M 0 0 (zr (.long (lI (mR (A 1) sl ol s n (mN (A 1 (21 + s))) (mN (A 1 27)) (mN (A 1 25))))) (fun M' => ∃ (kn : Nat → Int32) (wo : Nat → Int64), rK (A 1) sl ol s n kn wo ∧ mW b M0 M' (va_up I 27 (nI n)) (va_up A 26 kn) (va_up L 25 wo))) := by
  obtain ⟨u, v, w, hA⟩ := hM
  refine am.of (by decide) (Nat.le_of_ble_eq_true rfl) ?_
  refine aj.iconst (v := 0) dX12_laysRound_0 rfl ?_
  refine aj.istore_n (lv' := [(3, .int 0), (0, .ref b), (1, .int x_s), (2, .int x_n)]) dX12_laysRound_1 (Nat.le_of_ble_eq_true rfl) rfl ?_
  refine aj.pick [0, 1, 2, 3] rfl ?_
  exact laysR_l x_s x_n (fun kn M hkn hM => laysR_mid s e_s n e_n hB hs hn kn M hkn hM) 125 0 (A 26) M (by omega) (fun k hk => absurd hk (by omega)) ⟨_, _, _, by rw [va_up_id]; exact hA⟩
