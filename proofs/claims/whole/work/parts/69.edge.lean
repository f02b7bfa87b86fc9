theorem edge_in {p : Nat → Prop} [DecidablePred p] {f : Nat → Int32} : ∀ {n k : Nat}, zedge p f n = some k → p k ∧ k < n
  | 0, _, h => by cases h
  | n + 1, k, h => by
    rw [zedge_s] at h
    by_cases hp : p n
    · rw [if_pos hp] at h
      cases hz : zedge p f n with
      | none => rw [hz] at h; cases h; exact ⟨hp, Nat.lt_succ_self _⟩
      | some j =>
        rw [hz] at h
        have ih := edge_in hz
        have h' : (if f n ≤ f j then some j else some n) = some k := h
        split at h'
        · cases h'; exact ⟨ih.1, by omega⟩
        · cases h'; exact ⟨hp, Nat.lt_succ_self _⟩
    · rw [if_neg hp] at h
      have ih := edge_in h
      exact ⟨ih.1, by omega⟩
theorem edge_congr {p : Nat → Prop} [DecidablePred p] {f g : Nat → Int32} : ∀ {n : Nat}, (∀ k, k < n → p k → f k = g k) → zedge p f n = zedge p g n
  | 0, _ => rfl
  | n + 1, h => by
    have ih := edge_congr (n := n) (fun k hk hp => h k (by omega) hp)
    rw [zedge_s, zedge_s, ih]
    by_cases hp : p n
    · rw [if_pos hp, if_pos hp]
      cases hz : zedge p g n with
      | none => rfl
      | some j =>
        have hj := edge_in hz
        show (if f n ≤ f j then some j else some n) = if g n ≤ g j then some j else some n
        rw [h n (by omega) hp, h j (by omega) hj.1]
    · rw [if_neg hp, if_neg hp]
/-- first and most as the class has them -/
def zeC (f : Nat → Int32) (r : Option Nat) (x y : Int32) : Prop := match r with
  | none => x = -1
  | some k => (x = nI k ∧ k < 2 ^ 31) ∧ y = f k
theorem zeC_on {f : Nat → Int32} {r : Option Nat} {x y : Int32} (h : zeC f r x y) : x = zon r := by
  cases r with
  | none => exact h
  | some k => exact h.1.1
theorem zeC_n {f : Nat → Int32} {r : Option Nat} {x y : Int32} (h : zeC f r x y) (hx : x = -1) : r = none := by
  cases r with
  | none => rfl
  | some k => exact absurd (h.1.1.symm.trans hx) (z_nI1 h.1.2)
theorem zeC_s {f : Nat → Int32} {r : Option Nat} {x y : Int32} (h : zeC f r x y) (hx : ¬ x = -1) : ∃ k, r = some k ∧ y = f k := by
  cases r with
  | none => exact absurd h hx
  | some k => exact ⟨k, rfl, h.2⟩
theorem edge_lp {G : zG} {l : Launch} {a : Nat} {M0 M : zM} {V : Nat → Nat → Int32} {W : Nat → Nat → Int64} {R : Nat → Nat → Option Nat} {B : Nat → Int32} {sl : Option (List Nat)} {s : Nat} {xs : Int32} (hF : tbF B sl (B (13 + s)) (mN (B (21 + s))) (mN (B 26)) V 71) (hA : kA a M0 M V W R) : ∀ (n i : Nat) (x y : Int32), i + n = 21 → zeC (fun a => tS V 71 0 a) (zedge (fun a => mTch B sl s a 10 = 0) (fun a => tS V 71 0 a) i) x y → aj G l kX11_edge 6 25 [(5, .int (nI i)), (3, .int x), (4, .int y), (0, .ref a), (1, .int xs), (2, .ref (a + 71))] [] M 0 0 (zr (.int (zon (zedge (fun a => mTch B sl s a 10 = 0) (fun a => tS V 71 0 a) 21))) (fun M' => M' = M)) := by
  intro n
  induction n with
  | zero =>
    intro i x y hin hz
    refine aj.iload dX11_edge_25 rfl ?_
    refine aj.bipush (v := 21) dX11_edge_27 rfl ?_
    refine aj.icmp_geN (a := i) (b := 21) (tgt := 75) dX11_edge_29 rfl rfl (by omega) (by omega) rfl (fun c29 => ?_) (fun c29 => ?_)
    · refine aj.iload_n dX11_edge_75 rfl ?_
      exact aj.iret rfl dX11_edge_76 ⟨by rw [zeC_on hz, show i = 21 by omega], rfl⟩
    · exact absurd c29 (by omega)
  | succ n ih =>
    intro i x y hin hz
    have ht := tb_tch hF (aim := i) (by omega)
    have hzl := zcnt_le (fun lot => mFar B (nI (mLand sl (B (13 + s)) (mN (B (21 + s))) (mN (B 26)) i lot)) = 0) 10
    refine aj.iload dX11_edge_25 rfl ?_
    refine aj.bipush (v := 21) dX11_edge_27 rfl ?_
    refine aj.icmp_geN (a := i) (b := 21) (tgt := 75) dX11_edge_29 rfl rfl (by omega) (by omega) rfl (fun c29 => ?_) (fun c29 => ?_)
    · exact absurd c29 (by omega)
    · refine aj.aload_n dX11_edge_32 rfl ?_
      refine aj.iload dX11_edge_33 rfl ?_
      refine aj.iconst (v := 0) dX11_edge_35 rfl ?_
      refine aj.callE1 (d' := 1) (As := [.int (nI i), .int 0]) (rest := []) dX11_edge_36 v_X11_230 li_X8_sum ⟨_, hA.ob (i := 71) rfl (by decide)⟩ rfl rfl rfl (Nat.le_of_ble_eq_true rfl) (Nat.le_of_ble_eq_true rfl) (k_sum (o := 71) ⟨rfl, rfl, rfl, rfl⟩ i rfl 0 (by omega) hA) (fun M hM => ?_)
      subst hM
      refine aj.istore (lv' := [(6, .int (V 74 i - 0 * V 73 i)), (5, .int (nI i)), (3, .int x), (4, .int y), (0, .ref a), (1, .int xs), (2, .ref (a + 71))]) dX11_edge_39 (Nat.le_of_ble_eq_true rfl) rfl ?_
      refine aj.aload_n dX11_edge_41 rfl ?_
      refine aj.iload dX11_edge_42 rfl ?_
      refine aj.callE1 (d' := 1) (As := [.int (nI i)]) (rest := []) dX11_edge_44 v_X11_224 li_X8_touchCount ⟨_, hA.ob (i := 71) rfl (by decide)⟩ rfl rfl rfl (Nat.le_of_ble_eq_true rfl) (Nat.le_of_ble_eq_true rfl) (k_touchCount (o := 71) ⟨rfl, rfl, rfl, rfl⟩ i rfl (by omega) hA) (fun M hM => ?_)
      subst hM
      refine aj.if_neN (a := zcnt (fun lot => mFar B (nI (mLand sl (B (13 + s)) (mN (B (21 + s))) (mN (B 26)) i lot)) = 0) 10) (tgt := 69) dX11_edge_47 ht (by omega) rfl (fun c47 => ?_) (fun c47 => ?_)
      · refine aj.iincN (a := i) (c := 1) (lv' := [(5, .int (nI (i + 1))), (6, .int (V 74 i - 0 * V 73 i)), (3, .int x), (4, .int y), (0, .ref a), (1, .int xs), (2, .ref (a + 71))]) dX11_edge_69 rfl (Nat.le_of_ble_eq_true rfl) rfl rfl rfl ?_
        refine aj.goto (tgt := 25) dX11_edge_72 rfl ?_
        refine aj.pick [0, 2, 3, 4, 5, 6] rfl ?_
        exact ih (i + 1) _ _ (by omega) (by rw [zedge_s, if_neg c47]; exact hz)
      · refine aj.iload_n dX11_edge_50 rfl ?_
        refine aj.iconst (v := (-1)) dX11_edge_51 rfl ?_
        refine aj.icmp_eq (tgt := 62) dX11_edge_52 rfl (fun c52 => ?_) (fun c52 => ?_)
        · refine aj.iload dX11_edge_62 rfl ?_
          refine aj.istore_n (lv' := [(3, .int (nI i)), (6, .int (V 74 i - 0 * V 73 i)), (5, .int (nI i)), (4, .int y), (0, .ref a), (1, .int xs), (2, .ref (a + 71))]) dX11_edge_64 (Nat.le_of_ble_eq_true rfl) rfl ?_
          refine aj.iload dX11_edge_65 rfl ?_
          refine aj.istore (lv' := [(4, .int (V 74 i - 0 * V 73 i)), (3, .int (nI i)), (6, .int (V 74 i - 0 * V 73 i)), (5, .int (nI i)), (0, .ref a), (1, .int xs), (2, .ref (a + 71))]) dX11_edge_67 (Nat.le_of_ble_eq_true rfl) rfl ?_
          refine aj.iincN (a := i) (c := 1) (lv' := [(5, .int (nI (i + 1))), (4, .int (V 74 i - 0 * V 73 i)), (3, .int (nI i)), (6, .int (V 74 i - 0 * V 73 i)), (0, .ref a), (1, .int xs), (2, .ref (a + 71))]) dX11_edge_69 rfl (Nat.le_of_ble_eq_true rfl) rfl rfl rfl ?_
          refine aj.goto (tgt := 25) dX11_edge_72 rfl ?_
          refine aj.pick [0, 2, 1, 4, 5, 6] rfl ?_
          exact ih (i + 1) _ _ (by omega) (by rw [zedge_s, if_pos c47, zeC_n hz c52]; exact ⟨⟨rfl, by omega⟩, rfl⟩)
        · refine aj.iload dX11_edge_55 rfl ?_
          refine aj.iload dX11_edge_57 rfl ?_
          refine aj.icmp_le (tgt := 69) dX11_edge_59 rfl (fun c59 => ?_) (fun c59 => ?_)
          · refine aj.iincN (a := i) (c := 1) (lv' := [(5, .int (nI (i + 1))), (6, .int (V 74 i - 0 * V 73 i)), (3, .int x), (4, .int y), (0, .ref a), (1, .int xs), (2, .ref (a + 71))]) dX11_edge_69 rfl (Nat.le_of_ble_eq_true rfl) rfl rfl rfl ?_
            refine aj.goto (tgt := 25) dX11_edge_72 rfl ?_
            refine aj.pick [0, 2, 3, 4, 5, 6] rfl ?_
            obtain ⟨k, hk, hy⟩ := zeC_s hz c52
            exact ih (i + 1) _ _ (by omega) (by rw [zedge_s, if_pos c47]; rw [hk] at hz ⊢; show zeC _ (if _ ≤ _ then _ else _) _ _; rw [← hy, if_pos (show tS V 71 0 i ≤ y from c59)]; exact hz)
          · refine aj.iload dX11_edge_62 rfl ?_
            refine aj.istore_n (lv' := [(3, .int (nI i)), (6, .int (V 74 i - 0 * V 73 i)), (5, .int (nI i)), (4, .int y), (0, .ref a), (1, .int xs), (2, .ref (a + 71))]) dX11_edge_64 (Nat.le_of_ble_eq_true rfl) rfl ?_
            refine aj.iload dX11_edge_65 rfl ?_
            refine aj.istore (lv' := [(4, .int (V 74 i - 0 * V 73 i)), (3, .int (nI i)), (6, .int (V 74 i - 0 * V 73 i)), (5, .int (nI i)), (0, .ref a), (1, .int xs), (2, .ref (a + 71))]) dX11_edge_67 (Nat.le_of_ble_eq_true rfl) rfl ?_
            refine aj.iincN (a := i) (c := 1) (lv' := [(5, .int (nI (i + 1))), (4, .int (V 74 i - 0 * V 73 i)), (3, .int (nI i)), (6, .int (V 74 i - 0 * V 73 i)), (0, .ref a), (1, .int xs), (2, .ref (a + 71))]) dX11_edge_69 rfl (Nat.le_of_ble_eq_true rfl) rfl rfl rfl ?_
            refine aj.goto (tgt := 25) dX11_edge_72 rfl ?_
            refine aj.pick [0, 2, 1, 4, 5, 6] rfl ?_
            obtain ⟨k, hk, hy⟩ := zeC_s hz c52
            exact ih (i + 1) _ _ (by omega) (by rw [zedge_s, if_pos c47]; rw [hk] at hz ⊢; show zeC _ (if _ ≤ _ then _ else _) _ _; rw [← hy, if_neg (show ¬ tS V 71 0 i ≤ y from c59)]; exact ⟨⟨rfl, by omega⟩, rfl⟩)
theorem sum_untouched {B : Nat → Int32} {f : Nat → Int32} {op : Prop} [Decidable op] : ∀ {n : Nat}, zcnt (fun q => mFar B (f q) = 0) n = 0 → zsum (fun q => mScore B (f q) op) n = zsum (fun q => mScore B (f q) False) n
  | 0, _ => rfl
  | n + 1, h => by
    rw [zcnt_s] at h
    have h1 : ¬ mFar B (f n) = 0 := fun z => by rw [if_pos z] at h; omega
    rw [if_neg h1] at h
    rw [zsum_s, zsum_s, sum_untouched (by omega : zcnt (fun q => mFar B (f q) = 0) n = 0)]
    congr 1
    unfold mScore
    rw [if_neg h1, if_neg h1]
theorem p_edge {G : zG} {l : Launch} {a : Nat} {M0 M : zM} {V0 : Nat → Nat → Int32} {W0 : Nat → Nat → Int64} {R : Nat → Nat → Option Nat} {T : Nat} {B : Nat → Int32} {sl ol : Option (List Nat)} {Tm : Nat} (s : Int32) (hM : kW a M0 M V0 W0 R) (hH : cH a M0 V0 R T B sl ol Tm)  : am G l kX11_edge 6 [.ref a, .int s] M 0 0 (zr (.int (if inR s 0 ((mN (B 6) : Int) - 1) then zon (zedge (fun a => mTch B sl (mN s) a 10 = 0) (fun a => mSum B sl (mN s) (mN (B (21 + mN s))) (mOpen ol (mN (B 26)) (mN (B 27)) (mN (B 25)) = true) a 10) 21) else -2)) (fun M' => kW a M0 M' V0 W0 R)) := by
  obtain ⟨V, W, hA, hv, hw⟩ := hM
  obtain ⟨hT, hb, hS, hB⟩ := id hH
  have hd0 := (dLaw_of hB).1
  have hd1 := (dLaw_of hB).2
  have h25 := hB.2.2.2.2.2.1
  have h26 := hB.2.2.2.2.2.2.1
  have h27 := hB.2.2.2.2.2.2.2.1
  have h6 := hB.2.2.1
  have hag := hB.2.2.2.2.1
  have hTm := hB.2.2.2.2.2.2.2.2.1
  have h25b := h25.2
  have h26b := h26.2
  have h27b := h27.2
  have h6b := h6.2
  refine am.of (by decide) (Nat.le_of_ble_eq_true rfl) ?_
  refine aj.aload_n dX11_edge_0 rfl ?_
  refine aj.iload_n dX11_edge_1 rfl ?_
  refine aj.callE1 (d' := 0) (As := [.int s]) (rest := []) dX11_edge_2 v_X11_124 li_X11_isShooter ⟨_, hA.ob (i := 0) rfl (by decide)⟩ rfl rfl rfl (Nat.le_of_ble_eq_true rfl) (Nat.le_of_ble_eq_true rfl) (k_isShooter s hH hA) (fun M hM => ?_)
  subst hM
  refine aj.if_neB (tgt := 11) dX11_edge_5 rfl (fun c5 => ?_) (fun c5 => ?_)
  · have h_s := inR_bdS c5 (by omega)
    have h2_s := h_s.2
    refine aj.aload_n dX11_edge_11 rfl ?_
    refine aj.iload_n dX11_edge_12 rfl ?_
    refine aj.callE1 (d' := 5) (As := [.int s]) (rest := []) dX11_edge_13 v_X11_220 li_X11_tableNow ⟨_, hA.ob (i := 0) rfl (by decide)⟩ rfl rfl rfl (Nat.le_of_ble_eq_true rfl) (Nat.le_of_ble_eq_true rfl) (k_tableNow (mN s) h_s.1 (by omega) hH hv hA) (fun M hM => ?_)
    obtain ⟨V, hA, hE, hF⟩ := hM
    have hv := k_tbv hE (by decide) hv
    refine aj.astore_n (lv' := [(2, .ref (a + 71)), (0, .ref a), (1, .int s)]) dX11_edge_16 (Nat.le_of_ble_eq_true rfl) rfl ?_
    refine aj.iconst (v := (-1)) dX11_edge_17 rfl ?_
    refine aj.istore_n (lv' := [(3, .int (-1)), (2, .ref (a + 71)), (0, .ref a), (1, .int s)]) dX11_edge_18 (Nat.le_of_ble_eq_true rfl) rfl ?_
    refine aj.iconst (v := 0) dX11_edge_19 rfl ?_
    refine aj.istore (lv' := [(4, .int 0), (3, .int (-1)), (2, .ref (a + 71)), (0, .ref a), (1, .int s)]) dX11_edge_20 (Nat.le_of_ble_eq_true rfl) rfl ?_
    refine aj.iconst (v := 0) dX11_edge_22 rfl ?_
    refine aj.istore (lv' := [(5, .int 0), (4, .int 0), (3, .int (-1)), (2, .ref (a + 71)), (0, .ref a), (1, .int s)]) dX11_edge_23 (Nat.le_of_ble_eq_true rfl) rfl ?_
    refine aj.pick [0, 2, 1, 4, 5, 3] rfl ?_
    refine aj.mono (edge_lp (s := mN s) hF hA 21 0 _ 0 (by omega) rfl) (fun r M' hq => ⟨hq.1.trans (by rw [if_pos c5]; congr 3; exact edge_congr (fun k hk hp => by rw [tb_sumF hF (by omega)]; exact (sum_untouched hp).symm)), ?_⟩)
    rw [hq.2]
    exact ⟨_, _, hA, hv, hw⟩
  · refine aj.bipush (v := (-2)) dX11_edge_8 rfl ?_
    exact aj.iret rfl dX11_edge_10 ⟨by rw [if_neg c5], ⟨_, _, hA, hv, hw⟩⟩
theorem tb_mBest {B : Nat → Int32} {sl : Option (List Nat)} {s age o : Nat} {V : Nat → Nat → Int32} (hF : tbF B sl (B (13 + s)) age (mN (B 26)) V o) (op : Prop) [Decidable op] : mBest B sl s age op 20 = zmax (tS V o (if op then B 5 else 0)) 20 := (tb_best hF op).symm
theorem tb_mBestF {B : Nat → Int32} {sl : Option (List Nat)} {s age o : Nat} {V : Nat → Nat → Int32} (hF : tbF B sl (B (13 + s)) age (mN (B 26)) V o) : mBest B sl s age False 20 = zmax (tS V o 0) 20 := (tb_bestF hF).symm
theorem tb_mBestT {B : Nat → Int32} {sl : Option (List Nat)} {s age o : Nat} {V : Nat → Nat → Int32} (hF : tbF B sl (B (13 + s)) age (mN (B 26)) V o) : mBest B sl s age True 20 = zmax (tS V o (B 5)) 20 := (tb_bestT hF).symm
theorem tb_mSum {B : Nat → Int32} {sl : Option (List Nat)} {s age o aim : Nat} {V : Nat → Nat → Int32} (hF : tbF B sl (B (13 + s)) age (mN (B 26)) V o) (op : Prop) [Decidable op] (ha : aim ≤ 20) : mSum B sl s age op aim 10 = tS V o (if op then B 5 else 0) aim := (tb_sum hF op ha).symm
theorem tb_mSumF {B : Nat → Int32} {sl : Option (List Nat)} {s age o aim : Nat} {V : Nat → Nat → Int32} (hF : tbF B sl (B (13 + s)) age (mN (B 26)) V o) (ha : aim ≤ 20) : mSum B sl s age False aim 10 = tS V o 0 aim := (tb_sumF hF ha).symm
theorem tb_mSumT {B : Nat → Int32} {sl : Option (List Nat)} {s age o aim : Nat} {V : Nat → Nat → Int32} (hF : tbF B sl (B (13 + s)) age (mN (B 26)) V o) (ha : aim ≤ 20) : mSum B sl s age True aim 10 = tS V o (B 5) aim := (tb_sumT hF ha).symm
theorem dare_of {B : Nat → Int32} {sl : Option (List Nat)} {s c : Nat} {V : Nat → Nat → Int32} (hF : tbF B sl (B (13 + s)) (mN (B (21 + s))) (mN (B 26)) V 71) : mDare B sl s c ↔ 0 < zcnt (fun lot => mFar B (nI (mLand sl (B (13 + s)) (mN (B (21 + s))) (mN (B 26)) (zmax (tS V 71 (nI c)) 20) lot)) = 0) 10 := by
  have e : mBest (upd B 5 (nI c)) sl s (mN (upd B 5 (nI c) (21 + s))) True 20 = zmax (tS V 71 (nI c)) 20 := by
    refine zmax_congr (fun k hk => ?_)
    obtain ⟨-, h2, h3⟩ := hF k (by omega)
    have := sum_cost B (nI c) (fun lot => nI (mLand sl (B (13 + s)) (mN (B (21 + s))) (mN (B 26)) k lot)) 10
    unfold tS
    rw [h2, h3, ← this]
    unfold mSum
    rw [pk_un (by omega), pk_un (by omega), pk_un (by omega)]
  unfold mDare
  rw [e]
  unfold mTch mLn
  rw [pk_un (by omega), pk_un (by omega), pk_un (by omega)]
  exact Iff.rfl
theorem dares_lp {G : zG} {l : Launch} {a : Nat} {M0 M : zM} {V : Nat → Nat → Int32} {W : Nat → Nat → Int64} {R : Nat → Nat → Option Nat} {B : Nat → Int32} {sl : Option (List Nat)} {s : Nat} {xs : Int32} (hF : tbF B sl (B (13 + s)) (mN (B (21 + s))) (mN (B 26)) V 71) (hA : kA a M0 M V W R) : ∀ (n : Nat), n ≤ 100 → zlast (fun c => mDare B sl s c) 100 = zlast (fun c => mDare B sl s c) n → aj G l kX11_dares 6 20 [(3, .int (nI n + (-1))), (0, .ref a), (1, .int xs), (2, .ref (a + 71))] [] M 0 0 (zr (.int (zlast (fun c => mDare B sl s c) 100)) (fun M' => M' = M)) := by
  intro n
  induction n with
  | zero =>
    intro hn hz
    refine aj.iload_n dX11_dares_20 rfl ?_
    refine aj.if_lt (tgt := 44) dX11_dares_21 rfl (fun c21 => ?_) (fun c21 => ?_)
    · refine aj.iconst (v := (-1)) dX11_dares_44 rfl ?_
      exact aj.iret rfl dX11_dares_45 ⟨by rw [hz]; rfl, rfl⟩
    · exact absurd (by decide) c21
  | succ n ih =>
    intro hn hz
    have en : nI (n + 1) + (-1) = nI n := z_dec (by omega)
    rw [en]
    have hzm := zmax_le (tS V 71 (nI n)) 20
    have ht := tb_tch hF (aim := zmax (tS V 71 (nI n)) 20) hzm
    have hzl := zcnt_le (fun lot => mFar B (nI (mLand sl (B (13 + s)) (mN (B (21 + s))) (mN (B 26)) (zmax (tS V 71 (nI n)) 20) lot)) = 0) 10
    refine aj.iload_n dX11_dares_20 rfl ?_
    refine aj.if_ltN (a := n) (tgt := 44) dX11_dares_21 rfl (by omega) rfl ?_
    refine aj.aload_n dX11_dares_24 rfl ?_
    refine aj.aload_n dX11_dares_25 rfl ?_
    refine aj.iload_n dX11_dares_26 rfl ?_
    refine aj.callE1 (d' := 2) (As := [.int (nI n)]) (rest := [.ref (a + 71)]) dX11_dares_27 v_X11_240 li_X8_best ⟨_, hA.ob (i := 71) rfl (by decide)⟩ rfl rfl rfl (Nat.le_of_ble_eq_true rfl) (Nat.le_of_ble_eq_true rfl) (k_best (o := 71) ⟨rfl, rfl, rfl, rfl⟩ (nI n) hA) (fun M hM => ?_)
    subst hM
    have hz27 := zmax_le (tS V 71 (nI n)) 20
    refine aj.callE1 (d' := 1) (As := [.int (nI (zmax (tS V 71 (nI n)) 20))]) (rest := []) dX11_dares_30 v_X11_224 li_X8_touchCount ⟨_, hA.ob (i := 71) rfl (by decide)⟩ rfl rfl rfl (Nat.le_of_ble_eq_true rfl) (Nat.le_of_ble_eq_true rfl) (k_touchCount (o := 71) ⟨rfl, rfl, rfl, rfl⟩ (zmax (tS V 71 (nI n)) 20) rfl (by omega) hA) (fun M hM => ?_)
    subst hM
    refine aj.if_leN (a := zcnt (fun lot => mFar B (nI (mLand sl (B (13 + s)) (mN (B (21 + s))) (mN (B 26)) (zmax (tS V 71 (nI n)) 20) lot)) = 0) 10) (tgt := 38) dX11_dares_33 ht (by omega) rfl (fun c33 => ?_) (fun c33 => ?_)
    · refine aj.iinc (v := (nI n) + (-1)) (lv' := [(3, .int ((nI n) + (-1))), (0, .ref a), (1, .int xs), (2, .ref (a + 71))]) dX11_dares_38 rfl (Nat.le_of_ble_eq_true rfl) rfl rfl ?_
      refine aj.goto (tgt := 20) dX11_dares_41 rfl ?_
      refine aj.pick [0, 1, 2, 3] rfl ?_
      exact ih (by omega) (by rw [hz, zlast_s, if_neg (fun z => by have := (dare_of hF).mp z; omega)])
    · refine aj.iload_n dX11_dares_36 rfl ?_
      exact aj.iret rfl dX11_dares_37 ⟨by rw [hz, zlast_s, if_pos ((dare_of hF).mpr c33)], rfl⟩
theorem p_dares {G : zG} {l : Launch} {a : Nat} {M0 M : zM} {V0 : Nat → Nat → Int32} {W0 : Nat → Nat → Int64} {R : Nat → Nat → Option Nat} {T : Nat} {B : Nat → Int32} {sl ol : Option (List Nat)} {Tm : Nat} (s : Int32) (hM : kW a M0 M V0 W0 R) (hH : cH a M0 V0 R T B sl ol Tm)  : am G l kX11_dares 6 [.ref a, .int s] M 0 0 (zr (.int (if inR s 0 ((mN (B 6) : Int) - 1) then zlast (fun c => mDare B sl (mN s) c) 100 else -2)) (fun M' => kW a M0 M' V0 W0 R)) := by
  obtain ⟨V, W, hA, hv, hw⟩ := hM
  obtain ⟨hT, hb, hS, hB⟩ := id hH
  have hd0 := (dLaw_of hB).1
  have hd1 := (dLaw_of hB).2
  have h25 := hB.2.2.2.2.2.1
  have h26 := hB.2.2.2.2.2.2.1
  have h27 := hB.2.2.2.2.2.2.2.1
  have h6 := hB.2.2.1
  have hag := hB.2.2.2.2.1
  have hTm := hB.2.2.2.2.2.2.2.2.1
  have h25b := h25.2
  have h26b := h26.2
  have h27b := h27.2
  have h6b := h6.2
  refine am.of (by decide) (Nat.le_of_ble_eq_true rfl) ?_
  refine aj.aload_n dX11_dares_0 rfl ?_
  refine aj.iload_n dX11_dares_1 rfl ?_
  refine aj.callE1 (d' := 0) (As := [.int s]) (rest := []) dX11_dares_2 v_X11_124 li_X11_isShooter ⟨_, hA.ob (i := 0) rfl (by decide)⟩ rfl rfl rfl (Nat.le_of_ble_eq_true rfl) (Nat.le_of_ble_eq_true rfl) (k_isShooter s hH hA) (fun M hM => ?_)
  subst hM
  refine aj.if_neB (tgt := 11) dX11_dares_5 rfl (fun c5 => ?_) (fun c5 => ?_)
  · have h_s := inR_bdS c5 (by omega)
    have h2_s := h_s.2
    refine aj.aload_n dX11_dares_11 rfl ?_
    refine aj.iload_n dX11_dares_12 rfl ?_
    refine aj.callE1 (d' := 5) (As := [.int s]) (rest := []) dX11_dares_13 v_X11_220 li_X11_tableNow ⟨_, hA.ob (i := 0) rfl (by decide)⟩ rfl rfl rfl (Nat.le_of_ble_eq_true rfl) (Nat.le_of_ble_eq_true rfl) (k_tableNow (mN s) h_s.1 (by omega) hH hv hA) (fun M hM => ?_)
    obtain ⟨V, hA, hE, hF⟩ := hM
    have hv := k_tbv hE (by decide) hv
    refine aj.astore_n (lv' := [(2, .ref (a + 71)), (0, .ref a), (1, .int s)]) dX11_dares_16 (Nat.le_of_ble_eq_true rfl) rfl ?_
    refine aj.bipush (v := 99) dX11_dares_17 rfl ?_
    refine aj.istore_n (lv' := [(3, .int 99), (2, .ref (a + 71)), (0, .ref a), (1, .int s)]) dX11_dares_19 (Nat.le_of_ble_eq_true rfl) rfl ?_
    refine aj.pick [0, 2, 3, 1] rfl ?_
    refine aj.mono (dares_lp (s := mN s) hF hA 100 (by omega) rfl) (fun r M' hq => ⟨hq.1.trans (by rw [if_pos c5]), ?_⟩)
    rw [hq.2]
    exact ⟨_, _, hA, hv, hw⟩
  · refine aj.bipush (v := (-2)) dX11_dares_8 rfl ?_
    exact aj.iret rfl dX11_dares_10 ⟨by rw [if_neg c5], ⟨_, _, hA, hv, hw⟩⟩
theorem greedy_lp {G : zG} {l : Launch} {a : Nat} {M0 : zM} {V0 : Nat → Nat → Int32} {W0 : Nat → Nat → Int64} {R : Nat → Nat → Option Nat} {T : Nat} {B : Nat → Int32} {sl ol : Option (List Nat)} {Tm : Nat} (hH : cH a M0 V0 R T B sl ol Tm) : ∀ (n i : Nat) (z : Int32) (M : zM), i + n = mN (B 6) → z = zbits (fun t => 0 < mTch B sl t (mBest B sl t (mN (B (21 + t))) False 20) 10) i → kW a M0 M V0 W0 R → aj G l kX11_greedy 6 4 [(2, .int (nI i)), (1, .int z), (0, .ref a)] [] M 0 0 (zr (.int (zbits (fun t => 0 < mTch B sl t (mBest B sl t (mN (B (21 + t))) False 20) 10) (mN (B 6)))) (fun M' => kW a M0 M' V0 W0 R)) := by
  obtain ⟨hT, hb, hS, hB⟩ := id hH
  have hd0 := (dLaw_of hB).1
  have hd1 := (dLaw_of hB).2
  have h25 := hB.2.2.2.2.2.1
  have h26 := hB.2.2.2.2.2.2.1
  have h27 := hB.2.2.2.2.2.2.2.1
  have h6 := hB.2.2.1
  have hag := hB.2.2.2.2.1
  have hTm := hB.2.2.2.2.2.2.2.2.1
  have h25b := h25.2
  have h26b := h26.2
  have h27b := h27.2
  have h6b := h6.2
  intro n
  induction n with
  | zero =>
    intro i z M hin hz hM
    obtain ⟨V, W, hA, hv, hw⟩ := hM
    refine aj.iload_n dX11_greedy_4 rfl ?_
    refine aj.aload_n dX11_greedy_5 rfl ?_
    refine gT hT hA w378 dX11_greedy_6 ?_
    refine gB_shooterCount (hA.bw hb) w226 dX11_greedy_9 ?_
    refine aj.icmp_geN (a := i) (b := mN (B 6)) (tgt := 45) dX11_greedy_12 rfl h6.1 (by omega) (by omega) rfl (fun c12 => ?_) (fun c12 => ?_)
    · refine aj.iload_n dX11_greedy_45 rfl ?_
      exact aj.iret rfl dX11_greedy_46 ⟨by rw [hz, show i = mN (B 6) by omega], _, _, hA, hv, hw⟩
    · exact absurd c12 (by omega)
  | succ n ih =>
    intro i z M hin hz hM
    obtain ⟨V, W, hA, hv, hw⟩ := hM
    refine aj.iload_n dX11_greedy_4 rfl ?_
    refine aj.aload_n dX11_greedy_5 rfl ?_
    refine gT hT hA w378 dX11_greedy_6 ?_
    refine gB_shooterCount (hA.bw hb) w226 dX11_greedy_9 ?_
    refine aj.icmp_geN (a := i) (b := mN (B 6)) (tgt := 45) dX11_greedy_12 rfl h6.1 (by omega) (by omega) rfl (fun c12 => ?_) (fun c12 => ?_)
    · exact absurd c12 (by omega)
    · refine aj.aload_n dX11_greedy_15 rfl ?_
      refine aj.iload_n dX11_greedy_16 rfl ?_
      refine aj.callE1 (d' := 5) (As := [.int (nI i)]) (rest := []) dX11_greedy_17 v_X11_220 li_X11_tableNow ⟨_, hA.ob (i := 0) rfl (by decide)⟩ rfl rfl rfl (Nat.le_of_ble_eq_true rfl) (Nat.le_of_ble_eq_true rfl) (k_tableNow i rfl (by omega) hH hv hA) (fun M hM => ?_)
      obtain ⟨V, hA, hE, hF⟩ := hM
      have hv := k_tbv hE (by decide) hv
      refine aj.astore_n (lv' := [(3, .ref (a + 71)), (2, .int (nI i)), (1, .int z), (0, .ref a)]) dX11_greedy_20 (Nat.le_of_ble_eq_true rfl) rfl ?_
      refine aj.aload_n dX11_greedy_21 rfl ?_
      refine aj.aload_n dX11_greedy_22 rfl ?_
      refine aj.iconst (v := 0) dX11_greedy_23 rfl ?_
      refine aj.callE1 (d' := 2) (As := [.int 0]) (rest := [.ref (a + 71)]) dX11_greedy_24 v_X11_240 li_X8_best ⟨_, hA.ob (i := 71) rfl (by decide)⟩ rfl rfl rfl (Nat.le_of_ble_eq_true rfl) (Nat.le_of_ble_eq_true rfl) (k_best (o := 71) ⟨rfl, rfl, rfl, rfl⟩ 0 hA) (fun M hM => ?_)
      subst hM
      have hz24 := zmax_le (tS V 71 0) 20
      refine aj.callE1 (d' := 1) (As := [.int (nI (zmax (tS V 71 0) 20))]) (rest := []) dX11_greedy_27 v_X11_224 li_X8_touchCount ⟨_, hA.ob (i := 71) rfl (by decide)⟩ rfl rfl rfl (Nat.le_of_ble_eq_true rfl) (Nat.le_of_ble_eq_true rfl) (k_touchCount (o := 71) ⟨rfl, rfl, rfl, rfl⟩ (zmax (tS V 71 0) 20) rfl (by omega) hA) (fun M hM => ?_)
      subst hM
      have ht := tb_tch hF (aim := zmax (tS V 71 0) 20) hz24
      have hzl := zcnt_le (fun lot => mFar B (nI (mLand sl (B (13 + i)) (mN (B (21 + i))) (mN (B 26)) (zmax (tS V 71 0) 20) lot)) = 0) 10
      refine aj.if_leN (a := zcnt (fun lot => mFar B (nI (mLand sl (B (13 + i)) (mN (B (21 + i))) (mN (B 26)) (zmax (tS V 71 0) 20) lot)) = 0) 10) (tgt := 39) dX11_greedy_30 ht (by omega) rfl (fun c30 => ?_) (fun c30 => ?_)
      · refine aj.iincN (a := i) (c := 1) (lv' := [(2, .int (nI (i + 1))), (3, .ref (a + 71)), (1, .int z), (0, .ref a)]) dX11_greedy_39 rfl (Nat.le_of_ble_eq_true rfl) rfl rfl rfl ?_
        refine aj.goto (tgt := 4) dX11_greedy_42 rfl ?_
        refine aj.pick [0, 2, 3] rfl ?_
        exact ih (i + 1) _ M (by omega) (by rw [hz, zbits_s, if_neg (show ¬ 0 < mTch B sl i (mBest B sl i (mN (B (21 + i))) False 20) 10 by rw [tb_mBestF hF]; exact fun z => absurd c30 (Nat.ne_of_gt z))]) ⟨_, _, hA, hv, hw⟩
      · refine aj.iload_n dX11_greedy_33 rfl ?_
        refine aj.iconst (v := 1) dX11_greedy_34 rfl ?_
        refine aj.iload_n dX11_greedy_35 rfl ?_
        refine aj.ishl dX11_greedy_36 ?_
        refine aj.ior dX11_greedy_37 ?_
        refine aj.istore_n (lv' := [(1, .int (z ||| (1 <<< ((nI i) &&& 31)))), (3, .ref (a + 71)), (2, .int (nI i)), (0, .ref a)]) dX11_greedy_38 (Nat.le_of_ble_eq_true rfl) rfl ?_
        refine aj.iincN (a := i) (c := 1) (lv' := [(2, .int (nI (i + 1))), (1, .int (z ||| (1 <<< ((nI i) &&& 31)))), (3, .ref (a + 71)), (0, .ref a)]) dX11_greedy_39 rfl (Nat.le_of_ble_eq_true rfl) rfl rfl rfl ?_
        refine aj.goto (tgt := 4) dX11_greedy_42 rfl ?_
        refine aj.pick [0, 1, 3] rfl ?_
        exact ih (i + 1) _ M (by omega) (by rw [hz, zbits_s, if_pos (show 0 < mTch B sl i (mBest B sl i (mN (B (21 + i))) False 20) 10 by rw [tb_mBestF hF]; exact c30)]) ⟨_, _, hA, hv, hw⟩
theorem p_greedy {G : zG} {l : Launch} {a : Nat} {M0 M : zM} {V0 : Nat → Nat → Int32} {W0 : Nat → Nat → Int64} {R : Nat → Nat → Option Nat} {T : Nat} {B : Nat → Int32} {sl ol : Option (List Nat)} {Tm : Nat}  (hM : kW a M0 M V0 W0 R) (hH : cH a M0 V0 R T B sl ol Tm)  : am G l kX11_greedy 6 [.ref a] M 0 0 (zr (.int (zbits (fun t => 0 < mTch B sl t (mBest B sl t (mN (B (21 + t))) False 20) 10) (mN (B 6)))) (fun M' => kW a M0 M' V0 W0 R)) := by
  obtain ⟨V, W, hA, hv, hw⟩ := hM
  obtain ⟨hT, hb, hS, hB⟩ := id hH
  have hd0 := (dLaw_of hB).1
  have hd1 := (dLaw_of hB).2
  have h25 := hB.2.2.2.2.2.1
  have h26 := hB.2.2.2.2.2.2.1
  have h27 := hB.2.2.2.2.2.2.2.1
  have h6 := hB.2.2.1
  have hag := hB.2.2.2.2.1
  have hTm := hB.2.2.2.2.2.2.2.2.1
  have h25b := h25.2
  have h26b := h26.2
  have h27b := h27.2
  have h6b := h6.2
  refine am.of (by decide) (Nat.le_of_ble_eq_true rfl) ?_
  refine aj.iconst (v := 0) dX11_greedy_0 rfl ?_
  refine aj.istore_n (lv' := [(1, .int 0), (0, .ref a)]) dX11_greedy_1 (Nat.le_of_ble_eq_true rfl) rfl ?_
  refine aj.iconst (v := 0) dX11_greedy_2 rfl ?_
  refine aj.istore_n (lv' := [(2, .int 0), (1, .int 0), (0, .ref a)]) dX11_greedy_3 (Nat.le_of_ble_eq_true rfl) rfl ?_
  refine aj.pick [0, 1, 2] rfl ?_
  exact greedy_lp hH (mN (B 6)) 0 _ M (by omega) rfl ⟨_, _, hA, hv, hw⟩
theorem leaves_lp {G : zG} {l : Launch} {a : Nat} {M0 : zM} {V0 : Nat → Nat → Int32} {W0 : Nat → Nat → Int64} {R : Nat → Nat → Option Nat} {T : Nat} {B : Nat → Int32} {sl ol : Option (List Nat)} {Tm : Nat} (hH : cH a M0 V0 R T B sl ol Tm) (s : Nat) {x_s : Int32} (e_s : x_s = nI s) (hs4 : s < 4) {n0 : Int32} (op : Prop) [Decidable op] (r : Option Nat) : ∀ (n i : Nat) (M : zM), i + n = 10 → zfirst (fun a => mSum B sl s a (op) (mBest B sl s a (op) 20) 10 ≤ 10 * n0) n i = r → kW a M0 M V0 W0 R → aj G l kX11_leaves 6 40 [(5, .int (nI i)), (3, .int (if op then B 5 else 0)), (4, .ref (a + 71)), (0, .ref a), (1, .int x_s), (2, .int n0)] [] M 0 0 (zr (.int (zon r)) (fun M' => kW a M0 M' V0 W0 R)) := by
  obtain ⟨hT, hb, hS, hB⟩ := id hH
  have hd0 := (dLaw_of hB).1
  have hd1 := (dLaw_of hB).2
  have h25 := hB.2.2.2.2.2.1
  have h26 := hB.2.2.2.2.2.2.1
  have h27 := hB.2.2.2.2.2.2.2.1
  have h6 := hB.2.2.1
  have hag := hB.2.2.2.2.1
  have hTm := hB.2.2.2.2.2.2.2.2.1
  have h25b := h25.2
  have h26b := h26.2
  have h27b := h27.2
  have h6b := h6.2
  intro n
  induction n with
  | zero =>
    intro i M hin hr hM
    obtain ⟨V, W, hA, hv, hw⟩ := hM
    refine aj.iload dX11_leaves_40 rfl ?_
    refine aj.bipush (v := 9) dX11_leaves_42 rfl ?_
    refine aj.icmp_gtN (a := i) (b := 9) (tgt := 105) dX11_leaves_44 rfl rfl (by omega) (by omega) rfl (fun c44 => ?_) (fun c44 => ?_)
    · refine aj.iconst (v := (-1)) dX11_leaves_105 rfl ?_
      exact aj.iret rfl dX11_leaves_106 ⟨by rw [← hr]; rfl, _, _, hA, hv, hw⟩
    · exact absurd c44 (by omega)
  | succ n ih =>
    intro i M hin hr hM
    obtain ⟨V, W, hA, hv, hw⟩ := hM
    refine aj.iload dX11_leaves_40 rfl ?_
    refine aj.bipush (v := 9) dX11_leaves_42 rfl ?_
    refine aj.icmp_gtN (a := i) (b := 9) (tgt := 105) dX11_leaves_44 rfl rfl (by omega) (by omega) rfl (fun c44 => ?_) (fun c44 => ?_)
    · exact absurd c44 (by omega)
    · refine aj.aload dX11_leaves_47 rfl ?_
      refine aj.aload_n dX11_leaves_49 rfl ?_
      refine gX11_range (i := 0) rfl hA w385 dX11_leaves_50 ?_
      refine aj.aload_n dX11_leaves_53 rfl ?_
      refine gT hT hA w378 dX11_leaves_54 ?_
      refine aj.aload_n dX11_leaves_57 rfl ?_
      refine gT hT hA w378 dX11_leaves_58 ?_
      refine aj.iload_n dX11_leaves_61 rfl ?_
      refine aj.callE1 (d' := 0) (As := [.int x_s]) (rest := [.ref T, .ref (a + 49), .ref (a + 71)]) dX11_leaves_62 v_X11_131 li_X0_shakeOf (hA.bw hb).ob rfl rfl rfl (Nat.le_of_ble_eq_true rfl) (Nat.le_of_ble_eq_true rfl) (k_shakeOf s e_s (by omega) (hA.bw hb)) (fun M hM => ?_)
      subst hM
      refine aj.iload dX11_leaves_65 rfl ?_
      refine aj.aload_n dX11_leaves_67 rfl ?_
      refine gX11_now (i := 0) rfl hA w379 dX11_leaves_68 ?_
      refine gX7_wind (i := 8) rfl hA w269 dX11_leaves_71 ?_
      refine aj.callE0 (d' := 4) (As := [.ref (a + 49), .ref T, .int (B (13 + s)), .int (nI i), .int (V 8 1)]) (rest := []) dX11_leaves_74 v_X11_247 li_X8_fill ⟨_, hA.ob (i := 71) rfl (by decide)⟩ rfl rfl rfl (Nat.le_of_ble_eq_true rfl) (Nat.le_of_ble_eq_true rfl) (k_fill (o := 71) (sh := B (13 + s)) ⟨rfl, rfl, rfl, rfl⟩ i rfl (mN (B 26)) (((congrFun (hv 8 (by decide)) 1).trans (hS.2.2.2.1.trans h26.1))) (by omega) hb hd0 hA) (fun M hM => ?_)
      obtain ⟨V, hA, hE, hF⟩ := hM
      have hv := k_tbv hE (by decide) hv
      refine aj.aload dX11_leaves_77 rfl ?_
      refine aj.aload dX11_leaves_79 rfl ?_
      refine aj.iload_n dX11_leaves_81 rfl ?_
      refine aj.callE1 (d' := 2) (As := [.int (if op then B 5 else 0)]) (rest := [.ref (a + 71)]) dX11_leaves_82 v_X11_240 li_X8_best ⟨_, hA.ob (i := 71) rfl (by decide)⟩ rfl rfl rfl (Nat.le_of_ble_eq_true rfl) (Nat.le_of_ble_eq_true rfl) (k_best (o := 71) ⟨rfl, rfl, rfl, rfl⟩ (if op then B 5 else 0) hA) (fun M hM => ?_)
      subst hM
      have hz82 := zmax_le (tS V 71 (if op then B 5 else 0)) 20
      refine aj.iload_n dX11_leaves_85 rfl ?_
      refine aj.callE1 (d' := 1) (As := [.int (nI (zmax (tS V 71 (if op then B 5 else 0)) 20)), .int (if op then B 5 else 0)]) (rest := []) dX11_leaves_86 v_X11_230 li_X8_sum ⟨_, hA.ob (i := 71) rfl (by decide)⟩ rfl rfl rfl (Nat.le_of_ble_eq_true rfl) (Nat.le_of_ble_eq_true rfl) (k_sum (o := 71) ⟨rfl, rfl, rfl, rfl⟩ (zmax (tS V 71 (if op then B 5 else 0)) 20) rfl (if op then B 5 else 0) (by omega) hA) (fun M hM => ?_)
      subst hM
      have hc9 : mSum B sl s i op (mBest B sl s i op 20) 10 = V (71 + 3) (zmax (tS V 71 (if op then B 5 else 0)) 20) - (if op then B 5 else 0) * V (71 + 2) (zmax (tS V 71 (if op then B 5 else 0)) 20) := by rw [tb_mBest hF op, tb_mSum hF op hz82]; rfl
      refine aj.iload_n dX11_leaves_89 rfl ?_
      refine aj.bipush (v := 10) dX11_leaves_90 rfl ?_
      refine aj.imul dX11_leaves_92 ?_
      refine aj.icmp_gt (tgt := 99) dX11_leaves_93 rfl (fun c93 => ?_) (fun c93 => ?_)
      · refine aj.iincN (a := i) (c := 1) (lv' := [(5, .int (nI (i + 1))), (3, .int (if op then B 5 else 0)), (4, .ref (a + 71)), (0, .ref a), (1, .int x_s), (2, .int n0)]) dX11_leaves_99 rfl (Nat.le_of_ble_eq_true rfl) rfl rfl rfl ?_
        refine aj.goto (tgt := 40) dX11_leaves_102 rfl ?_
        refine aj.pick [0, 1, 2, 3, 4, 5] rfl ?_
        exact ih (i + 1) M (by omega) (by rw [← hr, zfirst_s, if_neg (by rw [hc9, Int32.mul_comm 10 n0]; exact Int32.not_le.mpr c93)]) ⟨_, _, hA, hv, hw⟩
      · refine aj.iload dX11_leaves_96 rfl ?_
        exact aj.iret rfl dX11_leaves_98 ⟨by rw [← hr, zfirst_s, if_pos (by rw [hc9, Int32.mul_comm 10 n0]; exact Int32.not_lt.mp c93)]; rfl, _, _, hA, hv, hw⟩
theorem p_leaves {G : zG} {l : Launch} {a : Nat} {M0 M : zM} {V0 : Nat → Nat → Int32} {W0 : Nat → Nat → Int64} {R : Nat → Nat → Option Nat} {T : Nat} {B : Nat → Int32} {sl ol : Option (List Nat)} {Tm : Nat} (s : Int32) (n : Int32) (hM : kW a M0 M V0 W0 R) (hH : cH a M0 V0 R T B sl ol Tm)  : am G l kX11_leaves 6 [.ref a, .int s, .int n] M 0 0 (zr (.int (if inR s 0 ((mN (B 6) : Int) - 1) then (if inR n 0 99 then zon (zfirst (fun a => mSum B sl (mN s) a (mOpen ol (mN (B 26)) (mN (B 27)) (mN (B 25)) = true) (mBest B sl (mN s) a (mOpen ol (mN (B 26)) (mN (B 27)) (mN (B 25)) = true) 20) 10 ≤ 10 * n) 10 0) else -3) else -2)) (fun M' => kW a M0 M' V0 W0 R)) := by
  obtain ⟨V, W, hA, hv, hw⟩ := hM
  obtain ⟨hT, hb, hS, hB⟩ := id hH
  have hd0 := (dLaw_of hB).1
  have hd1 := (dLaw_of hB).2
  have h25 := hB.2.2.2.2.2.1
  have h26 := hB.2.2.2.2.2.2.1
  have h27 := hB.2.2.2.2.2.2.2.1
  have h6 := hB.2.2.1
  have hag := hB.2.2.2.2.1
  have hTm := hB.2.2.2.2.2.2.2.2.1
  have h25b := h25.2
  have h26b := h26.2
  have h27b := h27.2
  have h6b := h6.2
  refine am.of (by decide) (Nat.le_of_ble_eq_true rfl) ?_
  refine aj.aload_n dX11_leaves_0 rfl ?_
  refine aj.iload_n dX11_leaves_1 rfl ?_
  refine aj.callE1 (d' := 0) (As := [.int s]) (rest := []) dX11_leaves_2 v_X11_124 li_X11_isShooter ⟨_, hA.ob (i := 0) rfl (by decide)⟩ rfl rfl rfl (Nat.le_of_ble_eq_true rfl) (Nat.le_of_ble_eq_true rfl) (k_isShooter s hH hA) (fun M hM => ?_)
  subst hM
  refine aj.if_neB (tgt := 11) dX11_leaves_5 rfl (fun c5 => ?_) (fun c5 => ?_)
  · have h_s := inR_bdS c5 (by omega)
    have h2_s := h_s.2
    refine aj.iload_n dX11_leaves_11 rfl ?_
    refine aj.if_lt (tgt := 21) dX11_leaves_12 rfl (fun c12 => ?_) (fun c12 => ?_)
    · refine aj.bipush (v := (-3)) dX11_leaves_21 rfl ?_
      exact aj.iret rfl dX11_leaves_23 ⟨by rw [if_pos c5, if_neg (by unfold inR; simp only [Int32.lt_iff_toInt_lt, Int32.le_iff_toInt_le] at *; have e0 : (0 : Int32).toInt = 0 := rfl; have e100 : (100 : Int32).toInt = 100 := rfl; have e99 : (99 : Int32).toInt = 99 := rfl; omega)], ⟨_, _, hA, hv, hw⟩⟩
    · refine aj.iload_n dX11_leaves_15 rfl ?_
      refine aj.bipush (v := 99) dX11_leaves_16 rfl ?_
      refine aj.icmp_le (tgt := 24) dX11_leaves_18 rfl (fun c18 => ?_) (fun c18 => ?_)
      · refine aj.aload_n dX11_leaves_24 rfl ?_
        refine aj.callE1 (d' := 5) (As := []) (rest := []) dX11_leaves_25 v_X11_227 li_X11_costNow ⟨_, hA.ob (i := 0) rfl (by decide)⟩ rfl rfl rfl (Nat.le_of_ble_eq_true rfl) (Nat.le_of_ble_eq_true rfl) (k_costNow hH hv hA) (fun M hM => ?_)
        obtain ⟨v1, v2, hA⟩ := hM
        obtain ⟨V, hN, hA, hv⟩ := k_norm hA hv
        refine aj.istore_n (lv' := [(3, .int (if mOpen ol (mN (B 26)) (mN (B 27)) (mN (B 25)) = true then B 5 else 0)), (0, .ref a), (1, .int s), (2, .int n)]) dX11_leaves_28 (Nat.le_of_ble_eq_true rfl) rfl ?_
        refine aj.aload_n dX11_leaves_29 rfl ?_
        refine gX11_tables (i := 0) rfl hA w386 dX11_leaves_30 ?_
        refine aj.iconst (v := 0) dX11_leaves_33 rfl ?_
        refine aj.kR70 (j := 0) rfl dX11_leaves_34 hA rfl (by omega) (by decide) ?_
        refine aj.astore (lv' := [(4, .ref (a + 71)), (3, .int (if mOpen ol (mN (B 26)) (mN (B 27)) (mN (B 25)) = true then B 5 else 0)), (0, .ref a), (1, .int s), (2, .int n)]) dX11_leaves_35 (Nat.le_of_ble_eq_true rfl) rfl ?_
        refine aj.iconst (v := 0) dX11_leaves_37 rfl ?_
        refine aj.istore (lv' := [(5, .int 0), (4, .ref (a + 71)), (3, .int (if mOpen ol (mN (B 26)) (mN (B 27)) (mN (B 25)) = true then B 5 else 0)), (0, .ref a), (1, .int s), (2, .int n)]) dX11_leaves_38 (Nat.le_of_ble_eq_true rfl) rfl ?_
        refine aj.pick [0, 2, 1, 3, 4, 5] rfl ?_
        rw [if_pos c5, if_pos (show inR n 0 99 by unfold inR; simp only [Int32.lt_iff_toInt_lt, Int32.le_iff_toInt_le] at *; have e0 : (0 : Int32).toInt = 0 := rfl; have e100 : (100 : Int32).toInt = 100 := rfl; have e99 : (99 : Int32).toInt = 99 := rfl; omega)]
        exact leaves_lp hH (mN s) h_s.1 (by omega) (mOpen ol (mN (B 26)) (mN (B 27)) (mN (B 25)) = true) _ 10 0 M (by omega) rfl ⟨_, _, hA, hv, hw⟩
      · refine aj.bipush (v := (-3)) dX11_leaves_21 rfl ?_
        exact aj.iret rfl dX11_leaves_23 ⟨by rw [if_pos c5, if_neg (by unfold inR; simp only [Int32.lt_iff_toInt_lt, Int32.le_iff_toInt_le] at *; have e0 : (0 : Int32).toInt = 0 := rfl; have e100 : (100 : Int32).toInt = 100 := rfl; have e99 : (99 : Int32).toInt = 99 := rfl; omega)], ⟨_, _, hA, hv, hw⟩⟩
  · refine aj.bipush (v := (-2)) dX11_leaves_8 rfl ?_
    exact aj.iret rfl dX11_leaves_10 ⟨by rw [if_neg c5], ⟨_, _, hA, hv, hw⟩⟩
theorem opens_lp {G : zG} {l : Launch} {a : Nat} {M0 : zM} {V0 : Nat → Nat → Int32} {W0 : Nat → Nat → Int64} {R : Nat → Nat → Option Nat} {T : Nat} {B : Nat → Int32} {sl ol : Option (List Nat)} {Tm : Nat} (hH : cH a M0 V0 R T B sl ol Tm) {q : Int32} (r : Option Nat) : ∀ (n i : Nat) (M : zM), i + n = 100 → zfirst (fun j => mOpen ol (mN (B 26)) (mN (B 27) + j) (mN (B 25)) = decide (q = 1)) n i = r → kW a M0 M V0 W0 R → aj G l kX11_opens 5 12 [(2, .int (nI i)), (0, .ref a), (1, .int q)] [] M 0 0 (zr (.int (zon r)) (fun M' => kW a M0 M' V0 W0 R)) := by
  obtain ⟨hT, hb, hS, hB⟩ := id hH
  have hd0 := (dLaw_of hB).1
  have hd1 := (dLaw_of hB).2
  have h25 := hB.2.2.2.2.2.1
  have h26 := hB.2.2.2.2.2.2.1
  have h27 := hB.2.2.2.2.2.2.2.1
  have h6 := hB.2.2.1
  have hag := hB.2.2.2.2.1
  have hTm := hB.2.2.2.2.2.2.2.2.1
  have h25b := h25.2
  have h26b := h26.2
  have h27b := h27.2
  have h6b := h6.2
  intro n
  induction n with
  | zero =>
    intro i M hin hr hM
    obtain ⟨V, W, hA, hv, hw⟩ := hM
    refine aj.iload_n dX11_opens_12 rfl ?_
    refine aj.bipush (v := 100) dX11_opens_13 rfl ?_
    refine aj.icmp_geN (a := i) (b := 100) (tgt := 44) dX11_opens_15 rfl rfl (by omega) (by omega) rfl (fun c15 => ?_) (fun c15 => ?_)
    · refine aj.iconst (v := (-1)) dX11_opens_44 rfl ?_
      exact aj.iret rfl dX11_opens_45 ⟨by rw [← hr]; rfl, _, _, hA, hv, hw⟩
    · exact absurd c15 (by omega)
  | succ n ih =>
    intro i M hin hr hM
    obtain ⟨V, W, hA, hv, hw⟩ := hM
    refine aj.iload_n dX11_opens_12 rfl ?_
    refine aj.bipush (v := 100) dX11_opens_13 rfl ?_
    refine aj.icmp_geN (a := i) (b := 100) (tgt := 44) dX11_opens_15 rfl rfl (by omega) (by omega) rfl (fun c15 => ?_) (fun c15 => ?_)
    · exact absurd c15 (by omega)
    · refine aj.aload_n dX11_opens_18 rfl ?_
      refine aj.iload_n dX11_opens_19 rfl ?_
      refine aj.callE1 (d' := 3) (As := [.int (nI i)]) (rest := []) dX11_opens_20 v_X11_165 li_X11_isOpenIn ⟨_, hA.ob (i := 0) rfl (by decide)⟩ rfl rfl rfl (Nat.le_of_ble_eq_true rfl) (Nat.le_of_ble_eq_true rfl) (k_isOpenIn i rfl (by omega) hH hv hA) (fun M hM => ?_)
      obtain ⟨v1, v2, hA⟩ := hM
      obtain ⟨V, hN, hA, hv⟩ := k_norm hA hv
      refine aj.iload_n dX11_opens_23 rfl ?_
      refine aj.iconst (v := 1) dX11_opens_24 rfl ?_
      refine aj.icmp_ne (tgt := 32) dX11_opens_25 rfl (fun c25 => ?_) (fun c25 => ?_)
      · refine aj.iconst (v := 0) dX11_opens_32 rfl ?_
        refine aj.icmp_ne (tgt := 38) dX11_opens_33 rfl (fun c33 => ?_) (fun c33 => ?_)
        · refine aj.iincN (a := i) (c := 1) (lv' := [(2, .int (nI (i + 1))), (0, .ref a), (1, .int q)]) dX11_opens_38 rfl (Nat.le_of_ble_eq_true rfl) rfl rfl rfl ?_
          refine aj.goto (tgt := 12) dX11_opens_41 rfl ?_
          refine aj.pick [0, 1, 2] rfl ?_
          exact ih (i + 1) M (by omega) (by rw [← hr, zfirst_s, if_neg (show ¬ mOpen _ _ _ _ = _ by rw [decide_eq_false c25]; exact fun z => c33 (zb_f (Bool.eq_false_iff.mp z)))]) ⟨_, _, hA, hv, hw⟩
        · refine aj.iload_n dX11_opens_36 rfl ?_
          exact aj.iret rfl dX11_opens_37 ⟨by rw [← hr, zfirst_s, if_pos (show mOpen _ _ _ _ = _ by rw [decide_eq_false c25]; exact Bool.eq_false_iff.mpr (zb_0.mp c33))]; rfl, _, _, hA, hv, hw⟩
      · refine aj.iconst (v := 1) dX11_opens_28 rfl ?_
        refine aj.goto (tgt := 33) dX11_opens_29 rfl ?_
        refine aj.icmp_ne (tgt := 38) dX11_opens_33 rfl (fun c33 => ?_) (fun c33 => ?_)
        · refine aj.iincN (a := i) (c := 1) (lv' := [(2, .int (nI (i + 1))), (0, .ref a), (1, .int q)]) dX11_opens_38 rfl (Nat.le_of_ble_eq_true rfl) rfl rfl rfl ?_
          refine aj.goto (tgt := 12) dX11_opens_41 rfl ?_
          refine aj.pick [0, 1, 2] rfl ?_
          exact ih (i + 1) M (by omega) (by rw [← hr, zfirst_s, if_neg (show ¬ mOpen _ _ _ _ = _ by rw [decide_eq_true c25]; exact fun z => c33 (zb_t z))]) ⟨_, _, hA, hv, hw⟩
        · refine aj.iload_n dX11_opens_36 rfl ?_
          exact aj.iret rfl dX11_opens_37 ⟨by rw [← hr, zfirst_s, if_pos (show mOpen _ _ _ _ = _ by rw [decide_eq_true c25]; exact zb_1.mp c33)]; rfl, _, _, hA, hv, hw⟩
theorem p_opens {G : zG} {l : Launch} {a : Nat} {M0 M : zM} {V0 : Nat → Nat → Int32} {W0 : Nat → Nat → Int64} {R : Nat → Nat → Option Nat} {T : Nat} {B : Nat → Int32} {sl ol : Option (List Nat)} {Tm : Nat} (q : Int32) (hM : kW a M0 M V0 W0 R) (hH : cH a M0 V0 R T B sl ol Tm)  : am G l kX11_opens 5 [.ref a, .int q] M 0 0 (zr (.int (if inR q 0 1 then zon (zfirst (fun j => mOpen ol (mN (B 26)) (mN (B 27) + j) (mN (B 25)) = decide (q = 1)) 100 0) else -2)) (fun M' => kW a M0 M' V0 W0 R)) := by
  obtain ⟨V, W, hA, hv, hw⟩ := hM
  obtain ⟨hT, hb, hS, hB⟩ := id hH
  have hd0 := (dLaw_of hB).1
  have hd1 := (dLaw_of hB).2
  have h25 := hB.2.2.2.2.2.1
  have h26 := hB.2.2.2.2.2.2.1
  have h27 := hB.2.2.2.2.2.2.2.1
  have h6 := hB.2.2.1
  have hag := hB.2.2.2.2.1
  have hTm := hB.2.2.2.2.2.2.2.2.1
  have h25b := h25.2
  have h26b := h26.2
  have h27b := h27.2
  have h6b := h6.2
  refine am.of (by decide) (Nat.le_of_ble_eq_true rfl) ?_
  refine aj.iload_n dX11_opens_0 rfl ?_
  refine aj.callS1 (d' := 0) (As := [.int q]) (rest := []) dX11_opens_1 v_X11_128 w720 rfl rfl (Nat.le_of_ble_eq_true rfl) (Nat.le_of_ble_eq_true rfl) (k_isHalf _ q) (fun M hM => ?_)
  subst hM
  refine aj.if_neB (tgt := 10) dX11_opens_4 rfl (fun c4 => ?_) (fun c4 => ?_)
  · have h_q := inR_bd (n := 1) c4 (by decide)
    have h2_q := h_q.2
    refine aj.iconst (v := 0) dX11_opens_10 rfl ?_
    refine aj.istore_n (lv' := [(2, .int 0), (0, .ref a), (1, .int q)]) dX11_opens_11 (Nat.le_of_ble_eq_true rfl) rfl ?_
    refine aj.pick [0, 1, 2] rfl ?_
    rw [if_pos c4]
    exact opens_lp hH _ 100 0 M (by omega) rfl ⟨_, _, hA, hv, hw⟩
  · refine aj.bipush (v := (-2)) dX11_opens_7 rfl ?_
    exact aj.iret rfl dX11_opens_9 ⟨by rw [if_neg c4], ⟨_, _, hA, hv, hw⟩⟩
theorem leads_lp {G : zG} {l : Launch} {a : Nat} {M0 M : zM} {V : Nat → Nat → Int32} {W : Nat → Nat → Int64} {R : Nat → Nat → Option Nat} {V0 : Nat → Nat → Int32} {T : Nat} {B : Nat → Int32} {sl ol : Option (List Nat)} {Tm : Nat} (hH : cH a M0 V0 R T B sl ol Tm) (hv : ∀ i, ¬ sc i → V i = V0 i) (hA : kA a M0 M V W R) : ∀ (n i : Nat) (x y : Int32), i + n = mN (B 6) → zeC (fun t => B (17 + t)) (zlead (fun t => B (17 + t)) i) x y → aj G l kX11_leads 1 6 [(3, .int (nI i)), (1, .int x), (2, .int y), (0, .ref a)] [] M 0 0 (zr (.int (zon (zlead (fun t => B (17 + t)) (mN (B 6))))) (fun M' => M' = M)) := by
  obtain ⟨hT, hb, hS, hB⟩ := id hH
  have hd0 := (dLaw_of hB).1
  have hd1 := (dLaw_of hB).2
  have h25 := hB.2.2.2.2.2.1
  have h26 := hB.2.2.2.2.2.2.1
  have h27 := hB.2.2.2.2.2.2.2.1
  have h6 := hB.2.2.1
  have hag := hB.2.2.2.2.1
  have hTm := hB.2.2.2.2.2.2.2.2.1
  have h25b := h25.2
  have h26b := h26.2
  have h27b := h27.2
  have h6b := h6.2
  intro n
  induction n with
  | zero =>
    intro i x y hin hz
    refine aj.iload_n dX11_leads_6 rfl ?_
    refine aj.aload_n dX11_leads_7 rfl ?_
    refine gT hT hA w378 dX11_leads_8 ?_
    refine gB_shooterCount (hA.bw hb) w226 dX11_leads_11 ?_
    refine aj.icmp_geN (a := i) (b := mN (B 6)) (tgt := 51) dX11_leads_14 rfl h6.1 (by omega) (by omega) rfl (fun c14 => ?_) (fun c14 => ?_)
    · refine aj.iload_n dX11_leads_51 rfl ?_
      exact aj.iret rfl dX11_leads_52 ⟨by rw [zeC_on hz, show i = mN (B 6) by omega], rfl⟩
    · exact absurd c14 (by omega)
  | succ n ih =>
    intro i x y hin hz
    have hp9 : V 9 i = B (17 + i) := (congrFun (hv 9 (by decide)) i).trans (hS.1 i (by omega))
    refine aj.iload_n dX11_leads_6 rfl ?_
    refine aj.aload_n dX11_leads_7 rfl ?_
    refine gT hT hA w378 dX11_leads_8 ?_
    refine gB_shooterCount (hA.bw hb) w226 dX11_leads_11 ?_
    refine aj.icmp_geN (a := i) (b := mN (B 6)) (tgt := 51) dX11_leads_14 rfl h6.1 (by omega) (by omega) rfl (fun c14 => ?_) (fun c14 => ?_)
    · exact absurd c14 (by omega)
    · refine aj.iload_n dX11_leads_17 rfl ?_
      refine aj.iconst (v := (-1)) dX11_leads_18 rfl ?_
      refine aj.icmp_eq (tgt := 34) dX11_leads_19 rfl (fun c19 => ?_) (fun c19 => ?_)
      · refine aj.iload_n dX11_leads_34 rfl ?_
        refine aj.istore_n (lv' := [(1, .int (nI i)), (3, .int (nI i)), (2, .int y), (0, .ref a)]) dX11_leads_35 (Nat.le_of_ble_eq_true rfl) rfl ?_
        refine aj.aload_n dX11_leads_36 rfl ?_
        refine gX11_now (i := 0) rfl hA w379 dX11_leads_37 ?_
        refine aj.iload_n dX11_leads_40 rfl ?_
        refine aj.callE1 (d' := 0) (As := [.int (nI i)]) (rest := []) dX11_leads_41 v_X11_138 li_X7_pointsOf ⟨_, hA.ob (i := 8) rfl (by decide)⟩ rfl rfl rfl (Nat.le_of_ble_eq_true rfl) (Nat.le_of_ble_eq_true rfl) (k_pointsOf (o := 8) ⟨rfl, rfl, rfl⟩ i rfl (by omega) hA) (fun M hM => ?_)
        subst hM
        refine aj.istore_n (lv' := [(2, .int (V 9 i)), (1, .int (nI i)), (3, .int (nI i)), (0, .ref a)]) dX11_leads_44 (Nat.le_of_ble_eq_true rfl) rfl ?_
        refine aj.iincN (a := i) (c := 1) (lv' := [(3, .int (nI (i + 1))), (2, .int (V 9 i)), (1, .int (nI i)), (0, .ref a)]) dX11_leads_45 rfl (Nat.le_of_ble_eq_true rfl) rfl rfl rfl ?_
        refine aj.goto (tgt := 6) dX11_leads_48 rfl ?_
        refine aj.pick [0, 2, 1, 3] rfl ?_
        exact ih (i + 1) _ _ (by omega) (by rw [zlead_n (zeC_n hz c19)]; exact ⟨⟨rfl, by omega⟩, hp9⟩)
      · refine aj.aload_n dX11_leads_22 rfl ?_
        refine gX11_now (i := 0) rfl hA w379 dX11_leads_23 ?_
        refine aj.iload_n dX11_leads_26 rfl ?_
        refine aj.callE1 (d' := 0) (As := [.int (nI i)]) (rest := []) dX11_leads_27 v_X11_138 li_X7_pointsOf ⟨_, hA.ob (i := 8) rfl (by decide)⟩ rfl rfl rfl (Nat.le_of_ble_eq_true rfl) (Nat.le_of_ble_eq_true rfl) (k_pointsOf (o := 8) ⟨rfl, rfl, rfl⟩ i rfl (by omega) hA) (fun M hM => ?_)
        subst hM
        refine aj.iload_n dX11_leads_30 rfl ?_
        refine aj.icmp_le (tgt := 45) dX11_leads_31 rfl (fun c31 => ?_) (fun c31 => ?_)
        · refine aj.iincN (a := i) (c := 1) (lv' := [(3, .int (nI (i + 1))), (1, .int x), (2, .int y), (0, .ref a)]) dX11_leads_45 rfl (Nat.le_of_ble_eq_true rfl) rfl rfl rfl ?_
          refine aj.goto (tgt := 6) dX11_leads_48 rfl ?_
          refine aj.pick [0, 1, 2, 3] rfl ?_
          obtain ⟨k, hk, hy⟩ := zeC_s hz c19
          exact ih (i + 1) _ _ (by omega) (by rw [zlead_k hk]; rw [hk] at hz; rw [← hy, if_pos (by rw [← hp9]; exact c31)]; exact hz)
        · refine aj.iload_n dX11_leads_34 rfl ?_
          refine aj.istore_n (lv' := [(1, .int (nI i)), (3, .int (nI i)), (2, .int y), (0, .ref a)]) dX11_leads_35 (Nat.le_of_ble_eq_true rfl) rfl ?_
          refine aj.aload_n dX11_leads_36 rfl ?_
          refine gX11_now (i := 0) rfl hA w379 dX11_leads_37 ?_
          refine aj.iload_n dX11_leads_40 rfl ?_
          refine aj.callE1 (d' := 0) (As := [.int (nI i)]) (rest := []) dX11_leads_41 v_X11_138 li_X7_pointsOf ⟨_, hA.ob (i := 8) rfl (by decide)⟩ rfl rfl rfl (Nat.le_of_ble_eq_true rfl) (Nat.le_of_ble_eq_true rfl) (k_pointsOf (o := 8) ⟨rfl, rfl, rfl⟩ i rfl (by omega) hA) (fun M hM => ?_)
          subst hM
          refine aj.istore_n (lv' := [(2, .int (V 9 i)), (1, .int (nI i)), (3, .int (nI i)), (0, .ref a)]) dX11_leads_44 (Nat.le_of_ble_eq_true rfl) rfl ?_
          refine aj.iincN (a := i) (c := 1) (lv' := [(3, .int (nI (i + 1))), (2, .int (V 9 i)), (1, .int (nI i)), (0, .ref a)]) dX11_leads_45 rfl (Nat.le_of_ble_eq_true rfl) rfl rfl rfl ?_
          refine aj.goto (tgt := 6) dX11_leads_48 rfl ?_
          refine aj.pick [0, 2, 1, 3] rfl ?_
          obtain ⟨k, hk, hy⟩ := zeC_s hz c19
          exact ih (i + 1) _ _ (by omega) (by rw [zlead_k hk]; rw [← hy, if_neg (by rw [← hp9]; exact c31)]; exact ⟨⟨rfl, by omega⟩, hp9⟩)
theorem p_leads {G : zG} {l : Launch} {a : Nat} {M0 M : zM} {V0 : Nat → Nat → Int32} {W0 : Nat → Nat → Int64} {R : Nat → Nat → Option Nat} {T : Nat} {B : Nat → Int32} {sl ol : Option (List Nat)} {Tm : Nat}  (hM : kW a M0 M V0 W0 R) (hH : cH a M0 V0 R T B sl ol Tm)  : am G l kX11_leads 1 [.ref a] M 0 0 (zr (.int (zon (zlead (fun t => B (17 + t)) (mN (B 6))))) (fun M' => kW a M0 M' V0 W0 R)) := by
  obtain ⟨V, W, hA, hv, hw⟩ := hM
  obtain ⟨hT, hb, hS, hB⟩ := id hH
  have hd0 := (dLaw_of hB).1
  have hd1 := (dLaw_of hB).2
  have h25 := hB.2.2.2.2.2.1
  have h26 := hB.2.2.2.2.2.2.1
  have h27 := hB.2.2.2.2.2.2.2.1
  have h6 := hB.2.2.1
  have hag := hB.2.2.2.2.1
  have hTm := hB.2.2.2.2.2.2.2.2.1
  have h25b := h25.2
  have h26b := h26.2
  have h27b := h27.2
  have h6b := h6.2
  refine am.of (by decide) (Nat.le_of_ble_eq_true rfl) ?_
  refine aj.iconst (v := (-1)) dX11_leads_0 rfl ?_
  refine aj.istore_n (lv' := [(1, .int (-1)), (0, .ref a)]) dX11_leads_1 (Nat.le_of_ble_eq_true rfl) rfl ?_
  refine aj.iconst (v := 0) dX11_leads_2 rfl ?_
  refine aj.istore_n (lv' := [(2, .int 0), (1, .int (-1)), (0, .ref a)]) dX11_leads_3 (Nat.le_of_ble_eq_true rfl) rfl ?_
  refine aj.iconst (v := 0) dX11_leads_4 rfl ?_
  refine aj.istore_n (lv' := [(3, .int 0), (2, .int 0), (1, .int (-1)), (0, .ref a)]) dX11_leads_5 (Nat.le_of_ble_eq_true rfl) rfl ?_
  refine aj.pick [0, 2, 1, 3] rfl ?_
  refine aj.mono (leads_lp hH hv hA (mN (B 6)) 0 _ 0 (by omega) rfl) (fun r M' hq => ⟨hq.1, ?_⟩)
  rw [hq.2]
  exact ⟨_, _, hA, hv, hw⟩
