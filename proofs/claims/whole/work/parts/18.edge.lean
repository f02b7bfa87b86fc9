theorem i32_add {a b : Int32} (h1 : -2147483648 ≤ a.toInt + b.toInt) (h2 : a.toInt + b.toInt < 2147483648) : (a + b).toInt = a.toInt + b.toInt := by
  rw [Int32.toInt_add]
  exact Int.bmod_eq_of_le (by omega) (by omega)
theorem i32_neg {a : Nat} (h : a < 2 ^ 30) : (-(nI a)).toInt = -(a : Int) := by
  rw [Int32.toInt_neg, nI_toInt (by omega)]
  exact Int.bmod_eq_of_le (by omega) (by omega)
theorem mFar_nat {B : Nat → Int32} {n e1 e2 : Nat} (h1 : B 1 = nI e1) (h2 : B 2 = nI e2) (hn : n ≤ 20) (he1 : e1 ≤ 20) (he2 : e2 ≤ 20) : mFar B (nI n) = nI (if n < e1 then e1 - n else if e2 < n then n - e2 else 0) := by
  unfold mFar
  rw [h1, h2]
  by_cases c1 : n < e1
  · rw [if_pos ((nI_ltI (by omega) (by omega)).mpr c1), if_pos c1, pk_sub (by omega)]
  · rw [if_neg (fun q => c1 ((nI_ltI (by omega) (by omega)).mp q)), if_neg c1]
    by_cases c2 : e2 < n
    · rw [if_pos ((nI_ltI (by omega) (by omega)).mpr c2), if_pos c2, pk_sub (by omega)]
    · rw [if_neg (fun q => c2 ((nI_ltI (by omega) (by omega)).mp q)), if_neg c2, nI_0]
theorem mScore_bd {B : Nat → Int32} {sl ol : Option (List Nat)} {T n : Nat} (hB : mOK B sl ol T) (hn : n ≤ 20) (op : Prop) [Decidable op] : -99 ≤ (mScore B (nI n) op).toInt ∧ (mScore B (nI n) op).toInt ≤ 99 ∧ (mFar B (nI n) ≠ 0 → 0 ≤ (mScore B (nI n) op).toInt) := by
  obtain ⟨⟨h1, h2, -⟩, ⟨h3, h4, h5⟩, -⟩ := hB
  have b1 := h1.2
  have b2 := h2.2
  have b3 := h3.2
  have b4 := h4.2
  have b5 := h5.2
  have ef := mFar_nat (B := B) h1.1 h2.1 hn b1 b2
  generalize hf : (if n < mN (B 1) then mN (B 1) - n else if mN (B 2) < n then n - mN (B 2) else 0) = f at ef
  have hf20 : f ≤ 20 := by rw [← hf]; split <;> (try split) <;> omega
  unfold mScore
  rw [ef]
  by_cases c : nI f = 0
  · rw [if_pos c]
    refine ⟨?_, ?_, fun q => absurd c q⟩
    · split
      · rw [h5.1, i32_neg (by omega)]; omega
      · decide
    · split
      · rw [h5.1, i32_neg (by omega)]; omega
      · decide
  · rw [if_neg c]
    have hf0 : f ≠ 0 := fun q => c (by rw [q]; exact nI_0)
    have e1 : nI f - 1 = nI (f - 1) := by rw [show (1 : Int32) = nI 1 from rfl, pk_sub (by omega)]
    have hm : mN (B 4) * (f - 1) ≤ 99 * 20 := Nat.mul_le_mul b4 (by omega)
    have e2 : (B 3 - B 4 * (nI f - 1)).toInt = (mN (B 3) : Int) - (mN (B 4) * (f - 1) : Nat) := by
      rw [e1, h4.1, pk_mul, h3.1, pk_sub_toInt (by omega) (by omega)]
      rw [mN_nI (by omega), mN_nI (by omega)]
    refine ⟨?_, ?_, fun _ => ?_⟩
    · split
      · decide
      · rename_i q; rw [Int32.lt_iff_toInt_lt] at q; have : (0 : Int32).toInt = 0 := by decide
        omega
    · split
      · decide
      · rw [e2]; omega
    · split
      · decide
      · rename_i q; rw [Int32.lt_iff_toInt_lt] at q; have : (0 : Int32).toInt = 0 := by decide
        omega
theorem zsum_bd {f : Nat → Int32} : ∀ {n : Nat}, n ≤ 1000 → (∀ i, i < n → -99 ≤ (f i).toInt ∧ (f i).toInt ≤ 99) → -99 * (n : Int) ≤ (zsum f n).toInt ∧ (zsum f n).toInt ≤ 99 * (n : Int)
  | 0, _, _ => ⟨show (-99 : Int) * ((0 : Nat) : Int) ≤ (0 : Int32).toInt by decide, show (0 : Int32).toInt ≤ (99 : Int) * ((0 : Nat) : Int) by decide⟩
  | n + 1, hn, h => by
    obtain ⟨h1, h2⟩ := zsum_bd (n := n) (by omega) (fun i hi => h i (by omega))
    obtain ⟨h3, h4⟩ := h n (by omega)
    rw [zsum_s, i32_add (by omega) (by omega)]
    constructor <;> omega
theorem zsum_nn {f : Nat → Int32} : ∀ {n : Nat}, n ≤ 1000 → (∀ i, i < n → 0 ≤ (f i).toInt ∧ (f i).toInt ≤ 99) → 0 ≤ (zsum f n).toInt
  | 0, _, _ => show (0 : Int) ≤ (0 : Int32).toInt by decide
  | n + 1, hn, h => by
    have h1 := zsum_nn (n := n) (by omega) (fun i hi => h i (by omega))
    have h2 := (zsum_bd (f := f) (n := n) (by omega) (fun i hi => by have := h i (by omega); omega)).2
    obtain ⟨h3, h4⟩ := h n (by omega)
    rw [zsum_s, i32_add (by omega) (by omega)]
    omega
theorem zcnt_0 {f : Nat → Prop} [DecidablePred f] : ∀ {n : Nat}, zcnt f n = 0 → ∀ i, i < n → ¬ f i
  | 0, _, i, hi => absurd hi (by omega)
  | n + 1, h, i, hi => by
    rw [zcnt_s] at h
    by_cases c : f n
    · rw [if_pos c] at h; omega
    · by_cases e : i = n
      · rw [e]; exact c
      · exact zcnt_0 (n := n) (by omega) i (by omega)
/-- what is scored by an aim that never touches isn't below 0 -/
theorem mSum_nn {B : Nat → Int32} {sl ol : Option (List Nat)} {T s aim : Nat} (hB : mOK B sl ol T) (op : Prop) [Decidable op] (h : mTch B sl s aim 10 = 0) : 0 ≤ (mSum B sl s (mN (B (21 + s))) op aim 10).toInt := by
  refine zsum_nn (by decide) (fun i hi => ?_)
  have h1 := zcnt_0 h i hi
  obtain ⟨q1, q2, q3⟩ := mScore_bd (n := mLn B sl s aim i) hB (mLand_le _ _ _ _ _ _) op
  exact ⟨q3 h1, q2⟩
theorem zedge_s (p : Nat → Prop) [DecidablePred p] (f : Nat → Int32) (n : Nat) : zedge p f (n + 1) = if p n then (match zedge p f n with
    | none => some n
    | some k => if f n ≤ f k then some k else some n) else zedge p f n := rfl
/-- best and most as edge has them -/
def zed (f : Nat → Int32) (r : Option Nat) (x y : Int32) : Prop := match r with
  | none => x = -1 ∧ y = -1
  | some k => x = nI k ∧ y = f k
theorem zed_on {f : Nat → Int32} {r : Option Nat} {x y : Int32} (h : zed f r x y) : x = zon r := by
  cases r with
  | none => exact h.1
  | some k => exact h.1
theorem zed_up {p : Nat → Prop} [DecidablePred p] {f : Nat → Int32} {i : Nat} {x y : Int32} (h : zed f (zedge p f i) x y) (hp : p i) (hm : y < f i ∨ False) : zed f (zedge p f (i + 1)) (nI i) (f i) := by
  rw [zedge_s, if_pos hp]
  rcases hm with hm | hm
  · cases hz : zedge p f i with
    | none => exact ⟨rfl, rfl⟩
    | some k =>
      rw [hz] at h
      show zed f (if f i ≤ f k then some k else some i) _ _
      rw [if_neg (by rw [← h.2]; simp only [Int32.lt_iff_toInt_lt, Int32.le_iff_toInt_le] at *; omega)]
      exact ⟨rfl, rfl⟩
  · exact hm.elim
theorem zed_no {p : Nat → Prop} [DecidablePred p] {f : Nat → Int32} {i : Nat} {x y : Int32} (h : zed f (zedge p f i) x y) (hp : p i) (hm : ¬ y < f i) (h0 : 0 ≤ (f i).toInt) : zed f (zedge p f (i + 1)) x y := by
  rw [zedge_s, if_pos hp]
  cases hz : zedge p f i with
  | none =>
    rw [hz] at h
    refine absurd ?_ hm
    rw [h.2, Int32.lt_iff_toInt_lt, show (-1 : Int32).toInt = -1 by decide]
    omega
  | some k =>
    rw [hz] at h
    show zed f (if f i ≤ f k then some k else some i) _ _
    rw [if_pos (by rw [← h.2]; simp only [Int32.lt_iff_toInt_lt, Int32.le_iff_toInt_le] at *; omega)]
    exact h
theorem edge_loop {G : zG} {l : Launch} {b : Nat} {M0 : zM} {I : Nat → Int32} {A : Nat → Nat → Int32} {L : Nat → Nat → Int64} (s : Nat) {x_s : Int32} (e_s : x_s = nI s) {sl ol : Option (List Nat)} {T : Nat} (hB : mOK (A 1) sl ol T) (hs : s < 4) : ∀ (n i : Nat) (x : Int32) (y : Int32) (M : zM), i + n = 21 → zed (fun a => mSum (A 1) sl s (mN (A 1 (21 + s))) (mOpen ol (mN (A 1 26)) (mN (A 1 27)) (mN (A 1 25)) = true) a 10) (zedge (fun a => mTch (A 1) sl s a 10 = 0) (fun a => mSum (A 1) sl s (mN (A 1 (21 + s))) (mOpen ol (mN (A 1 26)) (mN (A 1 27)) (mN (A 1 25)) = true) a 10) i) x y → mW b M0 M I A L → aj G l kX12_edge 5 24 [(4, .int (nI i)), (3, .int y), (2, .int x), (0, .ref b), (1, .int x_s)] [] M 0 0 (zr (.int (zon (zedge (fun a => mTch (A 1) sl s a 10 = 0) (fun a => mSum (A 1) sl s (mN (A 1 (21 + s))) (mOpen ol (mN (A 1 26)) (mN (A 1 27)) (mN (A 1 25)) = true) a 10) 21))) (fun M' => mW b M0 M' I A L)) := by
  have hT := hB.2.2.2.2.2.2.2.2.1
  have hN6 := hB.2.2.1.2
  have hN25 := hB.2.2.2.2.2.1.2
  have hN26 := hB.2.2.2.2.2.2.1.2
  have hN27 := hB.2.2.2.2.2.2.2.1.2
  have hN1 := hB.1.1.2
  have hN2 := hB.1.2.1.2
  have hag := (hB.2.2.2.2.1 s hs).2
  intro n
  induction n with
  | zero =>
    intro i x y M hin hz hM
    obtain ⟨u, v, w, hA⟩ := hM
    refine aj.iload dX12_edge_24 rfl ?_
    refine aj.bipush (v := 21) dX12_edge_26 rfl ?_
    refine aj.icmp_geN (a := i) (b := 21) (tgt := 87) dX12_edge_28 rfl rfl (by omega) (by omega) rfl (fun c28 => ?_) (fun c28 => ?_)
    · refine aj.iload_n dX12_edge_87 rfl ?_
      exact aj.iret rfl dX12_edge_88 ⟨by rw [zed_on hz, show i = 21 by omega], _, _, _, hA⟩
    · exact absurd c28 (by omega)
  | succ n ih =>
    intro i x y M hin hz hM
    obtain ⟨u, v, w, hA⟩ := hM
    have hle : mTch (A 1) sl s i 10 ≤ 10 := zcnt_le _ 10
    refine aj.iload dX12_edge_24 rfl ?_
    refine aj.bipush (v := 21) dX12_edge_26 rfl ?_
    refine aj.icmp_geN (a := i) (b := 21) (tgt := 87) dX12_edge_28 rfl rfl (by omega) (by omega) rfl (fun c28 => ?_) (fun c28 => ?_)
    · exact absurd c28 (by omega)
    · refine aj.aload_n dX12_edge_31 rfl ?_
      refine aj.iload_n dX12_edge_32 rfl ?_
      refine aj.iload dX12_edge_33 rfl ?_
      refine aj.callV1 (d' := 4) (As := [.int x_s, .int (nI i)]) (rest := []) dX12_edge_35 v_X12_330 li_X12_touchesOf hA.1 rfl rfl rfl (Nat.le_of_ble_eq_true rfl) (Nat.le_of_ble_eq_true rfl) (c_touchesOf s e_s i rfl ⟨_, _, _, hA⟩ hB (by omega) (by omega)) (fun M hM => ?_)
      obtain ⟨u, v, w, hA⟩ := hM
      refine aj.if_leN (a := mTch (A 1) sl s i 10) (tgt := 44) dX12_edge_38 rfl (by omega) rfl (fun c38 => ?_) (fun c38 => ?_)
      · refine aj.aload_n dX12_edge_44 rfl ?_
        refine aj.iload_n dX12_edge_45 rfl ?_
        refine aj.iload dX12_edge_46 rfl ?_
        refine aj.aload_n dX12_edge_48 rfl ?_
        refine gM1 rfl dX12_edge_49 hA ?_
        refine aj.bipush (v := 21) dX12_edge_52 rfl ?_
        refine aj.iload_n dX12_edge_54 rfl ?_
        refine aj.iaddN (a := 21) (b := s) dX12_edge_55 rfl e_s ?_
        refine aM1N (i := 21 + s) dX12_edge_56 hA rfl (by omega) ?_
        refine aj.aload_n dX12_edge_57 rfl ?_
        refine aj.callV1 (d' := 3) (As := []) (rest := [.int (A 1 (21 + s)), .int (nI i), .int x_s, .ref b]) dX12_edge_58 v_X12_250 li_X12_isOpenNow hA.1 rfl rfl rfl (Nat.le_of_ble_eq_true rfl) (Nat.le_of_ble_eq_true rfl) (c_isOpenNow ⟨_, _, _, hA⟩ hB) (fun M hM => ?_)
        obtain ⟨u, v, w, hA⟩ := hM
        refine aj.callV1 (d' := 3) (As := [.int x_s, .int (nI i), .int (A 1 (21 + s)), .int (zb (mOpen ol (mN (A 1 26)) (mN (A 1 27)) (mN (A 1 25)) = true))]) (rest := []) dX12_edge_61 v_X12_315 li_X12_sumOf hA.1 rfl rfl rfl (Nat.le_of_ble_eq_true rfl) (Nat.le_of_ble_eq_true rfl) (c_sumOf s e_s i rfl (mN (A 1 (21 + s))) ((hB.2.2.2.2.1 s hs).1) (mOpen ol (mN (A 1 26)) (mN (A 1 27)) (mN (A 1 25)) = true) ⟨_, _, _, hA⟩ hB (by omega) (by omega) (by omega)) (fun M hM => ?_)
        obtain ⟨u, v, w, hA⟩ := hM
        refine aj.istore (lv' := [(5, .int (mSum (A 1) sl s (mN (A 1 (21 + s))) (mOpen ol (mN (A 1 26)) (mN (A 1 27)) (mN (A 1 25)) = true) i 10)), (4, .int (nI i)), (3, .int y), (2, .int x), (0, .ref b), (1, .int x_s)]) dX12_edge_64 (Nat.le_of_ble_eq_true rfl) rfl ?_
        refine aj.iload dX12_edge_66 rfl ?_
        refine aj.iload_n dX12_edge_68 rfl ?_
        refine aj.icmp_gt (tgt := 75) dX12_edge_69 rfl (fun c69 => ?_) (fun c69 => ?_)
        · refine aj.iload dX12_edge_75 rfl ?_
          refine aj.istore_n (lv' := [(2, .int (nI i)), (5, .int (mSum (A 1) sl s (mN (A 1 (21 + s))) (mOpen ol (mN (A 1 26)) (mN (A 1 27)) (mN (A 1 25)) = true) i 10)), (4, .int (nI i)), (3, .int y), (0, .ref b), (1, .int x_s)]) dX12_edge_77 (Nat.le_of_ble_eq_true rfl) rfl ?_
          refine aj.iload dX12_edge_78 rfl ?_
          refine aj.istore_n (lv' := [(3, .int (mSum (A 1) sl s (mN (A 1 (21 + s))) (mOpen ol (mN (A 1 26)) (mN (A 1 27)) (mN (A 1 25)) = true) i 10)), (2, .int (nI i)), (5, .int (mSum (A 1) sl s (mN (A 1 (21 + s))) (mOpen ol (mN (A 1 26)) (mN (A 1 27)) (mN (A 1 25)) = true) i 10)), (4, .int (nI i)), (0, .ref b), (1, .int x_s)]) dX12_edge_80 (Nat.le_of_ble_eq_true rfl) rfl ?_
          refine aj.iincN (a := i) (c := 1) (lv' := [(4, .int (nI (i + 1))), (3, .int (mSum (A 1) sl s (mN (A 1 (21 + s))) (mOpen ol (mN (A 1 26)) (mN (A 1 27)) (mN (A 1 25)) = true) i 10)), (2, .int (nI i)), (5, .int (mSum (A 1) sl s (mN (A 1 (21 + s))) (mOpen ol (mN (A 1 26)) (mN (A 1 27)) (mN (A 1 25)) = true) i 10)), (0, .ref b), (1, .int x_s)]) dX12_edge_81 rfl (Nat.le_of_ble_eq_true rfl) rfl rfl rfl ?_
          refine aj.goto (tgt := 24) dX12_edge_84 rfl ?_
          refine aj.pick [0, 1, 2, 4, 5] rfl ?_
          exact ih (i + 1) _ _ M (by omega) (zed_up hz c38 (Or.inl c69)) ⟨_, _, _, hA⟩
        · refine aj.goto (tgt := 81) dX12_edge_72 rfl ?_
          refine aj.iincN (a := i) (c := 1) (lv' := [(4, .int (nI (i + 1))), (5, .int (mSum (A 1) sl s (mN (A 1 (21 + s))) (mOpen ol (mN (A 1 26)) (mN (A 1 27)) (mN (A 1 25)) = true) i 10)), (3, .int y), (2, .int x), (0, .ref b), (1, .int x_s)]) dX12_edge_81 rfl (Nat.le_of_ble_eq_true rfl) rfl rfl rfl ?_
          refine aj.goto (tgt := 24) dX12_edge_84 rfl ?_
          refine aj.pick [0, 2, 3, 4, 5] rfl ?_
          exact ih (i + 1) x y M (by omega) (zed_no hz c38 c69 (mSum_nn hB _ c38)) ⟨_, _, _, hA⟩
      · refine aj.goto (tgt := 81) dX12_edge_41 rfl ?_
        refine aj.iincN (a := i) (c := 1) (lv' := [(4, .int (nI (i + 1))), (3, .int y), (2, .int x), (0, .ref b), (1, .int x_s)]) dX12_edge_81 rfl (Nat.le_of_ble_eq_true rfl) rfl rfl rfl ?_
        refine aj.goto (tgt := 24) dX12_edge_84 rfl ?_
        refine aj.pick [0, 1, 2, 3, 4] rfl ?_
        exact ih (i + 1) x y M (by omega) (by rw [zedge_s, if_neg (by omega)]; exact hz) ⟨_, _, _, hA⟩
theorem q_edge {G : zG} {l : Launch} {b : Nat} {M0 M : zM} {I : Nat → Int32} {A : Nat → Nat → Int32} {L : Nat → Nat → Int64} (s : Int32) (hM : mW b M0 M I A L) {sl ol : Option (List Nat)} {T : Nat}  (hB : mOK (A 1) sl ol T) : am G l kX12_edge 5 [.ref b, .int s] M 0 0 (zr (.int (if inR s 0 ((mN (A 1 6) : Int) - 1) then zon (zedge (fun a => mTch (A 1) sl (mN s) a 10 = 0) (fun a => mSum (A 1) sl (mN s) (mN (A 1 (21 + mN s))) (mOpen ol (mN (A 1 26)) (mN (A 1 27)) (mN (A 1 25)) = true) a 10) 21) else -2)) (fun M' => mW b M0 M' I A L)) := by
  obtain ⟨u, v, w, hA⟩ := hM
  have hT := hB.2.2.2.2.2.2.2.2.1
  have hN6 := hB.2.2.1.2
  have hN25 := hB.2.2.2.2.2.1.2
  have hN26 := hB.2.2.2.2.2.2.1.2
  have hN27 := hB.2.2.2.2.2.2.2.1.2
  have hN1 := hB.1.1.2
  have hN2 := hB.1.2.1.2
  refine am.of (by decide) (Nat.le_of_ble_eq_true rfl) ?_
  refine aj.aload_n dX12_edge_0 rfl ?_
  refine aj.iconst (v := 0) dX12_edge_1 rfl ?_
  refine pM0 rfl dX12_edge_2 hA (fun M hA => ?_)
  refine aj.aload_n dX12_edge_5 rfl ?_
  refine aj.iload_n dX12_edge_6 rfl ?_
  refine aj.i2l dX12_edge_7 ?_
  refine aj.callV1 (d' := 1) (As := [.long (Int32.toInt64 s)]) (rest := []) dX12_edge_8 v_X12_236 li_X12_isShooter hA.1 rfl rfl rfl (Nat.le_of_ble_eq_true rfl) (Nat.le_of_ble_eq_true rfl) (c_isShooter s ⟨_, _, _, hA⟩ hB) (fun M hM => ?_)
  obtain ⟨u, v, w, hA⟩ := hM
  refine aj.if_neB (tgt := 17) dX12_edge_11 rfl (fun c11 => ?_) (fun c11 => ?_)
  · have h_s := inR_bdS c11 (by omega)
    have h2_s := h_s.2
    refine aj.iconst (v := (-1)) dX12_edge_17 rfl ?_
    refine aj.istore_n (lv' := [(2, .int (-1)), (0, .ref b), (1, .int s)]) dX12_edge_18 (Nat.le_of_ble_eq_true rfl) rfl ?_
    refine aj.iconst (v := (-1)) dX12_edge_19 rfl ?_
    refine aj.istore_n (lv' := [(3, .int (-1)), (2, .int (-1)), (0, .ref b), (1, .int s)]) dX12_edge_20 (Nat.le_of_ble_eq_true rfl) rfl ?_
    refine aj.iconst (v := 0) dX12_edge_21 rfl ?_
    refine aj.istore (lv' := [(4, .int 0), (3, .int (-1)), (2, .int (-1)), (0, .ref b), (1, .int s)]) dX12_edge_22 (Nat.le_of_ble_eq_true rfl) rfl ?_
    refine aj.pick [0, 1, 2, 3, 4] rfl ?_
    rw [show (if inR s 0 ((mN (A 1 6) : Int) - 1) then _ else _ : Int32) = _ from if_pos c11]
    exact edge_loop (mN s) h_s.1 hB (by omega) 21 0 (-1) (-1) M (by omega) ⟨rfl, rfl⟩ ⟨_, _, _, hA⟩
  · refine aj.bipush (v := (-2)) dX12_edge_14 rfl ?_
    exact aj.iret rfl dX12_edge_16 ⟨by rw [if_neg c11], ⟨_, _, _, hA⟩⟩
theorem opens_q {e : Prop} [Decidable e] {q : Int32} (h : zb e = zb (q = 1)) {x : Bool} (hx : e ↔ x = true) : x = decide (q = 1) := by
  by_cases c : q = 1
  · rw [zb_t c] at h
    rw [decide_eq_true c]
    exact hx.mp (zb_1.mp h)
  · rw [zb_f c] at h
    rw [decide_eq_false c]
    cases x with
    | false => rfl
    | true => exact absurd (hx.mpr rfl) (zb_0.mp h)
theorem opens_loop {G : zG} {l : Launch} {b : Nat} {M0 : zM} {I : Nat → Int32} {A : Nat → Nat → Int32} {L : Nat → Nat → Int64} (q : Int32) (r : Option Nat) {sl ol : Option (List Nat)} {T : Nat} (hB : mOK (A 1) sl ol T) : ∀ (n i : Nat)  (M : zM), i + n = 100 → zfirst (fun j => mOpen ol (mN (A 1 26)) (mN (A 1 27) + j) (mN (A 1 25)) = decide (q = 1)) n i = r → mW b M0 M I A L → aj G l kX12_opens 3 20 [(2, .int (nI i)), (0, .ref b), (1, .int q)] [] M 0 0 (zr (.int (zon r)) (fun M' => mW b M0 M' I A L)) := by
  have hT := hB.2.2.2.2.2.2.2.2.1
  have hN6 := hB.2.2.1.2
  have hN25 := hB.2.2.2.2.2.1.2
  have hN26 := hB.2.2.2.2.2.2.1.2
  have hN27 := hB.2.2.2.2.2.2.2.1.2
  have hN1 := hB.1.1.2
  have hN2 := hB.1.2.1.2
  intro n
  induction n with
  | zero =>
    intro i M hin hz hM
    obtain ⟨u, v, w, hA⟩ := hM
    refine aj.iload_n dX12_opens_20 rfl ?_
    refine aj.bipush (v := 100) dX12_opens_21 rfl ?_
    refine aj.icmp_geN (a := i) (b := 100) (tgt := 67) dX12_opens_23 rfl rfl (by omega) (by omega) rfl (fun c23 => ?_) (fun c23 => ?_)
    · refine aj.iconst (v := (-1)) dX12_opens_67 rfl ?_
      exact aj.iret rfl dX12_opens_68 ⟨by rw [← hz]; rfl, _, _, _, hA⟩
    · exact absurd c23 (by omega)
  | succ n ih =>
    intro i M hin hz hM
    obtain ⟨u, v, w, hA⟩ := hM
    refine aj.iload_n dX12_opens_20 rfl ?_
    refine aj.bipush (v := 100) dX12_opens_21 rfl ?_
    refine aj.icmp_geN (a := i) (b := 100) (tgt := 67) dX12_opens_23 rfl rfl (by omega) (by omega) rfl (fun c23 => ?_) (fun c23 => ?_)
    · exact absurd c23 (by omega)
    · refine aj.aload_n dX12_opens_26 rfl ?_
      refine aj.aload_n dX12_opens_27 rfl ?_
      refine gM1 rfl dX12_opens_28 hA ?_
      refine aj.bipush (v := 27) dX12_opens_31 rfl ?_
      refine aM1N (i := 27) dX12_opens_33 hA rfl (by omega) ?_
      refine aj.iload_n dX12_opens_34 rfl ?_
      refine aj.iaddN (a := mN (A 1 27)) (b := i) dX12_opens_35 hB.2.2.2.2.2.2.2.1.1 rfl ?_
      refine aj.aload_n dX12_opens_36 rfl ?_
      refine gM1 rfl dX12_opens_37 hA ?_
      refine aj.bipush (v := 25) dX12_opens_40 rfl ?_
      refine aM1N (i := 25) dX12_opens_42 hA rfl (by omega) ?_
      refine aj.callV1 (d' := 2) (As := [.int (nI ((mN (A 1 27)) + i)), .int (A 1 25)]) (rest := []) dX12_opens_43 v_X12_229 li_X12_isOpen hA.1 rfl rfl rfl (Nat.le_of_ble_eq_true rfl) (Nat.le_of_ble_eq_true rfl) (c_isOpen ((mN (A 1 27)) + i) rfl (mN (A 1 25)) hB.2.2.2.2.2.1.1 ⟨_, _, _, hA⟩ hB (by omega) (by omega)) (fun M hM => ?_)
      obtain ⟨u, v, w, hA⟩ := hM
      refine aj.iload_n dX12_opens_46 rfl ?_
      refine aj.iconst (v := 1) dX12_opens_47 rfl ?_
      refine aj.icmp_ne (tgt := 55) dX12_opens_48 rfl (fun c48 => ?_) (fun c48 => ?_)
      · refine aj.iconst (v := 0) dX12_opens_55 rfl ?_
        refine aj.icmp_ne (tgt := 61) dX12_opens_56 rfl (fun c56 => ?_) (fun c56 => ?_)
        · refine aj.iincN (a := i) (c := 1) (lv' := [(2, .int (nI (i + 1))), (0, .ref b), (1, .int q)]) dX12_opens_61 rfl (Nat.le_of_ble_eq_true rfl) rfl rfl rfl ?_
          refine aj.goto (tgt := 20) dX12_opens_64 rfl ?_
          refine aj.pick [0, 1, 2] rfl ?_
          exact ih (i + 1)  M (by omega) (by rw [← hz, zfirst_s, if_neg (fun z => c56 (zb_f (by rw [z, decide_eq_false c48]; decide)))]) ⟨_, _, _, hA⟩
        · refine aj.iload_n dX12_opens_59 rfl ?_
          exact aj.iret rfl dX12_opens_60 ⟨by rw [← hz, zfirst_s, if_pos (opens_q (q := q) (by rw [zb_f c48]; exact c56) Iff.rfl)]; rfl, _, _, _, hA⟩
      · refine aj.iconst (v := 1) dX12_opens_51 rfl ?_
        refine aj.goto (tgt := 56) dX12_opens_52 rfl ?_
        refine aj.icmp_ne (tgt := 61) dX12_opens_56 rfl (fun c56 => ?_) (fun c56 => ?_)
        · refine aj.iincN (a := i) (c := 1) (lv' := [(2, .int (nI (i + 1))), (0, .ref b), (1, .int q)]) dX12_opens_61 rfl (Nat.le_of_ble_eq_true rfl) rfl rfl rfl ?_
          refine aj.goto (tgt := 20) dX12_opens_64 rfl ?_
          refine aj.pick [0, 1, 2] rfl ?_
          exact ih (i + 1)  M (by omega) (by rw [← hz, zfirst_s, if_neg (fun z => c56 (zb_t (by rw [z, decide_eq_true c48])))]) ⟨_, _, _, hA⟩
        · refine aj.iload_n dX12_opens_59 rfl ?_
          exact aj.iret rfl dX12_opens_60 ⟨by rw [← hz, zfirst_s, if_pos (opens_q (q := q) (by rw [zb_t c48]; exact c56) Iff.rfl)]; rfl, _, _, _, hA⟩
theorem q_opens {G : zG} {l : Launch} {b : Nat} {M0 M : zM} {I : Nat → Int32} {A : Nat → Nat → Int32} {L : Nat → Nat → Int64} (q : Int32) (hM : mW b M0 M I A L) {sl ol : Option (List Nat)} {T : Nat}  (hB : mOK (A 1) sl ol T) : am G l kX12_opens 3 [.ref b, .int q] M 0 0 (zr (.int (if inR q 0 1 then zon (zfirst (fun j => mOpen ol (mN (A 1 26)) (mN (A 1 27) + j) (mN (A 1 25)) = decide (q = 1)) 100 0) else -2)) (fun M' => mW b M0 M' I A L)) := by
  obtain ⟨u, v, w, hA⟩ := hM
  have hT := hB.2.2.2.2.2.2.2.2.1
  have hN6 := hB.2.2.1.2
  have hN25 := hB.2.2.2.2.2.1.2
  have hN26 := hB.2.2.2.2.2.2.1.2
  have hN27 := hB.2.2.2.2.2.2.2.1.2
  have hN1 := hB.1.1.2
  have hN2 := hB.1.2.1.2
  refine am.of (by decide) (Nat.le_of_ble_eq_true rfl) ?_
  refine aj.aload_n dX12_opens_0 rfl ?_
  refine aj.iconst (v := 0) dX12_opens_1 rfl ?_
  refine pM0 rfl dX12_opens_2 hA (fun M hA => ?_)
  refine aj.iload_n dX12_opens_5 rfl ?_
  refine aj.i2l dX12_opens_6 ?_
  refine aj.lconst (v := 0) dX12_opens_7 rfl ?_
  refine aj.lconst (v := 1) dX12_opens_8 rfl ?_
  refine aj.callS1 (d' := 0) (As := [.long (Int32.toInt64 q), .long 0, .long 1]) (rest := []) dX12_opens_9 v_X12_142 w1380 rfl rfl (Nat.le_of_ble_eq_true rfl) (Nat.le_of_ble_eq_true rfl) (c_withinI (a := 0) (c := 1) _ q 0 1 rfl rfl) (fun M hM => ?_)
  subst hM
  refine aj.if_neB (tgt := 18) dX12_opens_12 rfl (fun c12 => ?_) (fun c12 => ?_)
  · have h_q := inR_bd (n := 1) c12 (by decide)
    have h2_q := h_q.2
    refine aj.iconst (v := 0) dX12_opens_18 rfl ?_
    refine aj.istore_n (lv' := [(2, .int 0), (0, .ref b), (1, .int q)]) dX12_opens_19 (Nat.le_of_ble_eq_true rfl) rfl ?_
    refine aj.pick [0, 1, 2] rfl ?_
    rw [if_pos c12]
    exact opens_loop q _ hB 100 0 M (by omega) rfl ⟨_, _, _, hA⟩
  · refine aj.bipush (v := (-2)) dX12_opens_15 rfl ?_
    exact aj.iret rfl dX12_opens_17 ⟨by rw [if_neg c12], ⟨_, _, _, hA⟩⟩
/-- the first of n with the most -/
def zlead (f : Nat → Int32) : Nat → Option Nat
  | 0 => none
  | n + 1 => match zlead f n with
    | none => some n
    | some k => if f n ≤ f k then some k else some n
theorem zlead_lt {f : Nat → Int32} : ∀ {n k : Nat}, zlead f n = some k → k < n
  | 0, _, h => by cases h
  | n + 1, k, h => by
    unfold zlead at h
    split at h
    · cases h; omega
    · rename_i j hj
      have := zlead_lt hj
      split at h <;> cases h <;> omega
theorem zlead_0 {f : Nat → Int32} {n : Nat} (h : zlead f n = none) : n = 0 := by
  cases n with
  | zero => rfl
  | succ n =>
    unfold zlead at h
    split at h
    · cases h
    · split at h <;> cases h
theorem zlead_n {f : Nat → Int32} {n : Nat} (h : zlead f n = none) : zlead f (n + 1) = some n := by
  show (match zlead f n with
    | none => some n
    | some k => if f n ≤ f k then some k else some n) = some n
  rw [h]
theorem zlead_k {f : Nat → Int32} {n k : Nat} (h : zlead f n = some k) : zlead f (n + 1) = if f n ≤ f k then some k else some n := by
  show (match zlead f n with
    | none => some n
    | some k => if f n ≤ f k then some k else some n) = _
  rw [h]
theorem z_nI1 {a : Nat} (h : a < 2 ^ 31) : ¬ nI a = -1 := fun q => by
  have := congrArg Int32.toInt q
  rw [nI_toInt h, show (-1 : Int32).toInt = -1 by decide] at this
  omega
theorem leads_loop {G : zG} {l : Launch} {b : Nat} {M0 : zM} {I : Nat → Int32} {A : Nat → Nat → Int32} {L : Nat → Nat → Int64} {sl ol : Option (List Nat)} {T : Nat} (hB : mOK (A 1) sl ol T) : ∀ (n i : Nat) (r : Option Nat) (M : zM), i + n = mN (A 1 6) → zlead (fun t => A 1 (17 + t)) i = r → mW b M0 M I A L → aj G l kX12_leads 0 9 [(2, .int (nI i)), (1, .int (zon r)), (0, .ref b)] [] M 0 0 (zr (.int (zon (zlead (fun t => A 1 (17 + t)) (mN (A 1 6))))) (fun M' => mW b M0 M' I A L)) := by
  have hT := hB.2.2.2.2.2.2.2.2.1
  have hN6 := hB.2.2.1.2
  have hN25 := hB.2.2.2.2.2.1.2
  have hN26 := hB.2.2.2.2.2.2.1.2
  have hN27 := hB.2.2.2.2.2.2.2.1.2
  have hN1 := hB.1.1.2
  have hN2 := hB.1.2.1.2
  intro n
  induction n with
  | zero =>
    intro i r M hin hr hM
    obtain ⟨u, v, w, hA⟩ := hM
    refine aj.iload_n dX12_leads_9 rfl ?_
    refine aj.aload_n dX12_leads_10 rfl ?_
    refine gM1 rfl dX12_leads_11 hA ?_
    refine aj.bipush (v := 6) dX12_leads_14 rfl ?_
    refine aM1N (i := 6) dX12_leads_16 hA rfl (by omega) ?_
    refine aj.icmp_geN (a := i) (b := mN (A 1 6)) (tgt := 54) dX12_leads_17 rfl hB.2.2.1.1 (by omega) (by omega) rfl (fun c17 => ?_) (fun c17 => ?_)
    · refine aj.iload_n dX12_leads_54 rfl ?_
      exact aj.iret rfl dX12_leads_55 ⟨by rw [← hr, show i = mN (A 1 6) by omega], _, _, _, hA⟩
    · exact absurd c17 (by omega)
  | succ n ih =>
    intro i r M hin hr hM
    obtain ⟨u, v, w, hA⟩ := hM
    cases r with
    | none =>
      refine aj.iload_n dX12_leads_9 rfl ?_
      refine aj.aload_n dX12_leads_10 rfl ?_
      refine gM1 rfl dX12_leads_11 hA ?_
      refine aj.bipush (v := 6) dX12_leads_14 rfl ?_
      refine aM1N (i := 6) dX12_leads_16 hA rfl (by omega) ?_
      refine aj.icmp_geN (a := i) (b := mN (A 1 6)) (tgt := 54) dX12_leads_17 rfl hB.2.2.1.1 (by omega) (by omega) rfl (fun c17 => ?_) (fun c17 => ?_)
      · exact absurd c17 (by omega)
      · refine aj.iload_n dX12_leads_20 rfl ?_
        refine aj.iconst (v := (-1)) dX12_leads_21 rfl ?_
        refine aj.icmp_eq (tgt := 46) dX12_leads_22 rfl (fun c22 => ?_) (fun c22 => ?_)
        · refine aj.iload_n dX12_leads_46 rfl ?_
          refine aj.istore_n (lv' := [(1, .int (nI i)), (2, .int (nI i)), (0, .ref b)]) dX12_leads_47 (Nat.le_of_ble_eq_true rfl) rfl ?_
          refine aj.iincN (a := i) (c := 1) (lv' := [(2, .int (nI (i + 1))), (1, .int (nI i)), (0, .ref b)]) dX12_leads_48 rfl (Nat.le_of_ble_eq_true rfl) rfl rfl rfl ?_
          refine aj.goto (tgt := 9) dX12_leads_51 rfl ?_
          refine aj.pick [0, 1, 2] rfl ?_
          exact ih (i + 1) (some i) M (by omega) (zlead_n hr) ⟨_, _, _, hA⟩
        · exact absurd rfl c22
    | some k =>
      have hk := zlead_lt hr
      refine aj.iload_n dX12_leads_9 rfl ?_
      refine aj.aload_n dX12_leads_10 rfl ?_
      refine gM1 rfl dX12_leads_11 hA ?_
      refine aj.bipush (v := 6) dX12_leads_14 rfl ?_
      refine aM1N (i := 6) dX12_leads_16 hA rfl (by omega) ?_
      refine aj.icmp_geN (a := i) (b := mN (A 1 6)) (tgt := 54) dX12_leads_17 rfl hB.2.2.1.1 (by omega) (by omega) rfl (fun c17 => ?_) (fun c17 => ?_)
      · exact absurd c17 (by omega)
      · refine aj.iload_n dX12_leads_20 rfl ?_
        refine aj.iconst (v := (-1)) dX12_leads_21 rfl ?_
        refine aj.icmp_eq (tgt := 46) dX12_leads_22 rfl (fun c22 => ?_) (fun c22 => ?_)
        · exact absurd c22 (by have : zon (some k) = nI k := rfl; rw [this]; exact z_nI1 (by omega))
        · refine aj.aload_n dX12_leads_25 rfl ?_
          refine gM1 rfl dX12_leads_26 hA ?_
          refine aj.bipush (v := 17) dX12_leads_29 rfl ?_
          refine aj.iload_n dX12_leads_31 rfl ?_
          refine aj.iaddN (a := 17) (b := i) dX12_leads_32 rfl rfl ?_
          refine aM1N (i := 17 + i) dX12_leads_33 hA rfl (by omega) ?_
          refine aj.aload_n dX12_leads_34 rfl ?_
          refine gM1 rfl dX12_leads_35 hA ?_
          refine aj.bipush (v := 17) dX12_leads_38 rfl ?_
          refine aj.iload_n dX12_leads_40 rfl ?_
          refine aj.iaddN (a := 17) (b := k) dX12_leads_41 rfl rfl ?_
          refine aM1N (i := 17 + k) dX12_leads_42 hA rfl (by omega) ?_
          refine aj.icmp_le (tgt := 48) dX12_leads_43 rfl (fun c43 => ?_) (fun c43 => ?_)
          · refine aj.iincN (a := i) (c := 1) (lv' := [(2, .int (nI (i + 1))), (1, .int (zon (some k))), (0, .ref b)]) dX12_leads_48 rfl (Nat.le_of_ble_eq_true rfl) rfl rfl rfl ?_
            refine aj.goto (tgt := 9) dX12_leads_51 rfl ?_
            refine aj.pick [0, 1, 2] rfl ?_
            exact ih (i + 1) (some k) M (by omega) (by rw [zlead_k hr, if_pos c43]) ⟨_, _, _, hA⟩
          · refine aj.iload_n dX12_leads_46 rfl ?_
            refine aj.istore_n (lv' := [(1, .int (nI i)), (2, .int (nI i)), (0, .ref b)]) dX12_leads_47 (Nat.le_of_ble_eq_true rfl) rfl ?_
            refine aj.iincN (a := i) (c := 1) (lv' := [(2, .int (nI (i + 1))), (1, .int (nI i)), (0, .ref b)]) dX12_leads_48 rfl (Nat.le_of_ble_eq_true rfl) rfl rfl rfl ?_
            refine aj.goto (tgt := 9) dX12_leads_51 rfl ?_
            refine aj.pick [0, 1, 2] rfl ?_
            exact ih (i + 1) (some i) M (by omega) (by rw [zlead_k hr, if_neg c43]) ⟨_, _, _, hA⟩
theorem q_leads {G : zG} {l : Launch} {b : Nat} {M0 M : zM} {I : Nat → Int32} {A : Nat → Nat → Int32} {L : Nat → Nat → Int64} (hM : mW b M0 M I A L) {sl ol : Option (List Nat)} {T : Nat}  (hB : mOK (A 1) sl ol T) : am G l kX12_leads 0 [.ref b] M 0 0 (zr (.int (zon (zlead (fun t => A 1 (17 + t)) (mN (A 1 6))))) (fun M' => mW b M0 M' I A L)) := by
  obtain ⟨u, v, w, hA⟩ := hM
  have hT := hB.2.2.2.2.2.2.2.2.1
  have hN6 := hB.2.2.1.2
  have hN25 := hB.2.2.2.2.2.1.2
  have hN26 := hB.2.2.2.2.2.2.1.2
  have hN27 := hB.2.2.2.2.2.2.2.1.2
  have hN1 := hB.1.1.2
  have hN2 := hB.1.2.1.2
  refine am.of (by decide) (Nat.le_of_ble_eq_true rfl) ?_
  refine aj.aload_n dX12_leads_0 rfl ?_
  refine aj.iconst (v := 0) dX12_leads_1 rfl ?_
  refine pM0 rfl dX12_leads_2 hA (fun M hA => ?_)
  refine aj.iconst (v := (-1)) dX12_leads_5 rfl ?_
  refine aj.istore_n (lv' := [(1, .int (-1)), (0, .ref b)]) dX12_leads_6 (Nat.le_of_ble_eq_true rfl) rfl ?_
  refine aj.iconst (v := 0) dX12_leads_7 rfl ?_
  refine aj.istore_n (lv' := [(2, .int 0), (1, .int (-1)), (0, .ref b)]) dX12_leads_8 (Nat.le_of_ble_eq_true rfl) rfl ?_
  refine aj.pick [0, 1, 2] rfl ?_
  exact leads_loop hB (mN (A 1 6)) 0 none M (by omega) rfl ⟨_, _, _, hA⟩
