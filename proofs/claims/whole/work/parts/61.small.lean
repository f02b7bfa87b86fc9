section R61
variable {G : zG} {l : Launch} {k : zY} {d pc bc bs : Nat} {lv : List (Nat × Value)} {st : List Value} {M : zM} {Q : Option Value → zM → Prop}
theorem aj.callE1 {y : zY} {d' idx b ci kc ks n : Nat} {x : Value} {As rest : List Value} {P : zM → Prop} (hd : decode k.2.1 pc = .ok (.invokevirtual idx, 3)) (hl : z_lk k.1.cls idx y n) (hi : z_li y) (hb : ∃ fs, M.1 b = some (.inr (ci, fs))) (hc : (classes[ci]?).map (fun q => q.1) = some y.1.cls) (hn : As.length = n) (hst : st = As.reverse ++ .ref b :: rest) (hsum : (rest.map fun v => v.category).sum ≤ 8) (hdd : d' + 1 ≤ d) (hm : am G l y d' (.ref b :: As) M kc ks (zr x P)) (h : ∀ M' : zM, P M' → aj G l k d (pc + 3) lv (x :: rest) M' bc bs Q) : aj G l k d pc lv st M (bc + kc) (bs + ks) Q := by
  obtain ⟨fs, hb⟩ := hb
  exact aj.callV1 hd hl hi hb hc hn hst hsum hdd hm h
theorem aj.callE0 {y : zY} {d' idx b ci kc ks n : Nat} {As rest : List Value} {P : zM → Prop} (hd : decode k.2.1 pc = .ok (.invokevirtual idx, 3)) (hl : z_lk k.1.cls idx y n) (hi : z_li y) (hb : ∃ fs, M.1 b = some (.inr (ci, fs))) (hc : (classes[ci]?).map (fun q => q.1) = some y.1.cls) (hn : As.length = n) (hst : st = As.reverse ++ .ref b :: rest) (hsum : (rest.map fun v => v.category).sum ≤ 8) (hdd : d' + 1 ≤ d) (hm : am G l y d' (.ref b :: As) M kc ks (zv P)) (h : ∀ M' : zM, P M' → aj G l k d (pc + 3) lv rest M' bc bs Q) : aj G l k d pc lv st M (bc + kc) (bs + ks) Q := by
  obtain ⟨fs, hb⟩ := hb
  exact aj.callV0 hd hl hi hb hc hn hst hsum hdd hm h
theorem aj.callEN1 {y : zY} {d' idx b ci kc ks n : Nat} {host : String} {x : Value} {As rest : List Value} {P : zM → Prop} (hd : decode k.2.1 pc = .ok (.invokevirtual idx, 3)) (hl : z_ln k.1.cls idx y n host) (hi : z_li y) (hb : ∃ fs, M.1 b = some (.inr (ci, fs))) (hc : (classes[ci]?).map (fun q => q.1) = some y.1.cls) (hn : As.length = n) (hst : st = As.reverse ++ .ref b :: rest) (hsum : (rest.map fun v => v.category).sum ≤ 8) (hdd : d' + 1 ≤ d) (hm : am G l y d' (.ref b :: As) M kc ks (zr x P)) (h : ∀ M' : zM, P M' → aj G l k d (pc + 3) lv (x :: rest) M' bc bs Q) : aj G l k d pc lv st M (bc + kc) (bs + ks) Q := by
  obtain ⟨fs, hb⟩ := hb
  exact aj.callVN1 hd hl hi hb hc hn hst hsum hdd hm h
theorem aj.callEN0 {y : zY} {d' idx b ci kc ks n : Nat} {host : String} {As rest : List Value} {P : zM → Prop} (hd : decode k.2.1 pc = .ok (.invokevirtual idx, 3)) (hl : z_ln k.1.cls idx y n host) (hi : z_li y) (hb : ∃ fs, M.1 b = some (.inr (ci, fs))) (hc : (classes[ci]?).map (fun q => q.1) = some y.1.cls) (hn : As.length = n) (hst : st = As.reverse ++ .ref b :: rest) (hsum : (rest.map fun v => v.category).sum ≤ 8) (hdd : d' + 1 ≤ d) (hm : am G l y d' (.ref b :: As) M kc ks (zv P)) (h : ∀ M' : zM, P M' → aj G l k d (pc + 3) lv rest M' bc bs Q) : aj G l k d pc lv st M (bc + kc) (bs + ks) Q := by
  obtain ⟨fs, hb⟩ := hb
  exact aj.callVN0 hd hl hi hb hc hn hst hsum hdd hm h
end R61
def iMin (x y : Int32) : Int32 := if y < x then y else x
def iMax (x y : Int32) : Int32 := if x < y then y else x
def lAbs (x : Int64) : Int64 := if 0 < x then x else -x
section R61b
variable {G : zG} {l : Launch} {k : zY} {d pc bc bs : Nat} {lv : List (Nat × Value)} {st : List Value} {M : zM} {Q : Option Value → zM → Prop}
theorem aj.mmin {idx : Nat} {x y : Int32} (hd : decode k.2.1 pc = .ok (.invokestatic idx, 3)) (hl : Cond.methodLink k.1.cls idx yJ9_min_7cf53 ∈ z_W) (hd1 : 1 ≤ d) (hsum : (st.map fun v => v.category).sum ≤ 8) (h : aj G l k d (pc + 3) lv (.int (iMin x y) :: st) M bc bs Q) : aj G l k d pc lv (.int y :: .int x :: st) M bc bs Q := by
  intro p e R s m args below meth c H locs cells slots LS C hS hV hL h1 h2 h3 h4
  have hts := C.2.2.2.2.2.1
  exact va_mmin C.1 C.2.1 (by rw [C.2.2.2.1]; exact hL.1.symm) C.2.2.2.2.1 (hts _ hl) (hts _ w448) (hts _ w131) (hts _ w449) (by omega) (by omega) (by omega) (by omega) hd (h p e R s m args below meth c H locs cells slots LS C hS hV hL h1 h2 h3 h4)
theorem aj.mmax {idx : Nat} {x y : Int32} (hd : decode k.2.1 pc = .ok (.invokestatic idx, 3)) (hl : Cond.methodLink k.1.cls idx yJ9_max_7cf53 ∈ z_W) (hd1 : 1 ≤ d) (hsum : (st.map fun v => v.category).sum ≤ 8) (h : aj G l k d (pc + 3) lv (.int (iMax x y) :: st) M bc bs Q) : aj G l k d pc lv (.int y :: .int x :: st) M bc bs Q := by
  intro p e R s m args below meth c H locs cells slots LS C hS hV hL h1 h2 h3 h4
  have hts := C.2.2.2.2.2.1
  exact va_mmax C.1 C.2.1 (by rw [C.2.2.2.1]; exact hL.1.symm) C.2.2.2.2.1 (hts _ hl) (hts _ w451) (hts _ w131) (hts _ w452) (by omega) (by omega) (by omega) (by omega) hd (h p e R s m args below meth c H locs cells slots LS C hS hV hL h1 h2 h3 h4)
theorem aj.mabs {idx : Nat} {x : Int64} (hd : decode k.2.1 pc = .ok (.invokestatic idx, 3)) (hl : Cond.methodLink k.1.cls idx yJ9_abs_067f4 ∈ z_W) (hd1 : 1 ≤ d) (hsum : (st.map fun v => v.category).sum ≤ 8) (h : aj G l k d (pc + 3) lv (.long (lAbs x) :: st) M bc bs Q) : aj G l k d pc lv (.long x :: st) M bc bs Q := by
  intro p e R s m args below meth c H locs cells slots LS C hS hV hL h1 h2 h3 h4
  have hts := C.2.2.2.2.2.1
  exact va_mabs_long C.1 C.2.1 (by rw [C.2.2.2.1]; exact hL.1.symm) C.2.2.2.2.1 (hts _ hl) (hts _ w956) (hts _ w131) (hts _ w957) (by omega) (by omega) (by omega) (by omega) hd (h p e R s m args below meth c H locs cells slots LS C hS hV hL h1 h2 h3 h4)
end R61b
theorem iMin_N {a b : Nat} (ha : a < 2 ^ 31) (hb : b < 2 ^ 31) : iMin (nI a) (nI b) = nI (min a b) := by
  unfold iMin
  by_cases h : b < a
  · rw [if_pos ((nI_ltI hb ha).mpr h), show min a b = b by omega]
  · rw [if_neg (fun q => h ((nI_ltI hb ha).mp q)), show min a b = a by omega]
theorem iMax_N {a b : Nat} (ha : a < 2 ^ 31) (hb : b < 2 ^ 31) : iMax (nI a) (nI b) = nI (max a b) := by
  unfold iMax
  by_cases h : a < b
  · rw [if_pos ((nI_ltI ha hb).mpr h), show max a b = b by omega]
  · rw [if_neg (fun q => h ((nI_ltI ha hb).mp q)), show max a b = a by omega]
theorem kept_of (x lo hi : Int32) (h : lo.toInt ≤ hi.toInt) : iMax lo (iMin hi x) = mKept x lo hi := by
  unfold iMax iMin mKept
  by_cases h1 : x < hi
  · rw [if_pos h1]
    by_cases h2 : lo < x
    · rw [if_pos h2, if_neg (by simp only [Int32.lt_iff_toInt_lt] at *; omega), if_neg (by simp only [Int32.lt_iff_toInt_lt] at *; omega)]
    · rw [if_neg h2]
      by_cases h3 : x < lo
      · rw [if_pos h3]
      · have e : lo = x := Int32.toInt_inj.mp (by simp only [Int32.lt_iff_toInt_lt] at *; omega)
        rw [if_neg h3, if_neg (by simp only [Int32.lt_iff_toInt_lt] at *; omega), e]
  · rw [if_neg h1]
    by_cases h3 : hi < x
    · rw [if_neg (show ¬ x < lo by simp only [Int32.lt_iff_toInt_lt] at *; omega), if_pos h3]
      by_cases h2 : lo < hi
      · rw [if_pos h2]
      · have e : lo = hi := Int32.toInt_inj.mp (by simp only [Int32.lt_iff_toInt_lt] at *; omega)
        rw [if_neg h2, e]
    · have e : x = hi := Int32.toInt_inj.mp (by simp only [Int32.lt_iff_toInt_lt] at *; omega)
      subst e
      rw [if_neg h3, if_neg (show ¬ x < lo by simp only [Int32.lt_iff_toInt_lt] at *; omega)]
      by_cases h2 : lo < x
      · rw [if_pos h2]
      · exact (if_neg h2).trans (Int32.toInt_inj.mp (by simp only [Int32.lt_iff_toInt_lt] at *; omega))
theorem k_isPlace {G : zG} {l : Launch} (M : zM) (q : Int64) : am G l kX11_isPlace 0 [.long q] M 0 0 (zr (.int (zb (0 ≤ q ∧ q ≤ 20))) (fun M' => M' = M)) := by
  refine am.of (by decide) (Nat.le_of_ble_eq_true rfl) ?_
  refine aj.lload_n dX11_isPlace_0 rfl ?_
  refine aj.lconst (v := 0) dX11_isPlace_1 rfl ?_
  refine aj.lif_lt (tgt := 18) dX11_isPlace_2 dX11_isPlace_3 rfl (fun c2 => ?_) (fun c2 => ?_)
  · refine aj.iconst (v := 0) dX11_isPlace_18 rfl ?_
    exact aj.zret (ty := .boolean) rfl rfl dX11_isPlace_19 ⟨by rw [zb_f (fun q => by have q1 := Int64.le_iff_toInt_le.mp q.1; have q2 := Int64.le_iff_toInt_le.mp q.2; simp only [Int64.lt_iff_toInt_lt] at *; have e0 : (0 : Int64).toInt = 0 := rfl; have e1 : (20 : Int64).toInt = 20 := rfl; have e2 : (21 : Int64).toInt = 21 := rfl; omega)], rfl⟩
  · refine aj.lload_n dX11_isPlace_6 rfl ?_
    refine aj.ldc2 dX11_isPlace_7 w750 ?_
    refine aj.lif_ge (tgt := 18) dX11_isPlace_10 dX11_isPlace_11 rfl (fun c10 => ?_) (fun c10 => ?_)
    · refine aj.iconst (v := 0) dX11_isPlace_18 rfl ?_
      exact aj.zret (ty := .boolean) rfl rfl dX11_isPlace_19 ⟨by rw [zb_f (fun q => by have q1 := Int64.le_iff_toInt_le.mp q.1; have q2 := Int64.le_iff_toInt_le.mp q.2; simp only [Int64.lt_iff_toInt_lt] at *; have e0 : (0 : Int64).toInt = 0 := rfl; have e1 : (20 : Int64).toInt = 20 := rfl; have e2 : (21 : Int64).toInt = 21 := rfl; omega)], rfl⟩
    · refine aj.iconst (v := 1) dX11_isPlace_14 rfl ?_
      refine aj.goto (tgt := 19) dX11_isPlace_15 rfl ?_
      exact aj.zret (ty := .boolean) rfl rfl dX11_isPlace_19 ⟨by rw [zb_t ⟨by simp only [Int64.lt_iff_toInt_lt, Int64.le_iff_toInt_le] at *; first | omega | (have e0 : (0 : Int64).toInt = 0 := rfl; have e1 : (20 : Int64).toInt = 20 := rfl; have e2 : (21 : Int64).toInt = 21 := rfl; omega), by simp only [Int64.lt_iff_toInt_lt, Int64.le_iff_toInt_le] at *; have e1 : (20 : Int64).toInt = 20 := rfl; have e2 : (21 : Int64).toInt = 21 := rfl; omega⟩], rfl⟩
theorem k_isPlaceI {G : zG} {l : Launch} (M : zM) (x : Int32) : am G l kX11_isPlace 0 [.long x.toInt64] M 0 0 (zr (.int (zb (inR x 0 20))) (fun M' => M' = M)) := by
  have h := k_isPlace (G := G) (l := l) M x.toInt64
  rw [zb_iff (inR_64 (x := x) (lo := 0) (hi := 20))] at h
  exact h
theorem k_isLot {G : zG} {l : Launch} (M : zM) (q : Int64) : am G l kX11_isLot 0 [.long q] M 0 0 (zr (.int (zb (0 ≤ q ∧ q ≤ 9))) (fun M' => M' = M)) := by
  refine am.of (by decide) (Nat.le_of_ble_eq_true rfl) ?_
  refine aj.lload_n dX11_isLot_0 rfl ?_
  refine aj.lconst (v := 0) dX11_isLot_1 rfl ?_
  refine aj.lif_lt (tgt := 18) dX11_isLot_2 dX11_isLot_3 rfl (fun c2 => ?_) (fun c2 => ?_)
  · refine aj.iconst (v := 0) dX11_isLot_18 rfl ?_
    exact aj.zret (ty := .boolean) rfl rfl dX11_isLot_19 ⟨by rw [zb_f (fun q => by have q1 := Int64.le_iff_toInt_le.mp q.1; have q2 := Int64.le_iff_toInt_le.mp q.2; simp only [Int64.lt_iff_toInt_lt] at *; have e0 : (0 : Int64).toInt = 0 := rfl; have e1 : (9 : Int64).toInt = 9 := rfl; have e2 : (10 : Int64).toInt = 10 := rfl; omega)], rfl⟩
  · refine aj.lload_n dX11_isLot_6 rfl ?_
    refine aj.ldc2 dX11_isLot_7 w754 ?_
    refine aj.lif_ge (tgt := 18) dX11_isLot_10 dX11_isLot_11 rfl (fun c10 => ?_) (fun c10 => ?_)
    · refine aj.iconst (v := 0) dX11_isLot_18 rfl ?_
      exact aj.zret (ty := .boolean) rfl rfl dX11_isLot_19 ⟨by rw [zb_f (fun q => by have q1 := Int64.le_iff_toInt_le.mp q.1; have q2 := Int64.le_iff_toInt_le.mp q.2; simp only [Int64.lt_iff_toInt_lt] at *; have e0 : (0 : Int64).toInt = 0 := rfl; have e1 : (9 : Int64).toInt = 9 := rfl; have e2 : (10 : Int64).toInt = 10 := rfl; omega)], rfl⟩
    · refine aj.iconst (v := 1) dX11_isLot_14 rfl ?_
      refine aj.goto (tgt := 19) dX11_isLot_15 rfl ?_
      exact aj.zret (ty := .boolean) rfl rfl dX11_isLot_19 ⟨by rw [zb_t ⟨by simp only [Int64.lt_iff_toInt_lt, Int64.le_iff_toInt_le] at *; first | omega | (have e0 : (0 : Int64).toInt = 0 := rfl; have e1 : (9 : Int64).toInt = 9 := rfl; have e2 : (10 : Int64).toInt = 10 := rfl; omega), by simp only [Int64.lt_iff_toInt_lt, Int64.le_iff_toInt_le] at *; have e1 : (9 : Int64).toInt = 9 := rfl; have e2 : (10 : Int64).toInt = 10 := rfl; omega⟩], rfl⟩
theorem k_isLotI {G : zG} {l : Launch} (M : zM) (x : Int32) : am G l kX11_isLot 0 [.long x.toInt64] M 0 0 (zr (.int (zb (inR x 0 9))) (fun M' => M' = M)) := by
  have h := k_isLot (G := G) (l := l) M x.toInt64
  rw [zb_iff (inR_64 (x := x) (lo := 0) (hi := 9))] at h
  exact h
theorem k_isWind {G : zG} {l : Launch} (M : zM) (x : Int32) : am G l kX11_isWind 0 [.int x] M 0 0 (zr (.int (zb (inR x 0 9))) (fun M' => M' = M)) := by
  refine am.of (by decide) (Nat.le_of_ble_eq_true rfl) ?_
  refine aj.iload_n dX11_isWind_0 rfl ?_
  refine aj.if_lt (tgt := 14) dX11_isWind_1 rfl (fun c1 => ?_) (fun c1 => ?_)
  · refine aj.iconst (v := 0) dX11_isWind_14 rfl ?_
    exact aj.zret (ty := .boolean) rfl rfl dX11_isWind_15 ⟨by rw [zb_f (by simp only [Int32.lt_iff_toInt_lt, Int32.le_iff_toInt_le, Int32.not_lt, Int32.not_le] at *; have e0 : (0 : Int32).toInt = 0 := rfl; have e10 : (10 : Int32).toInt = 10 := rfl; unfold inR; omega)], rfl⟩
  · refine aj.iload_n dX11_isWind_4 rfl ?_
    refine aj.bipush (v := 10) dX11_isWind_5 rfl ?_
    refine aj.icmp_ge (tgt := 14) dX11_isWind_7 rfl (fun c7 => ?_) (fun c7 => ?_)
    · refine aj.iconst (v := 0) dX11_isWind_14 rfl ?_
      exact aj.zret (ty := .boolean) rfl rfl dX11_isWind_15 ⟨by rw [zb_f (by simp only [Int32.lt_iff_toInt_lt, Int32.le_iff_toInt_le, Int32.not_lt, Int32.not_le] at *; have e0 : (0 : Int32).toInt = 0 := rfl; have e10 : (10 : Int32).toInt = 10 := rfl; unfold inR; omega)], rfl⟩
    · refine aj.iconst (v := 1) dX11_isWind_10 rfl ?_
      refine aj.goto (tgt := 15) dX11_isWind_11 rfl ?_
      exact aj.zret (ty := .boolean) rfl rfl dX11_isWind_15 ⟨by rw [zb_t (by simp only [Int32.lt_iff_toInt_lt, Int32.le_iff_toInt_le, Int32.not_lt, Int32.not_le] at *; have e0 : (0 : Int32).toInt = 0 := rfl; have e10 : (10 : Int32).toInt = 10 := rfl; unfold inR; omega)], rfl⟩
theorem k_isHalf {G : zG} {l : Launch} (M : zM) (x : Int32) : am G l kX11_isHalf 0 [.int x] M 0 0 (zr (.int (zb (inR x 0 1))) (fun M' => M' = M)) := by
  refine am.of (by decide) (Nat.le_of_ble_eq_true rfl) ?_
  refine aj.iload_n dX11_isHalf_0 rfl ?_
  refine aj.if_eq (tgt := 9) dX11_isHalf_1 rfl (fun c1 => ?_) (fun c1 => ?_)
  · refine aj.iconst (v := 1) dX11_isHalf_9 rfl ?_
    refine aj.goto (tgt := 14) dX11_isHalf_10 rfl ?_
    exact aj.zret (ty := .boolean) rfl rfl dX11_isHalf_14 ⟨by rw [zb_t (by unfold inR; simp only [← Int32.toInt_inj] at *; have e0 : (0 : Int32).toInt = 0 := rfl; have e1 : (1 : Int32).toInt = 1 := rfl; omega)], rfl⟩
  · refine aj.iload_n dX11_isHalf_4 rfl ?_
    refine aj.iconst (v := 1) dX11_isHalf_5 rfl ?_
    refine aj.icmp_ne (tgt := 13) dX11_isHalf_6 rfl (fun c6 => ?_) (fun c6 => ?_)
    · refine aj.iconst (v := 0) dX11_isHalf_13 rfl ?_
      exact aj.zret (ty := .boolean) rfl rfl dX11_isHalf_14 ⟨by rw [zb_f (by unfold inR; simp only [← Int32.toInt_inj] at *; have e0 : (0 : Int32).toInt = 0 := rfl; have e1 : (1 : Int32).toInt = 1 := rfl; omega)], rfl⟩
    · refine aj.iconst (v := 1) dX11_isHalf_9 rfl ?_
      refine aj.goto (tgt := 14) dX11_isHalf_10 rfl ?_
      exact aj.zret (ty := .boolean) rfl rfl dX11_isHalf_14 ⟨by rw [zb_t (by unfold inR; simp only [← Int32.toInt_inj] at *; have e0 : (0 : Int32).toInt = 0 := rfl; have e1 : (1 : Int32).toInt = 1 := rfl; omega)], rfl⟩
theorem k_held {G : zG} {l : Launch} (M : zM) (x : Int32) : am G l kX4_held 1 [.int x] M 0 0 (zr (.int (mKept x (-9) 9)) (fun M' => M' = M)) := by
  refine am.of (by decide) (Nat.le_of_ble_eq_true rfl) ?_
  refine aj.bipush (v := (-9)) dX4_held_0 rfl ?_
  refine aj.bipush (v := 9) dX4_held_2 rfl ?_
  refine aj.iload_n dX4_held_4 rfl ?_
  refine aj.mmin dX4_held_5 w770 (Nat.le_of_ble_eq_true rfl) (Nat.le_of_ble_eq_true rfl) ?_
  refine aj.mmax dX4_held_8 w771 (Nat.le_of_ble_eq_true rfl) (Nat.le_of_ble_eq_true rfl) ?_
  exact aj.iret rfl dX4_held_11 ⟨by rw [← kept_of _ _ _ (by decide)], rfl⟩
theorem k_placeOf {G : zG} {l : Launch} (M : zM) (x y : Int32) : am G l kX4_placeOf 1 [.int x, .int y] M 0 0 (zr (.int (mKept (x + y) 0 20)) (fun M' => M' = M)) := by
  refine am.of (by decide) (Nat.le_of_ble_eq_true rfl) ?_
  refine aj.iconst (v := 0) dX4_placeOf_0 rfl ?_
  refine aj.bipush (v := 20) dX4_placeOf_1 rfl ?_
  refine aj.iload_n dX4_placeOf_3 rfl ?_
  refine aj.iload_n dX4_placeOf_4 rfl ?_
  refine aj.iadd dX4_placeOf_5 ?_
  refine aj.mmin dX4_placeOf_6 w770 (Nat.le_of_ble_eq_true rfl) (Nat.le_of_ble_eq_true rfl) ?_
  refine aj.mmax dX4_placeOf_9 w771 (Nat.le_of_ble_eq_true rfl) (Nat.le_of_ble_eq_true rfl) ?_
  exact aj.iret rfl dX4_placeOf_12 ⟨by rw [← kept_of _ _ _ (by decide)], rfl⟩
theorem k_isSmall {G : zG} {l : Launch} (M : zM) (x : Int32) : am G l kX9_isSmall 0 [.int x] M 0 0 (zr (.int (zb (97 ≤ x ∧ x ≤ 122))) (fun M' => M' = M)) := by
  refine am.of (by decide) (Nat.le_of_ble_eq_true rfl) ?_
  refine aj.iload_n dX9_isSmall_0 rfl ?_
  refine aj.bipush (v := 97) dX9_isSmall_1 rfl ?_
  refine aj.icmp_lt (tgt := 16) dX9_isSmall_3 rfl (fun c3 => ?_) (fun c3 => ?_)
  · refine aj.iconst (v := 0) dX9_isSmall_16 rfl ?_
    exact aj.zret (ty := .boolean) rfl rfl dX9_isSmall_17 ⟨by rw [zb_f (fun q => by simp only [Int32.lt_iff_toInt_lt, Int32.le_iff_toInt_le] at *; omega)], rfl⟩
  · refine aj.iload_n dX9_isSmall_6 rfl ?_
    refine aj.bipush (v := 122) dX9_isSmall_7 rfl ?_
    refine aj.icmp_gt (tgt := 16) dX9_isSmall_9 rfl (fun c9 => ?_) (fun c9 => ?_)
    · refine aj.iconst (v := 0) dX9_isSmall_16 rfl ?_
      exact aj.zret (ty := .boolean) rfl rfl dX9_isSmall_17 ⟨by rw [zb_f (fun q => by simp only [Int32.lt_iff_toInt_lt, Int32.le_iff_toInt_le] at *; omega)], rfl⟩
    · refine aj.iconst (v := 1) dX9_isSmall_12 rfl ?_
      refine aj.goto (tgt := 17) dX9_isSmall_13 rfl ?_
      exact aj.zret (ty := .boolean) rfl rfl dX9_isSmall_17 ⟨by rw [zb_t ⟨by simp only [Int32.lt_iff_toInt_lt, Int32.le_iff_toInt_le] at *; omega, by simp only [Int32.lt_iff_toInt_lt, Int32.le_iff_toInt_le] at *; omega⟩], rfl⟩
theorem k_isDigit {G : zG} {l : Launch} (M : zM) (x : Int32) : am G l kX9_isDigit 0 [.int x] M 0 0 (zr (.int (zb (48 ≤ x ∧ x ≤ 57))) (fun M' => M' = M)) := by
  refine am.of (by decide) (Nat.le_of_ble_eq_true rfl) ?_
  refine aj.iload_n dX9_isDigit_0 rfl ?_
  refine aj.bipush (v := 48) dX9_isDigit_1 rfl ?_
  refine aj.icmp_lt (tgt := 16) dX9_isDigit_3 rfl (fun c3 => ?_) (fun c3 => ?_)
  · refine aj.iconst (v := 0) dX9_isDigit_16 rfl ?_
    exact aj.zret (ty := .boolean) rfl rfl dX9_isDigit_17 ⟨by rw [zb_f (fun q => by simp only [Int32.lt_iff_toInt_lt, Int32.le_iff_toInt_le] at *; omega)], rfl⟩
  · refine aj.iload_n dX9_isDigit_6 rfl ?_
    refine aj.bipush (v := 57) dX9_isDigit_7 rfl ?_
    refine aj.icmp_gt (tgt := 16) dX9_isDigit_9 rfl (fun c9 => ?_) (fun c9 => ?_)
    · refine aj.iconst (v := 0) dX9_isDigit_16 rfl ?_
      exact aj.zret (ty := .boolean) rfl rfl dX9_isDigit_17 ⟨by rw [zb_f (fun q => by simp only [Int32.lt_iff_toInt_lt, Int32.le_iff_toInt_le] at *; omega)], rfl⟩
    · refine aj.iconst (v := 1) dX9_isDigit_12 rfl ?_
      refine aj.goto (tgt := 17) dX9_isDigit_13 rfl ?_
      exact aj.zret (ty := .boolean) rfl rfl dX9_isDigit_17 ⟨by rw [zb_t ⟨by simp only [Int32.lt_iff_toInt_lt, Int32.le_iff_toInt_le] at *; omega, by simp only [Int32.lt_iff_toInt_lt, Int32.le_iff_toInt_le] at *; omega⟩], rfl⟩
theorem fillI_loop {G : zG} {l : Launch} {M : zM} {p N : Nat} {x : Int32} (hN : N < 2 ^ 31) : ∀ (n i : Nat) (f : Nat → Int32), i + n = N → (∀ j, j < i → f j = x) → aj G l kJ7_fill_53178 0 5 [(2, .int (nI i)), (3, .int (nI N)), (0, .ref p), (1, .int x)] [] (z_up M p (.inl (0, N, .inl f))) 0 0 (zv (fun M' => ∃ g, M' = z_up M p (.inl (0, N, .inl g)) ∧ ∀ j, j < N → g j = x)) := by
  intro n
  induction n with
  | zero =>
    intro i f hin hf
    refine aj.iload_n dJ7_fill_53178_5 rfl ?_
    refine aj.iload_n dJ7_fill_53178_6 rfl ?_
    refine aj.icmp_geN (a := i) (b := N) (tgt := 20) dJ7_fill_53178_7 rfl rfl (by omega) (by omega) rfl (fun c7 => ?_) (fun c7 => ?_)
    · exact aj.vret rfl dJ7_fill_53178_20 ⟨rfl, f, rfl, fun j hj => hf j (by omega)⟩
    · exact absurd c7 (by omega)
  | succ n ih =>
    intro i f hin hf
    refine aj.iload_n dJ7_fill_53178_5 rfl ?_
    refine aj.iload_n dJ7_fill_53178_6 rfl ?_
    refine aj.icmp_geN (a := i) (b := N) (tgt := 20) dJ7_fill_53178_7 rfl rfl (by omega) (by omega) rfl (fun c7 => ?_) (fun c7 => ?_)
    · exact absurd c7 (by omega)
    · refine aj.aload_n dJ7_fill_53178_10 rfl ?_
      refine aj.iload_n dJ7_fill_53178_11 rfl ?_
      refine aj.iload_n dJ7_fill_53178_12 rfl ?_
      refine aj.iast (a := p) dJ7_fill_53178_13 (z_up_s _ _ _) (vp_in_nI (by omega) hN) ?_
      rw [z_uu, nI_clamp (by omega)]
      refine aj.iincN (a := i) (c := 1) (lv' := [(2, .int (nI (i + 1))), (3, .int (nI N)), (0, .ref p), (1, .int x)]) dJ7_fill_53178_14 rfl (Nat.le_of_ble_eq_true rfl) rfl rfl rfl ?_
      refine aj.goto (tgt := 5) dJ7_fill_53178_17 rfl ?_
      refine aj.pick [0, 1, 2, 3] rfl ?_
      refine ih (i + 1) _ (by omega) (fun j hj => ?_)
      unfold upd
      by_cases e : j = i
      · rw [if_pos e]
      · rw [if_neg e]; exact hf j (by omega)
theorem j_fillI {G : zG} {l : Launch} {M : zM} {p N : Nat} {f : Nat → Int32} (x : Int32) (hN : N < 2 ^ 31) (hp : M.1 p = some (.inl (0, N, .inl f))) : am G l kJ7_fill_53178 0 [.ref p, .int x] M 0 0 (zv (fun M' => ∃ g, M' = z_up M p (.inl (0, N, .inl g)) ∧ ∀ j, j < N → g j = x)) := by
  refine am.of (by decide) (Nat.le_of_ble_eq_true rfl) ?_
  have hM : M = z_up M p (.inl (0, N, .inl f)) := by
    unfold z_up
    refine Prod.ext ?_ rfl
    funext q
    show M.1 q = if q = p then _ else M.1 q
    by_cases h : q = p
    · subst h; rw [if_pos rfl, hp]
    · rw [if_neg h]
  refine aj.iconst (v := 0) dJ7_fill_53178_0 rfl ?_
  refine aj.istore_n (lv' := [(2, .int 0), (0, .ref p), (1, .int x)]) dJ7_fill_53178_1 (Nat.le_of_ble_eq_true rfl) rfl ?_
  refine aj.aload_n dJ7_fill_53178_2 rfl ?_
  refine aj.alen (v := nI N) dJ7_fill_53178_3 hp (by decide) rfl ?_
  refine aj.istore_n (lv' := [(3, .int (nI N)), (2, .int 0), (0, .ref p), (1, .int x)]) dJ7_fill_53178_4 (Nat.le_of_ble_eq_true rfl) rfl ?_
  refine aj.pick [1, 0, 2, 3] rfl ?_
  have key := fillI_loop (G := G) (l := l) (M := M) (p := p) (x := x) hN N 0 f (by omega) (fun j hj => absurd hj (Nat.not_lt_zero j))
  rw [← hM] at key
  exact key
theorem fillL_loop {G : zG} {l : Launch} {M : zM} {p N : Nat} {x : Int64} (hN : N < 2 ^ 31) : ∀ (n i : Nat) (f : Nat → Int64), i + n = N → (∀ j, j < i → f j = x) → aj G l kJ7_fill_d0a16 0 6 [(3, .int (nI i)), (4, .int (nI N)), (0, .ref p), (1, .long x)] [] (z_up M p (.inl (1, N, .inr (.inl f)))) 0 0 (zv (fun M' => ∃ g, M' = z_up M p (.inl (1, N, .inr (.inl g))) ∧ ∀ j, j < N → g j = x)) := by
  intro n
  induction n with
  | zero =>
    intro i f hin hf
    refine aj.iload_n dJ7_fill_d0a16_6 rfl ?_
    refine aj.iload dJ7_fill_d0a16_7 rfl ?_
    refine aj.icmp_geN (a := i) (b := N) (tgt := 22) dJ7_fill_d0a16_9 rfl rfl (by omega) (by omega) rfl (fun c9 => ?_) (fun c9 => ?_)
    · exact aj.vret rfl dJ7_fill_d0a16_22 ⟨rfl, f, rfl, fun j hj => hf j (by omega)⟩
    · exact absurd c9 (by omega)
  | succ n ih =>
    intro i f hin hf
    refine aj.iload_n dJ7_fill_d0a16_6 rfl ?_
    refine aj.iload dJ7_fill_d0a16_7 rfl ?_
    refine aj.icmp_geN (a := i) (b := N) (tgt := 22) dJ7_fill_d0a16_9 rfl rfl (by omega) (by omega) rfl (fun c9 => ?_) (fun c9 => ?_)
    · exact absurd c9 (by omega)
    · refine aj.aload_n dJ7_fill_d0a16_12 rfl ?_
      refine aj.iload_n dJ7_fill_d0a16_13 rfl ?_
      refine aj.lload_n dJ7_fill_d0a16_14 rfl ?_
      refine aj.last (a := p) dJ7_fill_d0a16_15 (z_up_s _ _ _) (vp_in_nI (by omega) hN) ?_
      rw [z_uu, nI_clamp (by omega)]
      refine aj.iincN (a := i) (c := 1) (lv' := [(3, .int (nI (i + 1))), (4, .int (nI N)), (0, .ref p), (1, .long x)]) dJ7_fill_d0a16_16 rfl (Nat.le_of_ble_eq_true rfl) rfl rfl rfl ?_
      refine aj.goto (tgt := 6) dJ7_fill_d0a16_19 rfl ?_
      refine aj.pick [0, 1, 2, 3] rfl ?_
      refine ih (i + 1) _ (by omega) (fun j hj => ?_)
      unfold vp_updL
      by_cases e : j = i
      · rw [if_pos e]
      · rw [if_neg e]; exact hf j (by omega)
theorem j_fillL {G : zG} {l : Launch} {M : zM} {p N : Nat} {f : Nat → Int64} (x : Int64) (hN : N < 2 ^ 31) (hp : M.1 p = some (.inl (1, N, .inr (.inl f)))) : am G l kJ7_fill_d0a16 0 [.ref p, .long x] M 0 0 (zv (fun M' => ∃ g, M' = z_up M p (.inl (1, N, .inr (.inl g))) ∧ ∀ j, j < N → g j = x)) := by
  refine am.of (by decide) (Nat.le_of_ble_eq_true rfl) ?_
  have hM : M = z_up M p (.inl (1, N, .inr (.inl f))) := by
    unfold z_up
    refine Prod.ext ?_ rfl
    funext q
    show M.1 q = if q = p then _ else M.1 q
    by_cases h : q = p
    · subst h; rw [if_pos rfl, hp]
    · rw [if_neg h]
  refine aj.iconst (v := 0) dJ7_fill_d0a16_0 rfl ?_
  refine aj.istore_n (lv' := [(3, .int 0), (0, .ref p), (1, .long x)]) dJ7_fill_d0a16_1 (Nat.le_of_ble_eq_true rfl) rfl ?_
  refine aj.aload_n dJ7_fill_d0a16_2 rfl ?_
  refine aj.alen (v := nI N) dJ7_fill_d0a16_3 hp (by decide) rfl ?_
  refine aj.istore (lv' := [(4, .int (nI N)), (3, .int 0), (0, .ref p), (1, .long x)]) dJ7_fill_d0a16_4 (Nat.le_of_ble_eq_true rfl) rfl ?_
  refine aj.pick [1, 0, 2, 3] rfl ?_
  have key := fillL_loop (G := G) (l := l) (M := M) (p := p) (x := x) hN N 0 f (by omega) (fun j hj => absurd hj (Nat.not_lt_zero j))
  rw [← hM] at key
  exact key
theorem k_fillI {G : zG} {l : Launch} {a : Nat} {M0 M : zM} {V : Nat → Nat → Int32} {W : Nat → Nat → Int64} {R : Nat → Nat → Option Nat} {i n : Nat} (x : Int32) (hk : kd i = (0, n)) (hn : n < 2 ^ 31) (hA : kA a M0 M V W R) : am G l kJ7_fill_53178 0 [.ref (a + i), .int x] M 0 0 (zv (fun M' => kA a M0 M' (va_up V i (fun _ => x)) W R)) := by
  obtain ⟨g, hc, hg⟩ := hA.ints hk (Or.inl rfl)
  refine am.mono (j_fillI x hn hc) (fun r M' hq => ⟨hq.1, ?_⟩)
  obtain ⟨f, e, hf⟩ := hq.2
  rw [e]
  exact hA.upV (kIn_of hk (by decide)) ((kP_i hk (Or.inl rfl)).mpr ⟨f, rfl, hf⟩)
theorem k_fillL {G : zG} {l : Launch} {a : Nat} {M0 M : zM} {V : Nat → Nat → Int32} {W : Nat → Nat → Int64} {R : Nat → Nat → Option Nat} {i n : Nat} (x : Int64) (hk : kd i = (1, n)) (hn : n < 2 ^ 31) (hA : kA a M0 M V W R) : am G l kJ7_fill_d0a16 0 [.ref (a + i), .long x] M 0 0 (zv (fun M' => kA a M0 M' V (va_up W i (fun _ => x)) R)) := by
  obtain ⟨g, hc, hg⟩ := hA.longs hk
  refine am.mono (j_fillL x hn hc) (fun r M' hq => ⟨hq.1, ?_⟩)
  obtain ⟨f, e, hf⟩ := hq.2
  rw [e]
  exact hA.upW (kIn_of hk (by decide)) ((kP_l hk).mpr ⟨f, rfl, hf⟩)
