/-- a truth as an int -/
def zb (c : Prop) [Decidable c] : Int32 := if c then 1 else 0
theorem zb_t {c : Prop} [Decidable c] (h : c) : zb c = 1 := if_pos h
theorem zb_f {c : Prop} [Decidable c] (h : ¬ c) : zb c = 0 := if_neg h
theorem z_dec {a : Nat} (h : 0 < a) : nI a + Int32.ofInt (-1) = nI (a - 1) := by
  obtain ⟨n, rfl⟩ : ∃ n, a = n + 1 := ⟨a - 1, by omega⟩
  exact pk_m1 n
theorem zb_1 {c : Prop} [Decidable c] : zb c = 1 ↔ c := ⟨fun h => Classical.byContradiction fun q => by rw [zb_f q] at h; exact absurd h (by decide), zb_t⟩
theorem zb_0 {c : Prop} [Decidable c] : zb c = 0 ↔ ¬ c := ⟨fun h q => by rw [zb_t q] at h; exact absurd h (by decide), zb_f⟩
theorem zb_iff {c e : Prop} [Decidable c] [Decidable e] (h : c ↔ e) : zb c = zb e := by
  by_cases q : c
  · rw [zb_t q, zb_t (h.mp q)]
  · rw [zb_f q, zb_f (fun z => q (h.mpr z))]
section Rules12
variable {G : zG} {l : Launch} {k : zY} {d pc bc bs : Nat} {lv : List (Nat × Value)} {st : List Value} {M : zM} {Q : Option Value → zM → Prop}
theorem aj.if_eqB {e : Prop} [Decidable e] {off : Int} {tgt : Nat} (hd : decode k.2.1 pc = .ok (.ifCond .eq off, 3)) (ht : (pc : Int) + off = (tgt : Int)) (h1 : ¬ e → aj G l k d tgt lv st M bc bs Q) (h2 : e → aj G l k d (pc + 3) lv st M bc bs Q) : aj G l k d pc lv (.int (zb e) :: st) M bc bs Q := aj.if_eq hd ht (fun q => h1 (zb_0.mp q)) (fun q => h2 (Classical.byContradiction fun z => q (zb_f z)))
theorem aj.if_neB {e : Prop} [Decidable e] {off : Int} {tgt : Nat} (hd : decode k.2.1 pc = .ok (.ifCond .ne off, 3)) (ht : (pc : Int) + off = (tgt : Int)) (h1 : e → aj G l k d tgt lv st M bc bs Q) (h2 : ¬ e → aj G l k d (pc + 3) lv st M bc bs Q) : aj G l k d pc lv (.int (zb e) :: st) M bc bs Q := aj.if_ne hd ht (fun q => h1 (Classical.byContradiction fun z => q (zb_f z))) (fun q => h2 (zb_0.mp q))
end Rules12
theorem z_i64 (x : Int32) : x.toInt64.toInt = x.toInt := Int32.toInt_toInt64 x
/-- a number within bounds, as a Nat -/
theorem z_nat {x : Int32} {n : Nat} (h0 : 0 ≤ x.toInt) (h1 : x.toInt ≤ n) (hn : n < 2 ^ 31) : ∃ a : Nat, a ≤ n ∧ x = nI a := by
  refine ⟨x.toInt.toNat, by omega, ?_⟩
  apply Int32.toInt_inj.mp
  rw [nI_toInt (by omega)]
  omega
theorem zb_nar (c : Prop) [Decidable c] : narrow .boolean (.int (zb c)) = .int (zb c) := by
  unfold zb
  split <;> rfl
theorem c_within {G : zG} {l : Launch} (M : zM) (v lo hi : Int64) : am G l kX12_within 0 [.long v, .long lo, .long hi] M 0 0 (zr (.int (zb (lo ≤ v ∧ v ≤ hi))) (fun M' => M' = M)) := by
  refine am.of (by decide) (Nat.le_of_ble_eq_true rfl) ?_
  refine aj.lload_n dX12_within_0 rfl ?_
  refine aj.lload_n dX12_within_1 rfl ?_
  refine aj.lif_lt (tgt := 17) dX12_within_2 dX12_within_3 rfl (fun c2 => ?_) (fun c2 => ?_)
  · refine aj.iconst (v := 0) dX12_within_17 rfl ?_
    exact aj.zret (ty := .boolean) rfl rfl dX12_within_18 ⟨by rw [zb_f (fun q => by have q1 := Int64.le_iff_toInt_le.mp q.1; have q2 := Int64.le_iff_toInt_le.mp q.2; simp only [Int64.lt_iff_toInt_lt] at *; omega)], rfl⟩
  · refine aj.lload_n dX12_within_6 rfl ?_
    refine aj.lload dX12_within_7 rfl ?_
    refine aj.lif_gt (tgt := 17) dX12_within_9 dX12_within_10 rfl (fun c9 => ?_) (fun c9 => ?_)
    · refine aj.iconst (v := 0) dX12_within_17 rfl ?_
      exact aj.zret (ty := .boolean) rfl rfl dX12_within_18 ⟨by rw [zb_f (fun q => by have q1 := Int64.le_iff_toInt_le.mp q.1; have q2 := Int64.le_iff_toInt_le.mp q.2; simp only [Int64.lt_iff_toInt_lt] at *; omega)], rfl⟩
    · refine aj.iconst (v := 1) dX12_within_13 rfl ?_
      refine aj.goto (tgt := 18) dX12_within_14 rfl ?_
      exact aj.zret (ty := .boolean) rfl rfl dX12_within_18 ⟨by rw [zb_t ⟨Int64.not_lt.mp ‹¬ v < lo›, Int64.not_lt.mp ‹¬ hi < v›⟩], rfl⟩
theorem c_isPlace {G : zG} {l : Launch} (M : zM) (q : Int64) : am G l kX12_isPlace 1 [.long q] M 0 0 (zr (.int (zb (0 ≤ q ∧ q ≤ 20))) (fun M' => M' = M)) := by
  refine am.of (by decide) (Nat.le_of_ble_eq_true rfl) ?_
  refine aj.lload_n dX12_isPlace_0 rfl ?_
  refine aj.lconst (v := 0) dX12_isPlace_1 rfl ?_
  refine aj.ldc2 dX12_isPlace_2 w1508 ?_
  refine aj.callS1 (d' := 0) (As := [.long q, .long 0, .long 20]) (rest := []) dX12_isPlace_5 v_X12_142 w1380 rfl rfl (Nat.le_of_ble_eq_true rfl) (Nat.le_of_ble_eq_true rfl) (c_within _ q 0 20) (fun M hM => ?_)
  subst hM
  exact aj.zret (ty := .boolean) rfl (zb_nar _) dX12_isPlace_8 ⟨rfl, rfl⟩
theorem c_isLot {G : zG} {l : Launch} (M : zM) (q : Int64) : am G l kX12_isLot 1 [.long q] M 0 0 (zr (.int (zb (0 ≤ q ∧ q ≤ 9))) (fun M' => M' = M)) := by
  refine am.of (by decide) (Nat.le_of_ble_eq_true rfl) ?_
  refine aj.lload_n dX12_isLot_0 rfl ?_
  refine aj.lconst (v := 0) dX12_isLot_1 rfl ?_
  refine aj.ldc2 dX12_isLot_2 w1512 ?_
  refine aj.callS1 (d' := 0) (As := [.long q, .long 0, .long 9]) (rest := []) dX12_isLot_5 v_X12_142 w1380 rfl rfl (Nat.le_of_ble_eq_true rfl) (Nat.le_of_ble_eq_true rfl) (c_within _ q 0 9) (fun M hM => ?_)
  subst hM
  exact aj.zret (ty := .boolean) rfl (zb_nar _) dX12_isLot_8 ⟨rfl, rfl⟩
def mKept (x lo hi : Int32) : Int32 := if x < lo then lo else if hi < x then hi else x
theorem c_kept {G : zG} {l : Launch} (M : zM) (x lo hi : Int32) : am G l kX12_kept 0 [.int x, .int lo, .int hi] M 0 0 (zr (.int (mKept x lo hi)) (fun M' => M' = M)) := by
  refine am.of (by decide) (Nat.le_of_ble_eq_true rfl) ?_
  refine aj.iload_n dX12_kept_0 rfl ?_
  refine aj.iload_n dX12_kept_1 rfl ?_
  refine aj.icmp_ge (tgt := 9) dX12_kept_2 rfl (fun c2 => ?_) (fun c2 => ?_)
  · refine aj.iload_n dX12_kept_9 rfl ?_
    refine aj.iload_n dX12_kept_10 rfl ?_
    refine aj.icmp_le (tgt := 18) dX12_kept_11 rfl (fun c11 => ?_) (fun c11 => ?_)
    · refine aj.iload_n dX12_kept_18 rfl ?_
      exact aj.iret rfl dX12_kept_19 ⟨by simp only [mKept]; (repeat' split) <;> first | rfl | contradiction | (exfalso; simp only [Int32.lt_iff_toInt_lt, Int32.le_iff_toInt_le, ← Int32.toInt_inj] at *; omega), rfl⟩
    · refine aj.iload_n dX12_kept_14 rfl ?_
      refine aj.goto (tgt := 19) dX12_kept_15 rfl ?_
      exact aj.iret rfl dX12_kept_19 ⟨by simp only [mKept]; (repeat' split) <;> first | rfl | contradiction | (exfalso; simp only [Int32.lt_iff_toInt_lt, Int32.le_iff_toInt_le, ← Int32.toInt_inj] at *; omega), rfl⟩
  · refine aj.iload_n dX12_kept_5 rfl ?_
    refine aj.goto (tgt := 19) dX12_kept_6 rfl ?_
    exact aj.iret rfl dX12_kept_19 ⟨by simp only [mKept]; (repeat' split) <;> first | rfl | contradiction | (exfalso; simp only [Int32.lt_iff_toInt_lt, Int32.le_iff_toInt_le, ← Int32.toInt_inj] at *; omega), rfl⟩
theorem c_isSmall {G : zG} {l : Launch} (M : zM) (x : Int32) : am G l kX12_isSmall 0 [.int x] M 0 0 (zr (.int (zb (97 ≤ x ∧ x ≤ 122))) (fun M' => M' = M)) := by
  refine am.of (by decide) (Nat.le_of_ble_eq_true rfl) ?_
  refine aj.iload_n dX12_isSmall_0 rfl ?_
  refine aj.bipush (v := 97) dX12_isSmall_1 rfl ?_
  refine aj.icmp_lt (tgt := 16) dX12_isSmall_3 rfl (fun c3 => ?_) (fun c3 => ?_)
  · refine aj.iconst (v := 0) dX12_isSmall_16 rfl ?_
    exact aj.zret (ty := .boolean) rfl rfl dX12_isSmall_17 ⟨by rw [zb_f (fun q => by simp only [Int32.lt_iff_toInt_lt, Int32.le_iff_toInt_le] at *; omega)], rfl⟩
  · refine aj.iload_n dX12_isSmall_6 rfl ?_
    refine aj.bipush (v := 122) dX12_isSmall_7 rfl ?_
    refine aj.icmp_gt (tgt := 16) dX12_isSmall_9 rfl (fun c9 => ?_) (fun c9 => ?_)
    · refine aj.iconst (v := 0) dX12_isSmall_16 rfl ?_
      exact aj.zret (ty := .boolean) rfl rfl dX12_isSmall_17 ⟨by rw [zb_f (fun q => by simp only [Int32.lt_iff_toInt_lt, Int32.le_iff_toInt_le] at *; omega)], rfl⟩
    · refine aj.iconst (v := 1) dX12_isSmall_12 rfl ?_
      refine aj.goto (tgt := 17) dX12_isSmall_13 rfl ?_
      exact aj.zret (ty := .boolean) rfl rfl dX12_isSmall_17 ⟨by rw [zb_t ⟨by simp only [Int32.lt_iff_toInt_lt, Int32.le_iff_toInt_le] at *; omega, by simp only [Int32.lt_iff_toInt_lt, Int32.le_iff_toInt_le] at *; omega⟩], rfl⟩
theorem c_isDigit {G : zG} {l : Launch} (M : zM) (x : Int32) : am G l kX12_isDigit 0 [.int x] M 0 0 (zr (.int (zb (48 ≤ x ∧ x ≤ 57))) (fun M' => M' = M)) := by
  refine am.of (by decide) (Nat.le_of_ble_eq_true rfl) ?_
  refine aj.iload_n dX12_isDigit_0 rfl ?_
  refine aj.bipush (v := 48) dX12_isDigit_1 rfl ?_
  refine aj.icmp_lt (tgt := 16) dX12_isDigit_3 rfl (fun c3 => ?_) (fun c3 => ?_)
  · refine aj.iconst (v := 0) dX12_isDigit_16 rfl ?_
    exact aj.zret (ty := .boolean) rfl rfl dX12_isDigit_17 ⟨by rw [zb_f (fun q => by simp only [Int32.lt_iff_toInt_lt, Int32.le_iff_toInt_le] at *; omega)], rfl⟩
  · refine aj.iload_n dX12_isDigit_6 rfl ?_
    refine aj.bipush (v := 57) dX12_isDigit_7 rfl ?_
    refine aj.icmp_gt (tgt := 16) dX12_isDigit_9 rfl (fun c9 => ?_) (fun c9 => ?_)
    · refine aj.iconst (v := 0) dX12_isDigit_16 rfl ?_
      exact aj.zret (ty := .boolean) rfl rfl dX12_isDigit_17 ⟨by rw [zb_f (fun q => by simp only [Int32.lt_iff_toInt_lt, Int32.le_iff_toInt_le] at *; omega)], rfl⟩
    · refine aj.iconst (v := 1) dX12_isDigit_12 rfl ?_
      refine aj.goto (tgt := 17) dX12_isDigit_13 rfl ?_
      exact aj.zret (ty := .boolean) rfl rfl dX12_isDigit_17 ⟨by rw [zb_t ⟨by simp only [Int32.lt_iff_toInt_lt, Int32.le_iff_toInt_le] at *; omega, by simp only [Int32.lt_iff_toInt_lt, Int32.le_iff_toInt_le] at *; omega⟩], rfl⟩
/-- how far a place is from the eye -/
def mFar (B : Nat → Int32) (p : Int32) : Int32 := if p < B 1 then B 1 - p else if B 2 < p then p - B 2 else 0
theorem c_farOf {G : zG} {l : Launch} {b : Nat} {M0 M : zM} {I : Nat → Int32} {A : Nat → Nat → Int32} {L : Nat → Nat → Int64} (p : Int32) (hM : mW b M0 M I A L)  : am G l kX12_farOf 0 [.ref b, .int p] M 0 0 (zr (.int (mFar (A 1) p)) (fun M' => mW b M0 M' I A L)) := by
  obtain ⟨u, v, w, hA⟩ := hM
  refine am.of (by decide) (Nat.le_of_ble_eq_true rfl) ?_
  refine aj.iload_n dX12_farOf_0 rfl ?_
  refine aj.aload_n dX12_farOf_1 rfl ?_
  refine gM1 rfl dX12_farOf_2 hA ?_
  refine aj.iconst (v := 1) dX12_farOf_5 rfl ?_
  refine aM1N (i := 1) dX12_farOf_6 hA rfl (by omega) ?_
  refine aj.icmp_ge (tgt := 21) dX12_farOf_7 rfl (fun c7 => ?_) (fun c7 => ?_)
  · refine aj.iload_n dX12_farOf_21 rfl ?_
    refine aj.aload_n dX12_farOf_22 rfl ?_
    refine gM1 rfl dX12_farOf_23 hA ?_
    refine aj.iconst (v := 2) dX12_farOf_26 rfl ?_
    refine aM1N (i := 2) dX12_farOf_27 hA rfl (by omega) ?_
    refine aj.icmp_le (tgt := 42) dX12_farOf_28 rfl (fun c28 => ?_) (fun c28 => ?_)
    · refine aj.iconst (v := 0) dX12_farOf_42 rfl ?_
      exact aj.iret rfl dX12_farOf_43 ⟨by simp only [mFar]; (repeat' split) <;> first | rfl | contradiction | (exfalso; simp only [Int32.lt_iff_toInt_lt, Int32.le_iff_toInt_le, ← Int32.toInt_inj] at *; omega), ⟨_, _, _, hA⟩⟩
    · refine aj.iload_n dX12_farOf_31 rfl ?_
      refine aj.aload_n dX12_farOf_32 rfl ?_
      refine gM1 rfl dX12_farOf_33 hA ?_
      refine aj.iconst (v := 2) dX12_farOf_36 rfl ?_
      refine aM1N (i := 2) dX12_farOf_37 hA rfl (by omega) ?_
      refine aj.isub dX12_farOf_38 ?_
      refine aj.goto (tgt := 43) dX12_farOf_39 rfl ?_
      exact aj.iret rfl dX12_farOf_43 ⟨by simp only [mFar]; (repeat' split) <;> first | rfl | contradiction | (exfalso; simp only [Int32.lt_iff_toInt_lt, Int32.le_iff_toInt_le, ← Int32.toInt_inj] at *; omega), ⟨_, _, _, hA⟩⟩
  · refine aj.aload_n dX12_farOf_10 rfl ?_
    refine gM1 rfl dX12_farOf_11 hA ?_
    refine aj.iconst (v := 1) dX12_farOf_14 rfl ?_
    refine aM1N (i := 1) dX12_farOf_15 hA rfl (by omega) ?_
    refine aj.iload_n dX12_farOf_16 rfl ?_
    refine aj.isub dX12_farOf_17 ?_
    refine aj.goto (tgt := 43) dX12_farOf_18 rfl ?_
    exact aj.iret rfl dX12_farOf_43 ⟨by simp only [mFar]; (repeat' split) <;> first | rfl | contradiction | (exfalso; simp only [Int32.lt_iff_toInt_lt, Int32.le_iff_toInt_le, ← Int32.toInt_inj] at *; omega), ⟨_, _, _, hA⟩⟩
/-- what a shot scores there -/
def mScore (B : Nat → Int32) (p : Int32) (op : Prop) [Decidable op] : Int32 := if mFar B p = 0 then (if op then -(B 5) else 0) else if B 3 - B 4 * (mFar B p - 1) < 0 then 0 else B 3 - B 4 * (mFar B p - 1)
theorem c_scoresAt {G : zG} {l : Launch} {b : Nat} {M0 M : zM} {I : Nat → Int32} {A : Nat → Nat → Int32} {L : Nat → Nat → Int64} (p : Int32) (op : Prop) [Decidable op] (hM : mW b M0 M I A L)  : am G l kX12_scoresAt 1 [.ref b, .int p, .int (zb (op))] M 0 0 (zr (.int (mScore (A 1) p op)) (fun M' => mW b M0 M' I A L)) := by
  obtain ⟨u, v, w, hA⟩ := hM
  refine am.of (by decide) (Nat.le_of_ble_eq_true rfl) ?_
  refine aj.aload_n dX12_scoresAt_0 rfl ?_
  refine aj.iload_n dX12_scoresAt_1 rfl ?_
  refine aj.callV1 (d' := 0) (As := [.int p]) (rest := []) dX12_scoresAt_2 v_X12_233 li_X12_farOf hA.1 rfl rfl rfl (Nat.le_of_ble_eq_true rfl) (Nat.le_of_ble_eq_true rfl) (c_farOf p ⟨_, _, _, hA⟩) (fun M hM => ?_)
  obtain ⟨u, v, w, hA⟩ := hM
  refine aj.istore_n (lv' := [(3, .int (mFar (A 1) p)), (0, .ref b), (1, .int p), (2, .int (zb (op)))]) dX12_scoresAt_5 (Nat.le_of_ble_eq_true rfl) rfl ?_
  refine aj.iload_n dX12_scoresAt_6 rfl ?_
  refine aj.if_ne (tgt := 26) dX12_scoresAt_7 rfl (fun c7 => ?_) (fun c7 => ?_)
  · refine aj.aload_n dX12_scoresAt_26 rfl ?_
    refine gM1 rfl dX12_scoresAt_27 hA ?_
    refine aj.iconst (v := 3) dX12_scoresAt_30 rfl ?_
    refine aM1N (i := 3) dX12_scoresAt_31 hA rfl (by omega) ?_
    refine aj.aload_n dX12_scoresAt_32 rfl ?_
    refine gM1 rfl dX12_scoresAt_33 hA ?_
    refine aj.iconst (v := 4) dX12_scoresAt_36 rfl ?_
    refine aM1N (i := 4) dX12_scoresAt_37 hA rfl (by omega) ?_
    refine aj.iload_n dX12_scoresAt_38 rfl ?_
    refine aj.iconst (v := 1) dX12_scoresAt_39 rfl ?_
    refine aj.isub dX12_scoresAt_40 ?_
    refine aj.imul dX12_scoresAt_41 ?_
    refine aj.isub dX12_scoresAt_42 ?_
    refine aj.istore (lv' := [(4, .int ((A 1 3) - ((A 1 4) * ((mFar (A 1) p) - 1)))), (3, .int (mFar (A 1) p)), (0, .ref b), (1, .int p), (2, .int (zb (op)))]) dX12_scoresAt_43 (Nat.le_of_ble_eq_true rfl) rfl ?_
    refine aj.iload dX12_scoresAt_45 rfl ?_
    refine aj.if_ge (tgt := 54) dX12_scoresAt_47 rfl (fun c47 => ?_) (fun c47 => ?_)
    · refine aj.iload dX12_scoresAt_54 rfl ?_
      exact aj.iret rfl dX12_scoresAt_56 ⟨by simp only [mScore]; (repeat' split) <;> first | rfl | contradiction | (exfalso; simp only [Int32.lt_iff_toInt_lt, Int32.le_iff_toInt_le, ← Int32.toInt_inj] at *; omega), ⟨_, _, _, hA⟩⟩
    · refine aj.iconst (v := 0) dX12_scoresAt_50 rfl ?_
      refine aj.goto (tgt := 56) dX12_scoresAt_51 rfl ?_
      exact aj.iret rfl dX12_scoresAt_56 ⟨by simp only [mScore]; (repeat' split) <;> first | rfl | contradiction | (exfalso; simp only [Int32.lt_iff_toInt_lt, Int32.le_iff_toInt_le, ← Int32.toInt_inj] at *; omega), ⟨_, _, _, hA⟩⟩
  · refine aj.iload_n dX12_scoresAt_10 rfl ?_
    refine aj.if_eqB (tgt := 24) dX12_scoresAt_11 rfl (fun c11 => ?_) (fun c11 => ?_)
    · refine aj.iconst (v := 0) dX12_scoresAt_24 rfl ?_
      exact aj.iret rfl dX12_scoresAt_25 ⟨by simp only [mScore]; (repeat' split) <;> first | rfl | contradiction | (exfalso; simp only [Int32.lt_iff_toInt_lt, Int32.le_iff_toInt_le, ← Int32.toInt_inj] at *; omega), ⟨_, _, _, hA⟩⟩
    · refine aj.aload_n dX12_scoresAt_14 rfl ?_
      refine gM1 rfl dX12_scoresAt_15 hA ?_
      refine aj.iconst (v := 5) dX12_scoresAt_18 rfl ?_
      refine aM1N (i := 5) dX12_scoresAt_19 hA rfl (by omega) ?_
      refine aj.ineg dX12_scoresAt_20 ?_
      refine aj.goto (tgt := 25) dX12_scoresAt_21 rfl ?_
      exact aj.iret rfl dX12_scoresAt_25 ⟨by simp only [mScore]; (repeat' split) <;> first | rfl | contradiction | (exfalso; simp only [Int32.lt_iff_toInt_lt, Int32.le_iff_toInt_le, ← Int32.toInt_inj] at *; omega), ⟨_, _, _, hA⟩⟩
