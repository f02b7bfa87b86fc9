/-- cells that no call leaves for the next -/
abbrev sc (i : Nat) : Prop := i = 11 ∨ i = 12 ∨ i = 13 ∨ (50 ≤ i ∧ i ≤ 56) ∨ 71 ≤ i
def kW (a : Nat) (M0 M : zM) (V0 : Nat → Nat → Int32) (W0 : Nat → Nat → Int64) (R : Nat → Nat → Option Nat) : Prop := ∃ V W, kA a M0 M V W R ∧ (∀ i, ¬ sc i → V i = V0 i) ∧ ∀ i, ¬ sc i → W i = W0 i
/-- the class's number of a word; a step of a law -/
def cwN (w : Nat) : Nat := if w = 0 then 4 else if w < 5 then w - 1 else w
def enc (c : Nat) : Int32 := if c < 1000 then nI c else if c < 3000 then -11 - nI (cwN (c - 1000)) else if c = 3000 then -1 else if c = 3001 then -2 else if c = 3002 then -3 else if c = 3003 then -4 else if c = 3004 then -5 else if c = 3005 then -6 else if c = 3006 then -9 else if c = 3007 then -7 else if c = 3008 then -8 else -10
def ia (M : zM) (p n : Nat) (f : Nat → Int32) : Prop := ∃ g, M.1 p = some (.inl (0, n, .inl g)) ∧ ∀ j, j < n → g j = f j
/-- a law's object -/
def lW (a : Nat) (M : zM) (p : Option Nat) (o : Option (List Nat)) : Prop := match p, o with
  | none, none => True
  | some p, some cs => ∃ q, kOut a p ∧ kOut a q ∧ M.1 p = some (.inr (2, [.ref q, .int (zb (1004 ∈ cs))])) ∧ ia M q cs.length (fun j => enc (cs.getD j 0)) ∧ cs.length < 2 ^ 31
  | _, _ => False
/-- a butt's object -/
def bW (a : Nat) (M : zM) (t : Nat) (B : Nat → Int32) (sl ol : Option (List Nat)) : Prop := ∃ y wd l1 l2, kOut a t ∧ kOut a y ∧ M.1 t = some (.inr (0, [.int (B 1), .int (B 2), .int (B 3), .int (B 4), .int (B 5), .int wd, .int (B 0), .int (B 6), .ref y, va_rf l1, va_rf l2])) ∧ ia M y 4 (fun s => B (13 + s)) ∧ lW a M l1 sl ∧ lW a M l2 ol
theorem ia.of {M M' : zM} {p n : Nat} {f : Nat → Int32} (h : ia M p n f) (e : M'.1 p = M.1 p) : ia M' p n f := by
  obtain ⟨g, h1, h2⟩ := h
  exact ⟨g, e.trans h1, h2⟩
theorem lW.of {a : Nat} {M M' : zM} {p : Option Nat} {o : Option (List Nat)} (h : lW a M p o) (e : ∀ q, kOut a q → (∃ c, M.1 q = some c) → M'.1 q = M.1 q) : lW a M' p o := by
  match p, o, h with
  | none, none, _ => trivial
  | some p, some cs, h =>
    obtain ⟨q, h1, h2, h3, h4, h5⟩ := h
    have h4' := h4
    obtain ⟨g, h6, -⟩ := h4'
    exact ⟨q, h1, h2, (e p h1 ⟨_, h3⟩).trans h3, h4.of (e q h2 ⟨_, h6⟩), h5⟩
theorem bW.of {a : Nat} {M M' : zM} {t : Nat} {B : Nat → Int32} {sl ol : Option (List Nat)} (h : bW a M t B sl ol) (e : ∀ q, kOut a q → (∃ c, M.1 q = some c) → M'.1 q = M.1 q) : bW a M' t B sl ol := by
  obtain ⟨y, wd, l1, l2, h1, h2, h3, h4, h5, h6⟩ := h
  have h4' := h4
  obtain ⟨g, h7, -⟩ := h4'
  exact ⟨y, wd, l1, l2, h1, h2, (e t h1 ⟨_, h3⟩).trans h3, h4.of (e y h2 ⟨_, h7⟩), h5.of e, h6.of e⟩
theorem kA.bw {a : Nat} {M0 M : zM} {V : Nat → Nat → Int32} {W : Nat → Nat → Int64} {R : Nat → Nat → Option Nat} (hA : kA a M0 M V W R) {t : Nat} {B : Nat → Int32} {sl ol : Option (List Nat)} (h : bW a M0 t B sl ol) : bW a M t B sl ol := h.of (fun q hq _ => hA.2.1 q hq)
def kSt (o : Nat) : Prop := kd o = (17, 0) ∧ kd (o + 1) = (0, 4) ∧ kd (o + 2) = (0, 4)
def kTr (o : Nat) : Prop := kd o = (20, 0) ∧ kd (o + 1) = (1, 40)
theorem kSt_h : ∀ j, j < 10 → kSt (16 + 3 * j) := by unfold kSt; decide
theorem kSt_i : ∀ j, j < 2 → kSt (65 + 3 * j) := by unfold kSt; decide
theorem kTr_j : ∀ j, j < 4 → kTr (57 + 2 * j) := by unfold kTr; decide
theorem kA.obj {a : Nat} {M0 M : zM} {V : Nat → Nat → Int32} {W : Nat → Nat → Int64} {R : Nat → Nat → Option Nat} (h : kA a M0 M V W R) {i : Nat} {f : Nat → Int32} (hk : kd i = (17, 0)) (e0 : f 0 = V i 0) (e1 : f 1 = V i 1) (e2 : f 2 = V i 2) : kA a M0 M (va_up V i f) W R := by
  refine ⟨h.1, h.2.1, fun j hj => ?_⟩
  obtain ⟨c, h1, h2⟩ := h.2.2 j hj
  refine ⟨c, h1, ?_⟩
  by_cases q : j = i
  · subst q
    rw [va_up_self]
    refine (kP_o hk (by decide)).mpr (((kP_o hk (by decide)).mp h2).trans ?_)
    show (Sum.inr (7, [_, _, .int (V j 0), .int (V j 1), .int (V j 2)]) : zC) = Sum.inr (7, [_, _, .int (f 0), .int (f 1), .int (f 2)])
    rw [e0, e1, e2]
  · rw [va_up_ne _ _ q]; exact h2
/-- one state told as another -/
def cpS (V : Nat → Nat → Int32) (p q : Nat) : Nat → Nat → Int32 := va_up (va_up (va_up V p (V q)) (p + 1) (V (q + 1))) (p + 2) (V (q + 2))
theorem cpS_0 {V : Nat → Nat → Int32} {p q : Nat} : cpS V p q p = V q := by unfold cpS; rw [va_up_ne _ _ (by omega), va_up_ne _ _ (by omega), va_up_self]
theorem cpS_1 {V : Nat → Nat → Int32} {p q : Nat} : cpS V p q (p + 1) = V (q + 1) := by unfold cpS; rw [va_up_ne _ _ (by omega), va_up_self]
theorem cpS_2 {V : Nat → Nat → Int32} {p q : Nat} : cpS V p q (p + 2) = V (q + 2) := by unfold cpS; rw [va_up_self]
theorem cpS_n {V : Nat → Nat → Int32} {p q i : Nat} (h : i < p ∨ p + 3 ≤ i) : cpS V p q i = V i := by unfold cpS; rw [va_up_ne _ _ (by omega), va_up_ne _ _ (by omega), va_up_ne _ _ (by omega)]
section BR
variable {a : Nat} {M : zM} {t : Nat} {B : Nat → Int32} {sl ol : Option (List Nat)} {G : zG} {l : Launch} {k : zY} {d pc bc bs : Nat} {lv : List (Nat × Value)} {st : List Value} {Q : Option Value → zM → Prop}
theorem gB_from {idx : Nat} (hb : bW a M t B sl ol) (hl : Cond.fieldLink k.1.cls idx (TX0 0).1 (TX0 0).2.1 (TX0 0).2.2.1 ∈ z_W) (hd : decode k.2.1 pc = .ok (.getfield idx, 3)) (h : aj G l k d (pc + 3) lv (.int (B 1) :: st) M bc bs Q) : aj G l k d pc lv (.ref t :: st) M bc bs Q := by
  obtain ⟨y, wd, l1, l2, h1, h2, h3, h4, h5, h6⟩ := hb
  exact aj.get (i := 0) (cq := (RX0, TX0, 11)) hd h3 rfl (Nat.le_of_ble_eq_true rfl) hl rfl h
theorem gB_to {idx : Nat} (hb : bW a M t B sl ol) (hl : Cond.fieldLink k.1.cls idx (TX0 1).1 (TX0 1).2.1 (TX0 1).2.2.1 ∈ z_W) (hd : decode k.2.1 pc = .ok (.getfield idx, 3)) (h : aj G l k d (pc + 3) lv (.int (B 2) :: st) M bc bs Q) : aj G l k d pc lv (.ref t :: st) M bc bs Q := by
  obtain ⟨y, wd, l1, l2, h1, h2, h3, h4, h5, h6⟩ := hb
  exact aj.get (i := 1) (cq := (RX0, TX0, 11)) hd h3 rfl (Nat.le_of_ble_eq_true rfl) hl rfl h
theorem gB_top {idx : Nat} (hb : bW a M t B sl ol) (hl : Cond.fieldLink k.1.cls idx (TX0 2).1 (TX0 2).2.1 (TX0 2).2.2.1 ∈ z_W) (hd : decode k.2.1 pc = .ok (.getfield idx, 3)) (h : aj G l k d (pc + 3) lv (.int (B 3) :: st) M bc bs Q) : aj G l k d pc lv (.ref t :: st) M bc bs Q := by
  obtain ⟨y, wd, l1, l2, h1, h2, h3, h4, h5, h6⟩ := hb
  exact aj.get (i := 2) (cq := (RX0, TX0, 11)) hd h3 rfl (Nat.le_of_ble_eq_true rfl) hl rfl h
theorem gB_falls {idx : Nat} (hb : bW a M t B sl ol) (hl : Cond.fieldLink k.1.cls idx (TX0 3).1 (TX0 3).2.1 (TX0 3).2.2.1 ∈ z_W) (hd : decode k.2.1 pc = .ok (.getfield idx, 3)) (h : aj G l k d (pc + 3) lv (.int (B 4) :: st) M bc bs Q) : aj G l k d pc lv (.ref t :: st) M bc bs Q := by
  obtain ⟨y, wd, l1, l2, h1, h2, h3, h4, h5, h6⟩ := hb
  exact aj.get (i := 3) (cq := (RX0, TX0, 11)) hd h3 rfl (Nat.le_of_ble_eq_true rfl) hl rfl h
theorem gB_cost {idx : Nat} (hb : bW a M t B sl ol) (hl : Cond.fieldLink k.1.cls idx (TX0 4).1 (TX0 4).2.1 (TX0 4).2.2.1 ∈ z_W) (hd : decode k.2.1 pc = .ok (.getfield idx, 3)) (h : aj G l k d (pc + 3) lv (.int (B 5) :: st) M bc bs Q) : aj G l k d pc lv (.ref t :: st) M bc bs Q := by
  obtain ⟨y, wd, l1, l2, h1, h2, h3, h4, h5, h6⟩ := hb
  exact aj.get (i := 4) (cq := (RX0, TX0, 11)) hd h3 rfl (Nat.le_of_ble_eq_true rfl) hl rfl h
theorem gB_lines {idx : Nat} (hb : bW a M t B sl ol) (hl : Cond.fieldLink k.1.cls idx (TX0 6).1 (TX0 6).2.1 (TX0 6).2.2.1 ∈ z_W) (hd : decode k.2.1 pc = .ok (.getfield idx, 3)) (h : aj G l k d (pc + 3) lv (.int (B 0) :: st) M bc bs Q) : aj G l k d pc lv (.ref t :: st) M bc bs Q := by
  obtain ⟨y, wd, l1, l2, h1, h2, h3, h4, h5, h6⟩ := hb
  exact aj.get (i := 6) (cq := (RX0, TX0, 11)) hd h3 rfl (Nat.le_of_ble_eq_true rfl) hl rfl h
theorem gB_shooterCount {idx : Nat} (hb : bW a M t B sl ol) (hl : Cond.fieldLink k.1.cls idx (TX0 7).1 (TX0 7).2.1 (TX0 7).2.2.1 ∈ z_W) (hd : decode k.2.1 pc = .ok (.getfield idx, 3)) (h : aj G l k d (pc + 3) lv (.int (B 6) :: st) M bc bs Q) : aj G l k d pc lv (.ref t :: st) M bc bs Q := by
  obtain ⟨y, wd, l1, l2, h1, h2, h3, h4, h5, h6⟩ := hb
  exact aj.get (i := 7) (cq := (RX0, TX0, 11)) hd h3 rfl (Nat.le_of_ble_eq_true rfl) hl rfl h
theorem gB_shakes {idx : Nat} (hb : bW a M t B sl ol) (hl : Cond.fieldLink k.1.cls idx (TX0 8).1 (TX0 8).2.1 (TX0 8).2.2.1 ∈ z_W) (hd : decode k.2.1 pc = .ok (.getfield idx, 3)) (h : ∀ y, ia M y 4 (fun s => B (13 + s)) → aj G l k d (pc + 3) lv (.ref y :: st) M bc bs Q) : aj G l k d pc lv (.ref t :: st) M bc bs Q := by
  obtain ⟨y, wd, l1, l2, h1, h2, h3, h4, h5, h6⟩ := hb
  exact aj.get (i := 8) (cq := (RX0, TX0, 11)) hd h3 rfl (Nat.le_of_ble_eq_true rfl) hl rfl (h y h4)
theorem gB_strays {idx : Nat} (hb : bW a M t B sl ol) (hl : Cond.fieldLink k.1.cls idx (TX0 9).1 (TX0 9).2.1 (TX0 9).2.2.1 ∈ z_W) (hd : decode k.2.1 pc = .ok (.getfield idx, 3)) (h : ∀ p, lW a M p sl → aj G l k d (pc + 3) lv (va_rf p :: st) M bc bs Q) : aj G l k d pc lv (.ref t :: st) M bc bs Q := by
  obtain ⟨y, wd, l1, l2, h1, h2, h3, h4, h5, h6⟩ := hb
  exact aj.get (i := 9) (cq := (RX0, TX0, 11)) hd h3 rfl (Nat.le_of_ble_eq_true rfl) hl rfl (h l1 h5)
theorem gB_opens {idx : Nat} (hb : bW a M t B sl ol) (hl : Cond.fieldLink k.1.cls idx (TX0 10).1 (TX0 10).2.1 (TX0 10).2.2.1 ∈ z_W) (hd : decode k.2.1 pc = .ok (.getfield idx, 3)) (h : ∀ p, lW a M p ol → aj G l k d (pc + 3) lv (va_rf p :: st) M bc bs Q) : aj G l k d pc lv (.ref t :: st) M bc bs Q := by
  obtain ⟨y, wd, l1, l2, h1, h2, h3, h4, h5, h6⟩ := hb
  exact aj.get (i := 10) (cq := (RX0, TX0, 11)) hd h3 rfl (Nat.le_of_ble_eq_true rfl) hl rfl (h l2 h6)
theorem bW.ob (hb : bW a M t B sl ol) : ∃ fs, M.1 t = some (.inr (0, fs)) := by
  obtain ⟨y, wd, l1, l2, h1, h2, h3, h4, h5, h6⟩ := hb
  exact ⟨_, h3⟩
theorem aj.iaL {p n j : Nat} {f : Nat → Int32} {x : Int32} (h0 : ia M p n f) (hd : decode k.2.1 pc = .ok (.iaload, 1)) (hx : x = nI j) (hj : j < n) (hn : n < 2 ^ 31) (h : aj G l k d (pc + 1) lv (.int (f j) :: st) M bc bs Q) : aj G l k d pc lv (.int x :: .ref p :: st) M bc bs Q := by
  obtain ⟨g, h1, h2⟩ := h0
  subst hx
  exact aj.iald hd h1 (vp_in_nI hj hn) (by rw [nI_clamp (Nat.lt_trans hj hn), h2 j hj]; exact h)
theorem aj.iaN {p n : Nat} {f : Nat → Int32} (h0 : ia M p n f) (hd : decode k.2.1 pc = .ok (.arraylength, 1)) (h : aj G l k d (pc + 1) lv (.int (nI n) :: st) M bc bs Q) : aj G l k d pc lv (.ref p :: st) M bc bs Q := by
  obtain ⟨g, h1, h2⟩ := h0
  exact aj.alen (v := nI n) hd h1 (by decide) rfl h
end BR
section KT
variable {a : Nat} {M0 M : zM} {V : Nat → Nat → Int32} {W : Nat → Nat → Int64} {R : Nat → Nat → Option Nat} {T : Nat} {G : zG} {l : Launch} {k : zY} {d pc bc bs : Nat} {lv : List (Nat × Value)} {st : List Value} {Q : Option Value → zM → Prop}
theorem gT {idx : Nat} (hT : R 0 0 = some T) (hA : kA a M0 M V W R) (hl : Cond.fieldLink k.1.cls idx (TX11 3).1 (TX11 3).2.1 (TX11 3).2.2.1 ∈ z_W) (hd : decode k.2.1 pc = .ok (.getfield idx, 3)) (h : aj G l k d (pc + 3) lv (.ref T :: st) M bc bs Q) : aj G l k d pc lv (.ref a :: st) M bc bs Q := gX11_target (i := 0) rfl hA hl hd (by rw [hT]; exact h)
end KT
theorem k_shakeOf {G : zG} {l : Launch} {a : Nat} {M : zM} {t : Nat} {B : Nat → Int32} {sl ol : Option (List Nat)} (s : Nat) {x_s : Int32} (e_s : x_s = nI s) (hs : s < 4) (hb : bW a M t B sl ol) : am G l kX0_shakeOf 0 [.ref t, .int x_s] M 0 0 (zr (.int (B (13 + s))) (fun M' => M' = M)) := by
  refine am.of (by decide) (Nat.le_of_ble_eq_true rfl) ?_
  refine aj.iload_n dX0_shakeOf_0 rfl ?_
  refine aj.if_ltN (a := s) (tgt := 22) dX0_shakeOf_1 e_s (by omega) rfl ?_
  refine aj.iload_n dX0_shakeOf_4 rfl ?_
  refine aj.aload_n dX0_shakeOf_5 rfl ?_
  refine gB_shakes hb w227 dX0_shakeOf_6 (fun y hy => ?_)
  refine aj.iaN hy dX0_shakeOf_9 ?_
  refine aj.icmp_geN (a := s) (b := 4) (tgt := 22) dX0_shakeOf_10 e_s rfl (by omega) (by omega) rfl (fun c10 => ?_) (fun c10 => ?_)
  · exact absurd c10 (by omega)
  · refine aj.aload_n dX0_shakeOf_13 rfl ?_
    refine gB_shakes hb w227 dX0_shakeOf_14 (fun y hy => ?_)
    refine aj.iload_n dX0_shakeOf_17 rfl ?_
    refine aj.iaL (j := s) hy dX0_shakeOf_18 e_s (by omega) (by decide) ?_
    refine aj.goto (tgt := 23) dX0_shakeOf_19 rfl ?_
    exact aj.iret rfl dX0_shakeOf_23 ⟨rfl, rfl⟩
theorem k_distance {G : zG} {l : Launch} {a : Nat} {M : zM} {t : Nat} {B : Nat → Int32} {sl ol : Option (List Nat)} (p : Int32) (hb : bW a M t B sl ol) : am G l kX0_distance 0 [.ref t, .int p] M 0 0 (zr (.int (mFar B p)) (fun M' => M' = M)) := by
  refine am.of (by decide) (Nat.le_of_ble_eq_true rfl) ?_
  refine aj.iload_n dX0_distance_0 rfl ?_
  refine aj.aload_n dX0_distance_1 rfl ?_
  refine gB_from hb w203 dX0_distance_2 ?_
  refine aj.icmp_ge (tgt := 15) dX0_distance_5 rfl (fun c5 => ?_) (fun c5 => ?_)
  · refine aj.iload_n dX0_distance_15 rfl ?_
    refine aj.aload_n dX0_distance_16 rfl ?_
    refine gB_to hb w206 dX0_distance_17 ?_
    refine aj.icmp_le (tgt := 32) dX0_distance_20 rfl (fun c20 => ?_) (fun c20 => ?_)
    · refine aj.iconst (v := 0) dX0_distance_32 rfl ?_
      exact aj.iret rfl dX0_distance_33 ⟨by simp only [mFar]; (repeat' split) <;> first | rfl | contradiction | (exfalso; simp only [Int32.lt_iff_toInt_lt, Int32.le_iff_toInt_le, ← Int32.toInt_inj] at *; omega), rfl⟩
    · refine aj.iload_n dX0_distance_23 rfl ?_
      refine aj.aload_n dX0_distance_24 rfl ?_
      refine gB_to hb w206 dX0_distance_25 ?_
      refine aj.isub dX0_distance_28 ?_
      refine aj.goto (tgt := 33) dX0_distance_29 rfl ?_
      exact aj.iret rfl dX0_distance_33 ⟨by simp only [mFar]; (repeat' split) <;> first | rfl | contradiction | (exfalso; simp only [Int32.lt_iff_toInt_lt, Int32.le_iff_toInt_le, ← Int32.toInt_inj] at *; omega), rfl⟩
  · refine aj.aload_n dX0_distance_8 rfl ?_
    refine gB_from hb w203 dX0_distance_9 ?_
    refine aj.iload_n dX0_distance_12 rfl ?_
    refine aj.isub dX0_distance_13 ?_
    exact aj.iret rfl dX0_distance_14 ⟨by simp only [mFar]; (repeat' split) <;> first | rfl | contradiction | (exfalso; simp only [Int32.lt_iff_toInt_lt, Int32.le_iff_toInt_le, ← Int32.toInt_inj] at *; omega), rfl⟩
theorem iMax_0 (x : Int32) : iMax 0 x = if x < 0 then 0 else x := by
  unfold iMax
  by_cases h : (0 : Int32) < x
  · rw [if_pos h, if_neg (by simp only [Int32.lt_iff_toInt_lt] at *; omega)]
  · rw [if_neg h]
    by_cases h2 : x < 0
    · rw [if_pos h2]
    · rw [if_neg h2]
      exact Int32.toInt_inj.mp (by simp only [Int32.lt_iff_toInt_lt] at *; have e0 : (0 : Int32).toInt = 0 := rfl; omega)
theorem k_worth {G : zG} {l : Launch} {a : Nat} {M : zM} {t : Nat} {B : Nat → Int32} {sl ol : Option (List Nat)} (p : Int32) (op : Prop) [Decidable op] (hb : bW a M t B sl ol) : am G l kX0_worth 1 [.ref t, .int p, .int (zb (op))] M 0 0 (zr (.int (mScore B p op)) (fun M' => M' = M)) := by
  refine am.of (by decide) (Nat.le_of_ble_eq_true rfl) ?_
  refine aj.aload_n dX0_worth_0 rfl ?_
  refine aj.iload_n dX0_worth_1 rfl ?_
  refine aj.callE1 (d' := 0) (As := [.int p]) (rest := []) dX0_worth_2 v_X0_47 li_X0_distance hb.ob rfl rfl rfl (Nat.le_of_ble_eq_true rfl) (Nat.le_of_ble_eq_true rfl) (k_distance p hb) (fun M hM => ?_)
  subst hM
  refine aj.istore_n (lv' := [(3, .int (mFar B p)), (0, .ref t), (1, .int p), (2, .int (zb (op)))]) dX0_worth_5 (Nat.le_of_ble_eq_true rfl) rfl ?_
  refine aj.iload_n dX0_worth_6 rfl ?_
  refine aj.if_ne (tgt := 24) dX0_worth_7 rfl (fun c7 => ?_) (fun c7 => ?_)
  · refine aj.iconst (v := 0) dX0_worth_24 rfl ?_
    refine aj.aload_n dX0_worth_25 rfl ?_
    refine gB_top hb w209 dX0_worth_26 ?_
    refine aj.aload_n dX0_worth_29 rfl ?_
    refine gB_falls hb w212 dX0_worth_30 ?_
    refine aj.iload_n dX0_worth_33 rfl ?_
    refine aj.iconst (v := 1) dX0_worth_34 rfl ?_
    refine aj.isub dX0_worth_35 ?_
    refine aj.imul dX0_worth_36 ?_
    refine aj.isub dX0_worth_37 ?_
    refine aj.mmax dX0_worth_38 w818 (Nat.le_of_ble_eq_true rfl) (Nat.le_of_ble_eq_true rfl) ?_
    exact aj.iret rfl dX0_worth_41 ⟨by unfold mScore; rw [if_neg c7, ← iMax_0], rfl⟩
  · refine aj.iload_n dX0_worth_10 rfl ?_
    refine aj.if_eqB (tgt := 22) dX0_worth_11 rfl (fun c11 => ?_) (fun c11 => ?_)
    · refine aj.iconst (v := 0) dX0_worth_22 rfl ?_
      exact aj.iret rfl dX0_worth_23 ⟨by unfold mScore; rw [if_pos c7, if_neg c11], rfl⟩
    · refine aj.aload_n dX0_worth_14 rfl ?_
      refine gB_cost hb w215 dX0_worth_15 ?_
      refine aj.ineg dX0_worth_18 ?_
      refine aj.goto (tgt := 23) dX0_worth_19 rfl ?_
      exact aj.iret rfl dX0_worth_23 ⟨by unfold mScore; rw [if_pos c7, if_pos c11], rfl⟩
theorem k_pointsOf {G : zG} {l : Launch} {a : Nat} {M0 M : zM} {V : Nat → Nat → Int32} {W : Nat → Nat → Int64} {R : Nat → Nat → Option Nat} {o : Nat} (hs : kSt o) (s : Nat) {x_s : Int32} (e_s : x_s = nI s) (hs4 : s < 4) (hA : kA a M0 M V W R) : am G l kX7_pointsOf 0 [.ref (a + o), .int x_s] M 0 0 (zr (.int (V (o + 1) s)) (fun M' => M' = M)) := by
  refine am.of (by decide) (Nat.le_of_ble_eq_true rfl) ?_
  refine aj.iload_n dX7_pointsOf_0 rfl ?_
  refine aj.if_ltN (a := s) (tgt := 22) dX7_pointsOf_1 e_s (by omega) rfl ?_
  refine aj.iload_n dX7_pointsOf_4 rfl ?_
  refine aj.aload_n dX7_pointsOf_5 rfl ?_
  refine gX7_points (i := o) hs.1 hA w264 dX7_pointsOf_6 ?_
  refine aj.kN (i := (o + 1)) (n := 4) (v := nI 4) hs.2.1 (by decide) (by decide) dX7_pointsOf_9 hA rfl ?_
  refine aj.icmp_geN (a := s) (b := 4) (tgt := 22) dX7_pointsOf_10 e_s rfl (by omega) (by omega) rfl (fun c10 => ?_) (fun c10 => ?_)
  · exact absurd c10 (by omega)
  · refine aj.aload_n dX7_pointsOf_13 rfl ?_
    refine gX7_points (i := o) hs.1 hA w264 dX7_pointsOf_14 ?_
    refine aj.iload_n dX7_pointsOf_17 rfl ?_
    refine aj.kL (i := (o + 1)) (j := s) hs.2.1 dX7_pointsOf_18 hA e_s (by omega) (by decide) ?_
    refine aj.goto (tgt := 23) dX7_pointsOf_19 rfl ?_
    exact aj.iret rfl dX7_pointsOf_23 ⟨rfl, rfl⟩
theorem k_ageOf {G : zG} {l : Launch} {a : Nat} {M0 M : zM} {V : Nat → Nat → Int32} {W : Nat → Nat → Int64} {R : Nat → Nat → Option Nat} {o : Nat} (hs : kSt o) (s : Nat) {x_s : Int32} (e_s : x_s = nI s) (hs4 : s < 4) (hA : kA a M0 M V W R) : am G l kX7_ageOf 0 [.ref (a + o), .int x_s] M 0 0 (zr (.int (V (o + 2) s)) (fun M' => M' = M)) := by
  refine am.of (by decide) (Nat.le_of_ble_eq_true rfl) ?_
  refine aj.iload_n dX7_ageOf_0 rfl ?_
  refine aj.if_ltN (a := s) (tgt := 22) dX7_ageOf_1 e_s (by omega) rfl ?_
  refine aj.iload_n dX7_ageOf_4 rfl ?_
  refine aj.aload_n dX7_ageOf_5 rfl ?_
  refine gX7_ages (i := o) hs.1 hA w265 dX7_ageOf_6 ?_
  refine aj.kN (i := (o + 2)) (n := 4) (v := nI 4) hs.2.2 (by decide) (by decide) dX7_ageOf_9 hA rfl ?_
  refine aj.icmp_geN (a := s) (b := 4) (tgt := 22) dX7_ageOf_10 e_s rfl (by omega) (by omega) rfl (fun c10 => ?_) (fun c10 => ?_)
  · exact absurd c10 (by omega)
  · refine aj.aload_n dX7_ageOf_13 rfl ?_
    refine gX7_ages (i := o) hs.1 hA w265 dX7_ageOf_14 ?_
    refine aj.iload_n dX7_ageOf_17 rfl ?_
    refine aj.kL (i := (o + 2)) (j := s) hs.2.2 dX7_ageOf_18 hA e_s (by omega) (by decide) ?_
    refine aj.goto (tgt := 23) dX7_ageOf_19 rfl ?_
    exact aj.iret rfl dX7_ageOf_23 ⟨rfl, rfl⟩
theorem k_addShot {G : zG} {l : Launch} {a : Nat} {M0 M : zM} {V : Nat → Nat → Int32} {W : Nat → Nat → Int64} {R : Nat → Nat → Option Nat} {o : Nat} (hs : kSt o) (s : Nat) {x_s : Int32} (e_s : x_s = nI s) (x : Int32) (hs4 : s < 4) (hA : kA a M0 M V W R) : am G l kX7_addShot 1 [.ref (a + o), .int x_s, .int x] M 0 0 (zv (fun M' => kA a M0 M' (va_up (va_up V (o + 1) (upd (V (o + 1)) s (V (o + 1) s + x))) (o + 2) (upd (V (o + 2)) s (iMin 9 (V (o + 2) s + 1)))) W R)) := by
  refine am.of (by decide) (Nat.le_of_ble_eq_true rfl) ?_
  refine aj.iload_n dX7_addShot_0 rfl ?_
  refine aj.if_ltN (a := s) (tgt := 51) dX7_addShot_1 e_s (by omega) rfl ?_
  refine aj.iload_n dX7_addShot_4 rfl ?_
  refine aj.aload_n dX7_addShot_5 rfl ?_
  refine gX7_points (i := o) hs.1 hA w264 dX7_addShot_6 ?_
  refine aj.kN (i := (o + 1)) (n := 4) (v := nI 4) hs.2.1 (by decide) (by decide) dX7_addShot_9 hA rfl ?_
  refine aj.icmp_geN (a := s) (b := 4) (tgt := 51) dX7_addShot_10 e_s rfl (by omega) (by omega) rfl (fun c10 => ?_) (fun c10 => ?_)
  · exact absurd c10 (by omega)
  · refine aj.iload_n dX7_addShot_13 rfl ?_
    refine aj.aload_n dX7_addShot_14 rfl ?_
    refine gX7_ages (i := o) hs.1 hA w265 dX7_addShot_15 ?_
    refine aj.kN (i := (o + 2)) (n := 4) (v := nI 4) hs.2.2 (by decide) (by decide) dX7_addShot_18 hA rfl ?_
    refine aj.icmp_geN (a := s) (b := 4) (tgt := 51) dX7_addShot_19 e_s rfl (by omega) (by omega) rfl (fun c19 => ?_) (fun c19 => ?_)
    · exact absurd c19 (by omega)
    · refine aj.aload_n dX7_addShot_22 rfl ?_
      refine gX7_points (i := o) hs.1 hA w264 dX7_addShot_23 ?_
      refine aj.iload_n dX7_addShot_26 rfl ?_
      refine aj.dup2 dX7_addShot_27 rfl rfl ?_
      refine aj.kL (i := (o + 1)) (j := s) hs.2.1 dX7_addShot_28 hA e_s (by omega) (by decide) ?_
      refine aj.iload_n dX7_addShot_29 rfl ?_
      refine aj.iadd dX7_addShot_30 ?_
      refine aj.kS (i := (o + 1)) (j := s) hs.2.1 dX7_addShot_31 hA e_s (by omega) (by decide) (fun M hA => ?_)
      obtain ⟨V', eV⟩ : ∃ z, z = va_up V (o + 1) (upd (V (o + 1)) s (V (o + 1) s + x)) := ⟨_, rfl⟩
      rw [← eV] at hA
      have e2 : V' (o + 2) = V (o + 2) := by rw [eV, va_up_ne _ _ (by omega)]
      refine aj.aload_n dX7_addShot_32 rfl ?_
      refine gX7_ages (i := o) hs.1 hA w265 dX7_addShot_33 ?_
      refine aj.iload_n dX7_addShot_36 rfl ?_
      refine aj.bipush (v := 9) dX7_addShot_37 rfl ?_
      refine aj.aload_n dX7_addShot_39 rfl ?_
      refine gX7_ages (i := o) hs.1 hA w265 dX7_addShot_40 ?_
      refine aj.iload_n dX7_addShot_43 rfl ?_
      refine aj.kL (i := (o + 2)) (j := s) hs.2.2 dX7_addShot_44 hA e_s (by omega) (by decide) ?_
      refine aj.iconst (v := 1) dX7_addShot_45 rfl ?_
      refine aj.iadd dX7_addShot_46 ?_
      refine aj.mmin dX7_addShot_47 w849 (Nat.le_of_ble_eq_true rfl) (Nat.le_of_ble_eq_true rfl) ?_
      refine aj.kS (i := (o + 2)) (j := s) hs.2.2 dX7_addShot_50 hA e_s (by omega) (by decide) (fun M hA => ?_)
      rw [e2, eV] at hA
      exact aj.vret rfl dX7_addShot_51 ⟨rfl, hA⟩
theorem copyFrom_loop {G : zG} {l : Launch} {a : Nat} {M0 : zM} {V : Nat → Nat → Int32} {W : Nat → Nat → Int64} {R : Nat → Nat → Option Nat} {p q : Nat} (hp : kSt p) (hq : kSt q) (hd : p + 3 ≤ q ∨ q + 3 ≤ p) : ∀ (n i : Nat) (M : zM), i + n = 4 → kA a M0 M (va_up (va_up V (p + 1) (va_cpy (V (q + 1)) (V (p + 1)) 0 0 i)) (p + 2) (va_cpy (V (q + 2)) (V (p + 2)) 0 0 i)) W R → aj G l kX7_copyFrom 0 2 [(2, .int (nI i)), (0, .ref (a + p)), (1, .ref (a + q))] [] M 0 0 (zv (fun M' => kA a M0 M' (cpS V p q) W R)) := by
  intro n
  induction n with
  | zero =>
    intro i M hin hA
    obtain ⟨V1, eV⟩ : ∃ z, z = va_up (va_up V (p + 1) (va_cpy (V (q + 1)) (V (p + 1)) 0 0 i)) (p + 2) (va_cpy (V (q + 2)) (V (p + 2)) 0 0 i) := ⟨_, rfl⟩
    rw [← eV] at hA
    have q0 : V1 q = V q := by rw [eV, va_up_ne _ _ (by omega), va_up_ne _ _ (by omega)]
    have q1 : V1 (q + 1) = V (q + 1) := by rw [eV, va_up_ne _ _ (by omega), va_up_ne _ _ (by omega)]
    have q2 : V1 (q + 2) = V (q + 2) := by rw [eV, va_up_ne _ _ (by omega), va_up_ne _ _ (by omega)]
    have p1 : V1 (p + 1) = va_cpy (V (q + 1)) (V (p + 1)) 0 0 i := by rw [eV, va_up_ne _ _ (by omega), va_up_self]
    have p2 : V1 (p + 2) = va_cpy (V (q + 2)) (V (p + 2)) 0 0 i := by rw [eV, va_up_self]
    refine aj.iload_n dX7_copyFrom_2 rfl ?_
    refine aj.iconst (v := 4) dX7_copyFrom_3 rfl ?_
    refine aj.icmp_geN (a := i) (b := 4) (tgt := 37) dX7_copyFrom_4 rfl rfl (by omega) (by omega) rfl (fun c4 => ?_) (fun c4 => ?_)
    · refine aj.aload_n dX7_copyFrom_37 rfl ?_
      refine aj.aload_n dX7_copyFrom_38 rfl ?_
      refine gX7_hurt (i := q) hq.1 hA w266 dX7_copyFrom_39 ?_
      refine pX7_hurt (i := p) hp.1 hA w266 dX7_copyFrom_42 (fun M hA => ?_)
      refine aj.aload_n dX7_copyFrom_45 rfl ?_
      refine aj.aload_n dX7_copyFrom_46 rfl ?_
      refine gX7_wind (i := q) hq.1 hA w268 dX7_copyFrom_47 ?_
      refine pX7_wind (i := p) hp.1 hA w268 dX7_copyFrom_50 (fun M hA => ?_)
      refine aj.aload_n dX7_copyFrom_53 rfl ?_
      refine aj.aload_n dX7_copyFrom_54 rfl ?_
      refine gX7_minute (i := q) hq.1 hA w270 dX7_copyFrom_55 ?_
      refine pX7_minute (i := p) hp.1 hA w270 dX7_copyFrom_58 (fun M hA => ?_)
      have hi : i = 4 := by omega
      subst hi
      have h0 := hA.obj (i := p) (f := V q) hp.1 (by rw [va_up_self, pk_un (by decide), va_up_self, pk_un (by decide), va_up_self, pk_us, q0]) (by rw [va_up_self, pk_un (by decide), va_up_self, pk_us, va_up_ne _ _ (by omega), q0]) (by rw [va_up_self, pk_us, va_up_ne _ _ (by omega), va_up_ne _ _ (by omega), q0])
      have h1 := h0.row (i := p + 1) (f := V (q + 1)) hp.2.1 (Or.inl rfl) (fun j hj => by rw [va_up_ne _ _ (by omega), va_up_ne _ _ (by omega), va_up_ne _ _ (by omega), va_up_ne _ _ (by omega), p1, pk_cpy_in (by omega) (by omega)]; congr 1; omega)
      have h2 := h1.row (i := p + 2) (f := V (q + 2)) hp.2.2 (Or.inl rfl) (fun j hj => by rw [va_up_ne _ _ (by omega), va_up_ne _ _ (by omega), va_up_ne _ _ (by omega), va_up_ne _ _ (by omega), va_up_ne _ _ (by omega), p2, pk_cpy_in (by omega) (by omega)]; congr 1; omega)
      refine aj.vret rfl dX7_copyFrom_61 ⟨rfl, ?_⟩
      refine h2.cong (fun j hj => Or.inl ?_) (fun j hj => Or.inl rfl)
      by_cases e2 : j = p + 2
      · subst e2; rw [cpS_2, va_up_self]
      · by_cases e1 : j = p + 1
        · subst e1; rw [cpS_1, va_up_ne _ _ (by omega), va_up_self]
        · by_cases e0 : j = p
          · subst e0; rw [cpS_0, va_up_ne _ _ (by omega), va_up_ne _ _ (by omega), va_up_self]
          · rw [cpS_n (by omega), va_up_ne _ _ e2, va_up_ne _ _ e1, va_up_ne _ _ e0, va_up_ne _ _ e0, va_up_ne _ _ e0, va_up_ne _ _ e0, eV, va_up_ne _ _ e2, va_up_ne _ _ e1]
    · exact absurd c4 (by omega)
  | succ n ih =>
    intro i M hin hA
    obtain ⟨V1, eV⟩ : ∃ z, z = va_up (va_up V (p + 1) (va_cpy (V (q + 1)) (V (p + 1)) 0 0 i)) (p + 2) (va_cpy (V (q + 2)) (V (p + 2)) 0 0 i) := ⟨_, rfl⟩
    rw [← eV] at hA
    have q0 : V1 q = V q := by rw [eV, va_up_ne _ _ (by omega), va_up_ne _ _ (by omega)]
    have q1 : V1 (q + 1) = V (q + 1) := by rw [eV, va_up_ne _ _ (by omega), va_up_ne _ _ (by omega)]
    have q2 : V1 (q + 2) = V (q + 2) := by rw [eV, va_up_ne _ _ (by omega), va_up_ne _ _ (by omega)]
    have p1 : V1 (p + 1) = va_cpy (V (q + 1)) (V (p + 1)) 0 0 i := by rw [eV, va_up_ne _ _ (by omega), va_up_self]
    have p2 : V1 (p + 2) = va_cpy (V (q + 2)) (V (p + 2)) 0 0 i := by rw [eV, va_up_self]
    refine aj.iload_n dX7_copyFrom_2 rfl ?_
    refine aj.iconst (v := 4) dX7_copyFrom_3 rfl ?_
    refine aj.icmp_geN (a := i) (b := 4) (tgt := 37) dX7_copyFrom_4 rfl rfl (by omega) (by omega) rfl (fun c4 => ?_) (fun c4 => ?_)
    · exact absurd c4 (by omega)
    · refine aj.aload_n dX7_copyFrom_7 rfl ?_
      refine gX7_points (i := p) hp.1 hA w264 dX7_copyFrom_8 ?_
      refine aj.iload_n dX7_copyFrom_11 rfl ?_
      refine aj.aload_n dX7_copyFrom_12 rfl ?_
      refine gX7_points (i := q) hq.1 hA w264 dX7_copyFrom_13 ?_
      refine aj.iload_n dX7_copyFrom_16 rfl ?_
      refine aj.kL (i := (q + 1)) (j := i) hq.2.1 dX7_copyFrom_17 hA rfl (by omega) (by decide) ?_
      refine aj.kS (i := (p + 1)) (j := i) hp.2.1 dX7_copyFrom_18 hA rfl (by omega) (by decide) (fun M hA => ?_)
      refine aj.aload_n dX7_copyFrom_19 rfl ?_
      refine gX7_ages (i := p) hp.1 hA w265 dX7_copyFrom_20 ?_
      refine aj.iload_n dX7_copyFrom_23 rfl ?_
      refine aj.aload_n dX7_copyFrom_24 rfl ?_
      refine gX7_ages (i := q) hq.1 hA w265 dX7_copyFrom_25 ?_
      refine aj.iload_n dX7_copyFrom_28 rfl ?_
      refine aj.kL (i := (q + 2)) (j := i) hq.2.2 dX7_copyFrom_29 hA rfl (by omega) (by decide) ?_
      refine aj.kS (i := (p + 2)) (j := i) hp.2.2 dX7_copyFrom_30 hA rfl (by omega) (by decide) (fun M hA => ?_)
      refine aj.iincN (a := i) (c := 1) (lv' := [(2, .int (nI (i + 1))), (0, .ref (a + p)), (1, .ref (a + q))]) dX7_copyFrom_31 rfl (Nat.le_of_ble_eq_true rfl) rfl rfl rfl ?_
      refine aj.goto (tgt := 2) dX7_copyFrom_34 rfl ?_
      refine aj.pick [0, 1, 2] rfl ?_
      refine ih (i + 1) M (by omega) (hA.cong (fun j hj => Or.inl ?_) (fun j hj => Or.inl rfl))
      by_cases e2 : j = p + 2
      · subst e2
        rw [va_up_self, va_up_self, va_up_ne _ _ (by omega), p2, va_up_ne _ _ (by omega), q2, ← cpy_step, show 0 + i = i by omega]
      · by_cases e1 : j = p + 1
        · subst e1
          rw [va_up_ne _ _ (by omega), va_up_self, va_up_ne _ _ (by omega), va_up_self, p1, q1, ← cpy_step, show 0 + i = i by omega]
        · rw [va_up_ne _ _ e2, va_up_ne _ _ e1, va_up_ne _ _ e2, va_up_ne _ _ e1, eV, va_up_ne _ _ e2, va_up_ne _ _ e1]
theorem k_copyFrom {G : zG} {l : Launch} {a : Nat} {M0 M : zM} {V : Nat → Nat → Int32} {W : Nat → Nat → Int64} {R : Nat → Nat → Option Nat} {p q : Nat} (hp : kSt p) (hq : kSt q) (hd : p + 3 ≤ q ∨ q + 3 ≤ p) (hA : kA a M0 M V W R) : am G l kX7_copyFrom 0 [.ref (a + p), .ref (a + q)] M 0 0 (zv (fun M' => kA a M0 M' (cpS V p q) W R)) := by
  refine am.of (by decide) (Nat.le_of_ble_eq_true rfl) ?_
  refine aj.iconst (v := 0) dX7_copyFrom_0 rfl ?_
  refine aj.istore_n (lv' := [(2, .int 0), (0, .ref (a + p)), (1, .ref (a + q))]) dX7_copyFrom_1 (Nat.le_of_ble_eq_true rfl) rfl ?_
  refine aj.pick [0, 1, 2] rfl ?_
  exact copyFrom_loop hp hq hd 4 0 M (by omega) (by rw [cpy_0, cpy_0, va_upI, va_upI]; exact hA)
/-- a state at its beginning -/
def stB (V : Nat → Nat → Int32) (o : Nat) (x : Int32) : Nat → Nat → Int32 := va_up (va_up (va_up V o (fun j => if j = 1 then x else 0)) (o + 1) (fun _ => 0)) (o + 2) (fun _ => 0)
theorem k_stBegin {G : zG} {l : Launch} {a : Nat} {M0 M : zM} {V : Nat → Nat → Int32} {W : Nat → Nat → Int64} {R : Nat → Nat → Option Nat} {o : Nat} (hs : kSt o) (x : Int32) (hA : kA a M0 M V W R) : am G l kX7_begin 1 [.ref (a + o), .int x] M 0 0 (zv (fun M' => kA a M0 M' (stB V o x) W R)) := by
  refine am.of (by decide) (Nat.le_of_ble_eq_true rfl) ?_
  refine aj.aload_n dX7_begin_0 rfl ?_
  refine gX7_points (i := o) hs.1 hA w264 dX7_begin_1 ?_
  refine aj.iconst (v := 0) dX7_begin_4 rfl ?_
  refine aj.callS0 (d' := 0) (As := [.ref (a + (o + 1)), .int 0]) (rest := []) dX7_begin_5 v_X7_28 w701 rfl rfl (Nat.le_of_ble_eq_true rfl) (Nat.le_of_ble_eq_true rfl) (k_fillI 0 hs.2.1 (by decide) hA) (fun M hM => ?_)
  have hA := hM
  refine aj.aload_n dX7_begin_8 rfl ?_
  refine gX7_ages (i := o) hs.1 hA w265 dX7_begin_9 ?_
  refine aj.iconst (v := 0) dX7_begin_12 rfl ?_
  refine aj.callS0 (d' := 0) (As := [.ref (a + (o + 2)), .int 0]) (rest := []) dX7_begin_13 v_X7_28 w701 rfl rfl (Nat.le_of_ble_eq_true rfl) (Nat.le_of_ble_eq_true rfl) (k_fillI 0 hs.2.2 (by decide) hA) (fun M hM => ?_)
  have hA := hM
  refine aj.aload_n dX7_begin_16 rfl ?_
  refine aj.iconst (v := 0) dX7_begin_17 rfl ?_
  refine pX7_hurt (i := o) hs.1 hA w266 dX7_begin_18 (fun M hA => ?_)
  refine aj.aload_n dX7_begin_21 rfl ?_
  refine aj.iconst (v := 0) dX7_begin_22 rfl ?_
  refine pX7_minute (i := o) hs.1 hA w270 dX7_begin_23 (fun M hA => ?_)
  refine aj.aload_n dX7_begin_26 rfl ?_
  refine aj.iload_n dX7_begin_27 rfl ?_
  refine pX7_wind (i := o) hs.1 hA w268 dX7_begin_28 (fun M hA => ?_)
  have h0 := hA.obj (i := o) (f := fun j => if j = 1 then x else 0) hs.1 (by rw [va_up_self, pk_un (by decide), va_up_self, pk_un (by decide), va_up_self, pk_us]; rfl) (by rw [va_up_self, pk_us]; rfl) (by rw [va_up_self, pk_un (by decide), va_up_self, pk_us]; rfl)
  refine aj.vret rfl dX7_begin_31 ⟨rfl, h0.cong (fun j hj => Or.inl ?_) (fun j hj => Or.inl rfl)⟩
  unfold stB
  by_cases e2 : j = o + 2
  · subst e2; rw [va_up_self, va_up_ne _ _ (by omega), va_up_ne _ _ (by omega), va_up_ne _ _ (by omega), va_up_ne _ _ (by omega), va_up_self]
  · by_cases e1 : j = o + 1
    · subst e1; rw [va_up_ne _ _ (by omega), va_up_self, va_up_ne _ _ (by omega), va_up_ne _ _ (by omega), va_up_ne _ _ (by omega), va_up_ne _ _ (by omega), va_up_ne _ _ (by omega), va_up_self]
    · by_cases e0 : j = o
      · subst e0; rw [va_up_ne _ _ e2, va_up_ne _ _ e1, va_up_self, va_up_self]
      · rw [va_up_ne _ _ e2, va_up_ne _ _ e1, va_up_ne _ _ e0, va_up_ne _ _ e0, va_up_ne _ _ e0, va_up_ne _ _ e0, va_up_ne _ _ e0, va_up_ne _ _ e2, va_up_ne _ _ e1]
/-- a state kept; the latest ones taken back -/
def hKeep (V : Nat → Nat → Int32) (o nx sz : Nat) : Nat → Nat → Int32 := va_up (cpS V (16 + 3 * nx) o) 14 (upd (upd (V 14) 0 (nI ((nx + 1) % 10))) 1 (nI (min 10 (sz + 1))))
theorem k_keep {G : zG} {l : Launch} {a : Nat} {M0 M : zM} {V : Nat → Nat → Int32} {W : Nat → Nat → Int64} {R : Nat → Nat → Option Nat} {o : Nat} (hs : kSt o) (ho : o = 8 ∨ o = 11) {nx sz : Nat} (hn : V 14 0 = nI nx) (hnx : nx < 10) (hz : V 14 1 = nI sz) (hsz : sz ≤ 10) (hA : kA a M0 M V W R) : am G l kX1_keep 1 [.ref (a + 14), .ref (a + o)] M 0 0 (zv (fun M' => kA a M0 M' (hKeep V o nx sz) W R)) := by
  have hh := kSt_h nx hnx
  refine am.of (by decide) (Nat.le_of_ble_eq_true rfl) ?_
  refine aj.aload_n dX1_keep_0 rfl ?_
  refine gX1_kept (i := 14) rfl hA w292 dX1_keep_1 ?_
  refine aj.aload_n dX1_keep_4 rfl ?_
  refine gX1_next (i := 14) rfl hA w293 dX1_keep_5 ?_
  refine aj.kR40 (j := nx) rfl dX1_keep_8 hA hn (by omega) (by decide) ?_
  refine aj.aload_n dX1_keep_9 rfl ?_
  refine aj.callE0 (d' := 0) (As := [.ref (a + o)]) (rest := []) dX1_keep_10 v_X1_25 li_X7_copyFrom ⟨_, hA.ob (i := (16 + 3 * nx)) hh.1 (by decide)⟩ rfl rfl rfl (Nat.le_of_ble_eq_true rfl) (Nat.le_of_ble_eq_true rfl) (k_copyFrom (p := (16 + 3 * nx)) (q := o) hh hs (by omega) hA) (fun M hM => ?_)
  have hA := hM
  refine aj.aload_n dX1_keep_13 rfl ?_
  refine aj.aload_n dX1_keep_14 rfl ?_
  refine gX1_next (i := 14) rfl hA w293 dX1_keep_15 ?_
  refine aj.iconst (v := 1) dX1_keep_18 rfl ?_
  refine aj.iaddN (a := nx) (b := 1) dX1_keep_19 (by rw [cpS_n (by omega)]; exact hn) rfl ?_
  refine aj.bipush (v := 10) dX1_keep_20 rfl ?_
  refine aj.iremN (a := nx + 1) (b := 10) dX1_keep_22 rfl rfl (by omega) (by omega) (by omega) ?_
  refine pX1_next (i := 14) rfl hA w293 dX1_keep_23 (fun M hA => ?_)
  refine aj.aload_n dX1_keep_26 rfl ?_
  refine aj.bipush (v := 10) dX1_keep_27 rfl ?_
  refine aj.aload_n dX1_keep_29 rfl ?_
  refine gX1_size (i := 14) rfl hA w294 dX1_keep_30 ?_
  refine aj.iconst (v := 1) dX1_keep_33 rfl ?_
  refine aj.iaddN (a := sz) (b := 1) dX1_keep_34 (by rw [va_up_self, pk_un (by decide), cpS_n (by omega)]; exact hz) rfl ?_
  refine aj.mmin dX1_keep_35 w840 (Nat.le_of_ble_eq_true rfl) (Nat.le_of_ble_eq_true rfl) ?_
  refine pX1_size (i := 14) rfl hA w294 dX1_keep_38 (fun M hA => ?_)
  refine aj.vret rfl dX1_keep_41 ⟨rfl, hA.cong (fun j hj => Or.inl ?_) (fun j hj => Or.inl rfl)⟩
  unfold hKeep
  by_cases e : j = 14
  · subst e; rw [va_up_self, va_up_self, va_up_self, cpS_n (by omega), show (10 : Int32) = nI 10 from rfl, iMin_N (by omega) (by omega)]
  · rw [va_up_ne _ _ e, va_up_ne _ _ e, va_up_ne _ _ e]
def hBack (V : Nat → Nat → Int32) (nx sz n : Nat) : Nat → Nat → Int32 := cpS (va_up V 14 (upd (upd (V 14) 0 (nI ((nx + 10 - n) % 10))) 1 (nI (sz - n)))) 8 (16 + 3 * ((nx + 10 - n) % 10))
theorem k_goBack {G : zG} {l : Launch} {a : Nat} {M0 M : zM} {V : Nat → Nat → Int32} {W : Nat → Nat → Int64} {R : Nat → Nat → Option Nat} {nx sz : Nat} (hn : V 14 0 = nI nx) (hnx : nx < 10) (hz : V 14 1 = nI sz) (hsz : sz ≤ 10) (n : Nat) {x_n : Int32} (e_n : x_n = nI n) (hn1 : 1 ≤ n) (hn2 : n ≤ sz) (hA : kA a M0 M V W R) : am G l kX1_goBack 1 [.ref (a + 14), .int x_n, .ref (a + 8)] M 0 0 (zv (fun M' => kA a M0 M' (hBack V nx sz n) W R)) := by
  have hh := kSt_h ((nx + 10 - n) % 10) (by omega)
  refine am.of (by decide) (Nat.le_of_ble_eq_true rfl) ?_
  refine aj.iload_n dX1_goBack_0 rfl ?_
  refine aj.iconst (v := 1) dX1_goBack_1 rfl ?_
  refine aj.icmp_ltN (a := n) (b := 1) (tgt := 13) dX1_goBack_2 e_n rfl (by omega) (by omega) rfl (fun c2 => ?_) (fun c2 => ?_)
  · exact absurd c2 (by omega)
  · refine aj.iload_n dX1_goBack_5 rfl ?_
    refine aj.aload_n dX1_goBack_6 rfl ?_
    refine gX1_size (i := 14) rfl hA w294 dX1_goBack_7 ?_
    refine aj.icmp_leN (a := n) (b := sz) (tgt := 14) dX1_goBack_10 e_n hz (by omega) (by omega) rfl (fun c10 => ?_) (fun c10 => ?_)
    · refine aj.aload_n dX1_goBack_14 rfl ?_
      refine aj.aload_n dX1_goBack_15 rfl ?_
      refine gX1_next (i := 14) rfl hA w293 dX1_goBack_16 ?_
      refine aj.bipush (v := 10) dX1_goBack_19 rfl ?_
      refine aj.iaddN (a := nx) (b := 10) dX1_goBack_21 hn rfl ?_
      refine aj.iload_n dX1_goBack_22 rfl ?_
      refine aj.isubN (a := nx + 10) (b := n) dX1_goBack_23 rfl e_n (by omega) ?_
      refine aj.bipush (v := 10) dX1_goBack_24 rfl ?_
      refine aj.iremN (a := (nx + 10) - n) (b := 10) dX1_goBack_26 rfl rfl (by omega) (by omega) (by omega) ?_
      refine pX1_next (i := 14) rfl hA w293 dX1_goBack_27 (fun M hA => ?_)
      refine aj.aload_n dX1_goBack_30 rfl ?_
      refine aj.dup dX1_goBack_31 rfl ?_
      refine gX1_size (i := 14) rfl hA w294 dX1_goBack_32 ?_
      refine aj.iload_n dX1_goBack_35 rfl ?_
      refine aj.isubN (a := sz) (b := n) dX1_goBack_36 (by rw [va_up_self, pk_un (by decide)]; exact hz) e_n (by omega) ?_
      refine pX1_size (i := 14) rfl hA w294 dX1_goBack_37 (fun M hA => ?_)
      refine aj.aload_n dX1_goBack_40 rfl ?_
      refine aj.aload_n dX1_goBack_41 rfl ?_
      refine gX1_kept (i := 14) rfl hA w292 dX1_goBack_42 ?_
      refine aj.aload_n dX1_goBack_45 rfl ?_
      refine gX1_next (i := 14) rfl hA w293 dX1_goBack_46 ?_
      refine aj.kR40 (j := ((nx + 10) - n) % 10) rfl dX1_goBack_49 hA (by rw [va_up_self, pk_un (by decide), va_up_self, pk_us]) (by omega) (by decide) ?_
      refine aj.callE0 (d' := 0) (As := [.ref (a + (16 + 3 * (((nx + 10) - n) % 10)))]) (rest := []) dX1_goBack_50 v_X1_25 li_X7_copyFrom ⟨_, hA.ob (i := 8) rfl (by decide)⟩ rfl rfl rfl (Nat.le_of_ble_eq_true rfl) (Nat.le_of_ble_eq_true rfl) (k_copyFrom (p := 8) (q := (16 + 3 * (((nx + 10) - n) % 10))) ⟨rfl, rfl, rfl⟩ hh (by omega) hA) (fun M hM => ?_)
      have hA := hM
      refine aj.vret rfl dX1_goBack_53 ⟨rfl, ?_⟩
      unfold hBack
      rw [bx_uu, va_up_self] at hA
      exact hA
    · exact absurd c10 (by omega)
theorem k_forget {G : zG} {l : Launch} {a : Nat} {M0 M : zM} {V : Nat → Nat → Int32} {W : Nat → Nat → Int64} {R : Nat → Nat → Option Nat} (hA : kA a M0 M V W R) : am G l kX1_forget 0 [.ref (a + 14)] M 0 0 (zv (fun M' => kA a M0 M' (va_up V 14 (upd (V 14) 1 0)) W R)) := by
  refine am.of (by decide) (Nat.le_of_ble_eq_true rfl) ?_
  refine aj.aload_n dX1_forget_0 rfl ?_
  refine aj.iconst (v := 0) dX1_forget_1 rfl ?_
  refine pX1_size (i := 14) rfl hA w294 dX1_forget_2 (fun M hA => ?_)
  exact aj.vret rfl dX1_forget_5 ⟨rfl, hA⟩
theorem k_trAt {G : zG} {l : Launch} {a : Nat} {M0 M : zM} {V : Nat → Nat → Int32} {W : Nat → Nat → Int64} {R : Nat → Nat → Option Nat} {o : Nat} (ht : kTr o) (i : Nat) {x_i : Int32} (e_i : x_i = nI i) (hi : i < 40) (hA : kA a M0 M V W R) : am G l kX10_at 0 [.ref (a + o), .int x_i] M 0 0 (zr (.long (W (o + 1) i)) (fun M' => M' = M)) := by
  refine am.of (by decide) (Nat.le_of_ble_eq_true rfl) ?_
  refine aj.iload_n dX10_at_0 rfl ?_
  refine aj.if_ltN (a := i) (tgt := 22) dX10_at_1 e_i (by omega) rfl ?_
  refine aj.iload_n dX10_at_4 rfl ?_
  refine aj.aload_n dX10_at_5 rfl ?_
  refine gX10_values (i := o) ht.1 hA w350 dX10_at_6 ?_
  refine aj.kN (i := (o + 1)) (n := 40) (v := nI 40) ht.2 (by decide) (by decide) dX10_at_9 hA rfl ?_
  refine aj.icmp_geN (a := i) (b := 40) (tgt := 22) dX10_at_10 e_i rfl (by omega) (by omega) rfl (fun c10 => ?_) (fun c10 => ?_)
  · exact absurd c10 (by omega)
  · refine aj.aload_n dX10_at_13 rfl ?_
    refine gX10_values (i := o) ht.1 hA w350 dX10_at_14 ?_
    refine aj.iload_n dX10_at_17 rfl ?_
    refine aj.kLl (i := (o + 1)) (j := i) ht.2 dX10_at_18 hA e_i (by omega) (by decide) ?_
    refine aj.goto (tgt := 23) dX10_at_19 rfl ?_
    exact aj.lret rfl dX10_at_23 ⟨rfl, rfl⟩
theorem k_cut {G : zG} {l : Launch} {a : Nat} {M0 M : zM} {V : Nat → Nat → Int32} {W : Nat → Nat → Int64} {R : Nat → Nat → Option Nat} {o : Nat} (ht : kTr o) (x : Int64) (hA : kA a M0 M V W R) : am G l kX10_cut 0 [.ref (a + o), .long x] M 0 0 (zr (.long (mCut x (V o 2))) (fun M' => M' = M)) := by
  refine am.of (by decide) (Nat.le_of_ble_eq_true rfl) ?_
  refine aj.aload_n dX10_cut_0 rfl ?_
  refine gX10_sort (i := o) ht.1 hA w349 dX10_cut_1 ?_
  by_cases s0 : V o 2 = 0
  · rw [s0]
    refine aj.swIn (tgt := 32) (off := 28) dX10_cut_4 (by decide) (by decide) (by decide) rfl ?_
    refine aj.lload_n dX10_cut_32 rfl ?_
    refine aj.l2i dX10_cut_33 ?_
    refine aj.i2b dX10_cut_34 ?_
    refine aj.i2l dX10_cut_35 ?_
    exact aj.lret rfl dX10_cut_36 ⟨by unfold mCut; rw [if_pos rfl], rfl⟩
  by_cases s1 : V o 2 = 1
  · rw [s1]
    refine aj.swIn (tgt := 37) (off := 33) dX10_cut_4 (by decide) (by decide) (by decide) rfl ?_
    refine aj.lload_n dX10_cut_37 rfl ?_
    refine aj.l2i dX10_cut_38 ?_
    refine aj.i2s dX10_cut_39 ?_
    refine aj.i2l dX10_cut_40 ?_
    exact aj.lret rfl dX10_cut_41 ⟨by unfold mCut; rw [if_neg (by decide), if_pos rfl], rfl⟩
  by_cases s2 : V o 2 = 2
  · rw [s2]
    refine aj.swIn (tgt := 42) (off := 38) dX10_cut_4 (by decide) (by decide) (by decide) rfl ?_
    refine aj.lload_n dX10_cut_42 rfl ?_
    refine aj.l2i dX10_cut_43 ?_
    refine aj.i2l dX10_cut_44 ?_
    exact aj.lret rfl dX10_cut_45 ⟨by unfold mCut; rw [if_neg (by decide), if_neg (by decide), if_pos rfl], rfl⟩
  refine aj.swOut (tgt := 46) dX10_cut_4 (by simp only [← Int32.toInt_inj] at s0 s1 s2; have e0 : (0 : Int32).toInt = 0 := rfl; have e1 : (1 : Int32).toInt = 1 := rfl; have e2 : (2 : Int32).toInt = 2 := rfl; omega) rfl ?_
  refine aj.lload_n dX10_cut_46 rfl ?_
  exact aj.lret rfl dX10_cut_47 ⟨by unfold mCut; rw [if_neg s0, if_neg s1, if_neg s2], rfl⟩
theorem k_trPut {G : zG} {l : Launch} {a : Nat} {M0 M : zM} {V : Nat → Nat → Int32} {W : Nat → Nat → Int64} {R : Nat → Nat → Option Nat} {o : Nat} (ht : kTr o) (i : Nat) {x_i : Int32} (e_i : x_i = nI i) (x : Int64) (hi : i < 40) (hA : kA a M0 M V W R) : am G l kX10_put 1 [.ref (a + o), .int x_i, .long x] M 0 0 (zr (.long (mCut x (V o 2))) (fun M' => kA a M0 M' V (va_up W (o + 1) (vp_updL (W (o + 1)) i (mCut x (V o 2)))) R)) := by
  refine am.of (by decide) (Nat.le_of_ble_eq_true rfl) ?_
  refine aj.iload_n dX10_put_0 rfl ?_
  refine aj.if_ltN (a := i) (tgt := 13) dX10_put_1 e_i (by omega) rfl ?_
  refine aj.iload_n dX10_put_4 rfl ?_
  refine aj.aload_n dX10_put_5 rfl ?_
  refine gX10_values (i := o) ht.1 hA w350 dX10_put_6 ?_
  refine aj.kN (i := (o + 1)) (n := 40) (v := nI 40) ht.2 (by decide) (by decide) dX10_put_9 hA rfl ?_
  refine aj.icmp_ltN (a := i) (b := 40) (tgt := 15) dX10_put_10 e_i rfl (by omega) (by omega) rfl (fun c10 => ?_) (fun c10 => ?_)
  · refine aj.aload_n dX10_put_15 rfl ?_
    refine gX10_values (i := o) ht.1 hA w350 dX10_put_16 ?_
    refine aj.iload_n dX10_put_19 rfl ?_
    refine aj.aload_n dX10_put_20 rfl ?_
    refine aj.lload_n dX10_put_21 rfl ?_
    refine aj.callE1 (d' := 0) (As := [.long x]) (rest := [.int x_i, .ref (a + (o + 1))]) dX10_put_22 v_X10_41 li_X10_cut ⟨_, hA.ob (i := o) ht.1 (by decide)⟩ rfl rfl rfl (Nat.le_of_ble_eq_true rfl) (Nat.le_of_ble_eq_true rfl) (k_cut ht x hA) (fun M hM => ?_)
    subst hM
    refine aj.kSl (i := (o + 1)) (j := i) ht.2 dX10_put_25 hA e_i (by omega) (by decide) (fun M hA => ?_)
    refine aj.aload_n dX10_put_26 rfl ?_
    refine gX10_values (i := o) ht.1 hA w350 dX10_put_27 ?_
    refine aj.iload_n dX10_put_30 rfl ?_
    refine aj.kLl (i := (o + 1)) (j := i) ht.2 dX10_put_31 hA e_i (by omega) (by decide) ?_
    exact aj.lret rfl dX10_put_32 ⟨by rw [va_up_self]; exact congrArg (fun z => some (Value.long z)) updL_s, hA⟩
  · exact absurd c10 (by omega)
theorem k_trBegin {G : zG} {l : Launch} {a : Nat} {M0 M : zM} {V : Nat → Nat → Int32} {W : Nat → Nat → Int64} {R : Nat → Nat → Option Nat} {o : Nat} (ht : kTr o) (x : Int32) (n : Nat) {x_n : Int32} (e_n : x_n = nI n) (hn : n ≤ 40) (hA : kA a M0 M V W R) : am G l kX10_begin 1 [.ref (a + o), .int x, .int x_n] M 0 0 (zv (fun M' => kA a M0 M' (va_up V o (upd (upd (upd (V o) 0 1) 2 x) 1 (nI n))) (va_up W (o + 1) (fun _ => 0)) R)) := by
  refine am.of (by decide) (Nat.le_of_ble_eq_true rfl) ?_
  refine aj.aload_n dX10_begin_0 rfl ?_
  refine aj.iconst (v := 1) dX10_begin_1 rfl ?_
  refine pX10_there (i := o) ht.1 hA (by first | exact Or.inl rfl | exact Or.inr rfl | exact zb_01 _) w345 dX10_begin_2 (fun M hA => ?_)
  refine aj.aload_n dX10_begin_5 rfl ?_
  refine aj.iload_n dX10_begin_6 rfl ?_
  refine pX10_sort (i := o) ht.1 hA w349 dX10_begin_7 (fun M hA => ?_)
  refine aj.aload_n dX10_begin_10 rfl ?_
  refine aj.iconst (v := 0) dX10_begin_11 rfl ?_
  refine aj.bipush (v := 40) dX10_begin_12 rfl ?_
  refine aj.iload_n dX10_begin_14 rfl ?_
  refine aj.mmin dX10_begin_15 w1218 (Nat.le_of_ble_eq_true rfl) (Nat.le_of_ble_eq_true rfl) ?_
  refine aj.mmax dX10_begin_18 w1219 (Nat.le_of_ble_eq_true rfl) (Nat.le_of_ble_eq_true rfl) ?_
  refine pX10_size (i := o) ht.1 hA w347 dX10_begin_21 (fun M hA => ?_)
  refine aj.aload_n dX10_begin_24 rfl ?_
  refine gX10_values (i := o) ht.1 hA w350 dX10_begin_25 ?_
  refine aj.lconst (v := 0) dX10_begin_28 rfl ?_
  refine aj.callS0 (d' := 0) (As := [.ref (a + (o + 1)), .long 0]) (rest := []) dX10_begin_29 v_X10_35 w1074 rfl rfl (Nat.le_of_ble_eq_true rfl) (Nat.le_of_ble_eq_true rfl) (k_fillL 0 ht.2 (by decide) hA) (fun M hM => ?_)
  have hA := hM
  have eX : iMax 0 (iMin 40 x_n) = nI n := by rw [e_n, show (40 : Int32) = nI 40 from rfl, iMin_N (by decide) (by omega), show (0 : Int32) = nI 0 from rfl, iMax_N (by decide) (by omega), show max 0 (min 40 n) = n by omega]
  rw [bx_uu, bx_uu, va_up_self, va_up_self, eX] at hA
  exact aj.vret rfl dX10_begin_32 ⟨rfl, hA⟩
