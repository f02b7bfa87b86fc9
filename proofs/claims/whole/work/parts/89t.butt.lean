/-- a butt's cell; a memory without it and its row of shakes -/
def bCl (F : Nat → Int32) (y : Nat) (l1 l2 : Option Nat) : zC := .inr (0, [.int (F 0), .int (F 1), .int (F 2), .int (F 3), .int (F 4), .int (F 5), .int (F 6), .int (F 7), .ref y, va_rf l1, va_rf l2])
def rb (M : zM) (t : Nat) : zM := (fun x => if x < t + 2 then none else M.1 x, M.2)
theorem rb_up {M : zM} {t : Nat} {c : zC} : rb (z_up M t c) t = rb M t := by
  unfold rb z_up
  congr 1
  funext x
  show (if x < t + 2 then none else if x = t then some c else M.1 x) = if x < t + 2 then none else M.1 x
  by_cases h : x < t + 2
  · rw [if_pos h, if_pos h]
  · rw [if_neg h, if_neg h, if_neg (by omega)]
theorem rb_up1 {M : zM} {t : Nat} {c : zC} : rb (z_up M (t + 1) c) t = rb M t := by
  unfold rb z_up
  congr 1
  funext x
  show (if x < t + 2 then none else if x = t + 1 then some c else M.1 x) = if x < t + 2 then none else M.1 x
  by_cases h : x < t + 2
  · rw [if_pos h, if_pos h]
  · rw [if_neg h, if_neg h, if_neg (by omega)]
/-- the butt that is being read -/
def bK (M0 M1 : zM) (V0 V1 : Nat → Nat → Int32) (F g : Nat → Int32) (l1 l2 : Option Nat) : Prop := (∀ q, q ≠ 2 → V1 q = V0 q) ∧ M1.1 M0.2 = some (bCl F (M0.2 + 1) l1 l2) ∧ M1.1 (M0.2 + 1) = some (.inl (0, 4, .inl g)) ∧ (∀ x, x < M0.2 → M1.1 x = M0.1 x) ∧ M0.2 + 2 ≤ M1.2 ∧ ∀ x, M1.2 ≤ x → M1.1 x = none
theorem uW.upO {a : Nat} {M0 M : zM} {V0 : Nat → Nat → Int32} {W : Nat → Nat → Int64} {R : Nat → Nat → Option Nat} {T : List tkT} {tr : Prop} {S : pS} (h : uW a M0 M V0 W R T tr S) {t : Nat} (ht : kOut a t) (c : zC) : uW a (z_up M0 t c) (z_up M t c) V0 W R T tr S := by
  obtain ⟨V, hA, h⟩ := h
  exact ⟨V, hA.upO ht c, h⟩
theorem uW.out {a : Nat} {M0 M : zM} {V0 : Nat → Nat → Int32} {W : Nat → Nat → Int64} {R : Nat → Nat → Option Nat} {T : List tkT} {tr : Prop} {S : pS} (h : uW a M0 M V0 W R T tr S) {t : Nat} (ht : kOut a t) : M.1 t = M0.1 t := by
  obtain ⟨V, hA, -⟩ := h
  exact hA.2.1 t ht
theorem bK.up {M0 M1 : zM} {V0 V1 : Nat → Nat → Int32} {F F' g : Nat → Int32} {l1 l2 l1' l2' : Option Nat} (h : bK M0 M1 V0 V1 F g l1 l2) : bK M0 (z_up M1 M0.2 (bCl F' (M0.2 + 1) l1' l2')) V0 V1 F' g l1' l2' := by
  obtain ⟨h1, h2, h3, h4, h5, h6⟩ := h
  exact ⟨h1, z_up_s _ _ _, (z_up_n _ _ (by omega)).trans h3, fun x hx => (z_up_n _ _ (by omega)).trans (h4 x hx), h5, fun x hx => (z_up_n _ _ (by have : M1.2 ≤ x := hx; omega)).trans (h6 x hx)⟩
section R89t
variable {G : zG} {l : Launch} {k : zY} {d pc bc bs : Nat} {lv : List (Nat × Value)} {st : List Value} {M : zM} {Q : Option Value → zM → Prop}
variable {a : Nat} {M0 M1 : zM} {V0 V1 : Nat → Nat → Int32} {W : Nat → Nat → Int64} {R : Nat → Nat → Option Nat} {T : List tkT} {F g : Nat → Int32} {l1 l2 : Option Nat} {tr : Prop} {S : pS}
theorem aj.bP0 {idx : Nat} {x : Int32} (hK : bK M0 M1 V0 V1 F g l1 l2) (hR : uW a M1 M V1 W R T tr S) (ha : a + 87 ≤ M0.2) (hl : Cond.fieldLink k.1.cls idx (TX0 0).1 (TX0 0).2.1 (TX0 0).2.2.1 ∈ z_W) (hd : decode k.2.1 pc = .ok (.putfield idx, 3)) (hk : ∀ N1 M : zM, bK M0 N1 V0 V1 (upd F 0 x) g l1 l2 → uW a N1 M V1 W R T tr S → rb N1 M0.2 = rb M1 M0.2 → aj G l k d (pc + 3) lv st M bc bs Q) : aj G l k d pc lv (.int x :: .ref M0.2 :: st) M bc bs Q := by
  have ht : kOut a M0.2 := Or.inr (Or.inl (by omega))
  refine aj.put (i := 0) (cq := (RX0, TX0, 11)) hd ((hR.out ht).trans hK.2.1) rfl (Nat.le_of_ble_eq_true rfl) hl rfl rfl rfl (Nat.le_of_ble_eq_true rfl) ?_
  exact hk _ _ (hK.up (F' := upd F 0 x) (l1' := l1) (l2' := l2)) (hR.upO ht _) rb_up
theorem aj.bG0 {idx : Nat} (hK : bK M0 M1 V0 V1 F g l1 l2) (hR : uW a M1 M V1 W R T tr S) (ha : a + 87 ≤ M0.2) (hl : Cond.fieldLink k.1.cls idx (TX0 0).1 (TX0 0).2.1 (TX0 0).2.2.1 ∈ z_W) (hd : decode k.2.1 pc = .ok (.getfield idx, 3)) (h : aj G l k d (pc + 3) lv (.int (F 0) :: st) M bc bs Q) : aj G l k d pc lv (.ref M0.2 :: st) M bc bs Q := aj.get (i := 0) (cq := (RX0, TX0, 11)) hd ((hR.out (Or.inr (Or.inl (by omega)))).trans hK.2.1) rfl (Nat.le_of_ble_eq_true rfl) hl rfl h
theorem aj.bP1 {idx : Nat} {x : Int32} (hK : bK M0 M1 V0 V1 F g l1 l2) (hR : uW a M1 M V1 W R T tr S) (ha : a + 87 ≤ M0.2) (hl : Cond.fieldLink k.1.cls idx (TX0 1).1 (TX0 1).2.1 (TX0 1).2.2.1 ∈ z_W) (hd : decode k.2.1 pc = .ok (.putfield idx, 3)) (hk : ∀ N1 M : zM, bK M0 N1 V0 V1 (upd F 1 x) g l1 l2 → uW a N1 M V1 W R T tr S → rb N1 M0.2 = rb M1 M0.2 → aj G l k d (pc + 3) lv st M bc bs Q) : aj G l k d pc lv (.int x :: .ref M0.2 :: st) M bc bs Q := by
  have ht : kOut a M0.2 := Or.inr (Or.inl (by omega))
  refine aj.put (i := 1) (cq := (RX0, TX0, 11)) hd ((hR.out ht).trans hK.2.1) rfl (Nat.le_of_ble_eq_true rfl) hl rfl rfl rfl (Nat.le_of_ble_eq_true rfl) ?_
  exact hk _ _ (hK.up (F' := upd F 1 x) (l1' := l1) (l2' := l2)) (hR.upO ht _) rb_up
theorem aj.bG1 {idx : Nat} (hK : bK M0 M1 V0 V1 F g l1 l2) (hR : uW a M1 M V1 W R T tr S) (ha : a + 87 ≤ M0.2) (hl : Cond.fieldLink k.1.cls idx (TX0 1).1 (TX0 1).2.1 (TX0 1).2.2.1 ∈ z_W) (hd : decode k.2.1 pc = .ok (.getfield idx, 3)) (h : aj G l k d (pc + 3) lv (.int (F 1) :: st) M bc bs Q) : aj G l k d pc lv (.ref M0.2 :: st) M bc bs Q := aj.get (i := 1) (cq := (RX0, TX0, 11)) hd ((hR.out (Or.inr (Or.inl (by omega)))).trans hK.2.1) rfl (Nat.le_of_ble_eq_true rfl) hl rfl h
theorem aj.bP2 {idx : Nat} {x : Int32} (hK : bK M0 M1 V0 V1 F g l1 l2) (hR : uW a M1 M V1 W R T tr S) (ha : a + 87 ≤ M0.2) (hl : Cond.fieldLink k.1.cls idx (TX0 2).1 (TX0 2).2.1 (TX0 2).2.2.1 ∈ z_W) (hd : decode k.2.1 pc = .ok (.putfield idx, 3)) (hk : ∀ N1 M : zM, bK M0 N1 V0 V1 (upd F 2 x) g l1 l2 → uW a N1 M V1 W R T tr S → rb N1 M0.2 = rb M1 M0.2 → aj G l k d (pc + 3) lv st M bc bs Q) : aj G l k d pc lv (.int x :: .ref M0.2 :: st) M bc bs Q := by
  have ht : kOut a M0.2 := Or.inr (Or.inl (by omega))
  refine aj.put (i := 2) (cq := (RX0, TX0, 11)) hd ((hR.out ht).trans hK.2.1) rfl (Nat.le_of_ble_eq_true rfl) hl rfl rfl rfl (Nat.le_of_ble_eq_true rfl) ?_
  exact hk _ _ (hK.up (F' := upd F 2 x) (l1' := l1) (l2' := l2)) (hR.upO ht _) rb_up
theorem aj.bG2 {idx : Nat} (hK : bK M0 M1 V0 V1 F g l1 l2) (hR : uW a M1 M V1 W R T tr S) (ha : a + 87 ≤ M0.2) (hl : Cond.fieldLink k.1.cls idx (TX0 2).1 (TX0 2).2.1 (TX0 2).2.2.1 ∈ z_W) (hd : decode k.2.1 pc = .ok (.getfield idx, 3)) (h : aj G l k d (pc + 3) lv (.int (F 2) :: st) M bc bs Q) : aj G l k d pc lv (.ref M0.2 :: st) M bc bs Q := aj.get (i := 2) (cq := (RX0, TX0, 11)) hd ((hR.out (Or.inr (Or.inl (by omega)))).trans hK.2.1) rfl (Nat.le_of_ble_eq_true rfl) hl rfl h
theorem aj.bP3 {idx : Nat} {x : Int32} (hK : bK M0 M1 V0 V1 F g l1 l2) (hR : uW a M1 M V1 W R T tr S) (ha : a + 87 ≤ M0.2) (hl : Cond.fieldLink k.1.cls idx (TX0 3).1 (TX0 3).2.1 (TX0 3).2.2.1 ∈ z_W) (hd : decode k.2.1 pc = .ok (.putfield idx, 3)) (hk : ∀ N1 M : zM, bK M0 N1 V0 V1 (upd F 3 x) g l1 l2 → uW a N1 M V1 W R T tr S → rb N1 M0.2 = rb M1 M0.2 → aj G l k d (pc + 3) lv st M bc bs Q) : aj G l k d pc lv (.int x :: .ref M0.2 :: st) M bc bs Q := by
  have ht : kOut a M0.2 := Or.inr (Or.inl (by omega))
  refine aj.put (i := 3) (cq := (RX0, TX0, 11)) hd ((hR.out ht).trans hK.2.1) rfl (Nat.le_of_ble_eq_true rfl) hl rfl rfl rfl (Nat.le_of_ble_eq_true rfl) ?_
  exact hk _ _ (hK.up (F' := upd F 3 x) (l1' := l1) (l2' := l2)) (hR.upO ht _) rb_up
theorem aj.bG3 {idx : Nat} (hK : bK M0 M1 V0 V1 F g l1 l2) (hR : uW a M1 M V1 W R T tr S) (ha : a + 87 ≤ M0.2) (hl : Cond.fieldLink k.1.cls idx (TX0 3).1 (TX0 3).2.1 (TX0 3).2.2.1 ∈ z_W) (hd : decode k.2.1 pc = .ok (.getfield idx, 3)) (h : aj G l k d (pc + 3) lv (.int (F 3) :: st) M bc bs Q) : aj G l k d pc lv (.ref M0.2 :: st) M bc bs Q := aj.get (i := 3) (cq := (RX0, TX0, 11)) hd ((hR.out (Or.inr (Or.inl (by omega)))).trans hK.2.1) rfl (Nat.le_of_ble_eq_true rfl) hl rfl h
theorem aj.bP4 {idx : Nat} {x : Int32} (hK : bK M0 M1 V0 V1 F g l1 l2) (hR : uW a M1 M V1 W R T tr S) (ha : a + 87 ≤ M0.2) (hl : Cond.fieldLink k.1.cls idx (TX0 4).1 (TX0 4).2.1 (TX0 4).2.2.1 ∈ z_W) (hd : decode k.2.1 pc = .ok (.putfield idx, 3)) (hk : ∀ N1 M : zM, bK M0 N1 V0 V1 (upd F 4 x) g l1 l2 → uW a N1 M V1 W R T tr S → rb N1 M0.2 = rb M1 M0.2 → aj G l k d (pc + 3) lv st M bc bs Q) : aj G l k d pc lv (.int x :: .ref M0.2 :: st) M bc bs Q := by
  have ht : kOut a M0.2 := Or.inr (Or.inl (by omega))
  refine aj.put (i := 4) (cq := (RX0, TX0, 11)) hd ((hR.out ht).trans hK.2.1) rfl (Nat.le_of_ble_eq_true rfl) hl rfl rfl rfl (Nat.le_of_ble_eq_true rfl) ?_
  exact hk _ _ (hK.up (F' := upd F 4 x) (l1' := l1) (l2' := l2)) (hR.upO ht _) rb_up
theorem aj.bG4 {idx : Nat} (hK : bK M0 M1 V0 V1 F g l1 l2) (hR : uW a M1 M V1 W R T tr S) (ha : a + 87 ≤ M0.2) (hl : Cond.fieldLink k.1.cls idx (TX0 4).1 (TX0 4).2.1 (TX0 4).2.2.1 ∈ z_W) (hd : decode k.2.1 pc = .ok (.getfield idx, 3)) (h : aj G l k d (pc + 3) lv (.int (F 4) :: st) M bc bs Q) : aj G l k d pc lv (.ref M0.2 :: st) M bc bs Q := aj.get (i := 4) (cq := (RX0, TX0, 11)) hd ((hR.out (Or.inr (Or.inl (by omega)))).trans hK.2.1) rfl (Nat.le_of_ble_eq_true rfl) hl rfl h
theorem aj.bP5 {idx : Nat} {x : Int32} (hK : bK M0 M1 V0 V1 F g l1 l2) (hR : uW a M1 M V1 W R T tr S) (ha : a + 87 ≤ M0.2) (hl : Cond.fieldLink k.1.cls idx (TX0 5).1 (TX0 5).2.1 (TX0 5).2.2.1 ∈ z_W) (hd : decode k.2.1 pc = .ok (.putfield idx, 3)) (hk : ∀ N1 M : zM, bK M0 N1 V0 V1 (upd F 5 x) g l1 l2 → uW a N1 M V1 W R T tr S → rb N1 M0.2 = rb M1 M0.2 → aj G l k d (pc + 3) lv st M bc bs Q) : aj G l k d pc lv (.int x :: .ref M0.2 :: st) M bc bs Q := by
  have ht : kOut a M0.2 := Or.inr (Or.inl (by omega))
  refine aj.put (i := 5) (cq := (RX0, TX0, 11)) hd ((hR.out ht).trans hK.2.1) rfl (Nat.le_of_ble_eq_true rfl) hl rfl rfl rfl (Nat.le_of_ble_eq_true rfl) ?_
  exact hk _ _ (hK.up (F' := upd F 5 x) (l1' := l1) (l2' := l2)) (hR.upO ht _) rb_up
theorem aj.bG5 {idx : Nat} (hK : bK M0 M1 V0 V1 F g l1 l2) (hR : uW a M1 M V1 W R T tr S) (ha : a + 87 ≤ M0.2) (hl : Cond.fieldLink k.1.cls idx (TX0 5).1 (TX0 5).2.1 (TX0 5).2.2.1 ∈ z_W) (hd : decode k.2.1 pc = .ok (.getfield idx, 3)) (h : aj G l k d (pc + 3) lv (.int (F 5) :: st) M bc bs Q) : aj G l k d pc lv (.ref M0.2 :: st) M bc bs Q := aj.get (i := 5) (cq := (RX0, TX0, 11)) hd ((hR.out (Or.inr (Or.inl (by omega)))).trans hK.2.1) rfl (Nat.le_of_ble_eq_true rfl) hl rfl h
theorem aj.bP6 {idx : Nat} {x : Int32} (hK : bK M0 M1 V0 V1 F g l1 l2) (hR : uW a M1 M V1 W R T tr S) (ha : a + 87 ≤ M0.2) (hl : Cond.fieldLink k.1.cls idx (TX0 6).1 (TX0 6).2.1 (TX0 6).2.2.1 ∈ z_W) (hd : decode k.2.1 pc = .ok (.putfield idx, 3)) (hk : ∀ N1 M : zM, bK M0 N1 V0 V1 (upd F 6 x) g l1 l2 → uW a N1 M V1 W R T tr S → rb N1 M0.2 = rb M1 M0.2 → aj G l k d (pc + 3) lv st M bc bs Q) : aj G l k d pc lv (.int x :: .ref M0.2 :: st) M bc bs Q := by
  have ht : kOut a M0.2 := Or.inr (Or.inl (by omega))
  refine aj.put (i := 6) (cq := (RX0, TX0, 11)) hd ((hR.out ht).trans hK.2.1) rfl (Nat.le_of_ble_eq_true rfl) hl rfl rfl rfl (Nat.le_of_ble_eq_true rfl) ?_
  exact hk _ _ (hK.up (F' := upd F 6 x) (l1' := l1) (l2' := l2)) (hR.upO ht _) rb_up
theorem aj.bG6 {idx : Nat} (hK : bK M0 M1 V0 V1 F g l1 l2) (hR : uW a M1 M V1 W R T tr S) (ha : a + 87 ≤ M0.2) (hl : Cond.fieldLink k.1.cls idx (TX0 6).1 (TX0 6).2.1 (TX0 6).2.2.1 ∈ z_W) (hd : decode k.2.1 pc = .ok (.getfield idx, 3)) (h : aj G l k d (pc + 3) lv (.int (F 6) :: st) M bc bs Q) : aj G l k d pc lv (.ref M0.2 :: st) M bc bs Q := aj.get (i := 6) (cq := (RX0, TX0, 11)) hd ((hR.out (Or.inr (Or.inl (by omega)))).trans hK.2.1) rfl (Nat.le_of_ble_eq_true rfl) hl rfl h
theorem aj.bP7 {idx : Nat} {x : Int32} (hK : bK M0 M1 V0 V1 F g l1 l2) (hR : uW a M1 M V1 W R T tr S) (ha : a + 87 ≤ M0.2) (hl : Cond.fieldLink k.1.cls idx (TX0 7).1 (TX0 7).2.1 (TX0 7).2.2.1 ∈ z_W) (hd : decode k.2.1 pc = .ok (.putfield idx, 3)) (hk : ∀ N1 M : zM, bK M0 N1 V0 V1 (upd F 7 x) g l1 l2 → uW a N1 M V1 W R T tr S → rb N1 M0.2 = rb M1 M0.2 → aj G l k d (pc + 3) lv st M bc bs Q) : aj G l k d pc lv (.int x :: .ref M0.2 :: st) M bc bs Q := by
  have ht : kOut a M0.2 := Or.inr (Or.inl (by omega))
  refine aj.put (i := 7) (cq := (RX0, TX0, 11)) hd ((hR.out ht).trans hK.2.1) rfl (Nat.le_of_ble_eq_true rfl) hl rfl rfl rfl (Nat.le_of_ble_eq_true rfl) ?_
  exact hk _ _ (hK.up (F' := upd F 7 x) (l1' := l1) (l2' := l2)) (hR.upO ht _) rb_up
theorem aj.bG7 {idx : Nat} (hK : bK M0 M1 V0 V1 F g l1 l2) (hR : uW a M1 M V1 W R T tr S) (ha : a + 87 ≤ M0.2) (hl : Cond.fieldLink k.1.cls idx (TX0 7).1 (TX0 7).2.1 (TX0 7).2.2.1 ∈ z_W) (hd : decode k.2.1 pc = .ok (.getfield idx, 3)) (h : aj G l k d (pc + 3) lv (.int (F 7) :: st) M bc bs Q) : aj G l k d pc lv (.ref M0.2 :: st) M bc bs Q := aj.get (i := 7) (cq := (RX0, TX0, 11)) hd ((hR.out (Or.inr (Or.inl (by omega)))).trans hK.2.1) rfl (Nat.le_of_ble_eq_true rfl) hl rfl h
theorem aj.bL9 {idx p : Nat} (hK : bK M0 M1 V0 V1 F g l1 l2) (hR : uW a M1 M V1 W R T tr S) (ha : a + 87 ≤ M0.2) (hl : Cond.fieldLink k.1.cls idx (TX0 9).1 (TX0 9).2.1 (TX0 9).2.2.1 ∈ z_W) (hd : decode k.2.1 pc = .ok (.putfield idx, 3)) (hk : ∀ N1 M : zM, bK M0 N1 V0 V1 F g (some p) l2 → uW a N1 M V1 W R T tr S → rb N1 M0.2 = rb M1 M0.2 → aj G l k d (pc + 3) lv st M bc bs Q) : aj G l k d pc lv (.ref p :: .ref M0.2 :: st) M bc bs Q := by
  have ht : kOut a M0.2 := Or.inr (Or.inl (by omega))
  refine aj.put (i := 9) (cq := (RX0, TX0, 11)) hd ((hR.out ht).trans hK.2.1) rfl (Nat.le_of_ble_eq_true rfl) hl rfl rfl rfl (Nat.le_of_ble_eq_true rfl) ?_
  exact hk _ _ (hK.up (F' := F) (l1' := some p) (l2' := l2)) (hR.upO ht _) rb_up
theorem aj.bL10 {idx p : Nat} (hK : bK M0 M1 V0 V1 F g l1 l2) (hR : uW a M1 M V1 W R T tr S) (ha : a + 87 ≤ M0.2) (hl : Cond.fieldLink k.1.cls idx (TX0 10).1 (TX0 10).2.1 (TX0 10).2.2.1 ∈ z_W) (hd : decode k.2.1 pc = .ok (.putfield idx, 3)) (hk : ∀ N1 M : zM, bK M0 N1 V0 V1 F g l1 (some p) → uW a N1 M V1 W R T tr S → rb N1 M0.2 = rb M1 M0.2 → aj G l k d (pc + 3) lv st M bc bs Q) : aj G l k d pc lv (.ref p :: .ref M0.2 :: st) M bc bs Q := by
  have ht : kOut a M0.2 := Or.inr (Or.inl (by omega))
  refine aj.put (i := 10) (cq := (RX0, TX0, 11)) hd ((hR.out ht).trans hK.2.1) rfl (Nat.le_of_ble_eq_true rfl) hl rfl rfl rfl (Nat.le_of_ble_eq_true rfl) ?_
  exact hk _ _ (hK.up (F' := F) (l1' := l1) (l2' := some p)) (hR.upO ht _) rb_up
end R89t
theorem k_addShooter {G : zG} {l : Launch} {M : zM} {a : Nat} {M0 M1 : zM} {V0 V1 : Nat → Nat → Int32} {W : Nat → Nat → Int64} {R : Nat → Nat → Option Nat} {T : List tkT} {F g : Nat → Int32} {l1 l2 : Option Nat} {S : pS} {tr : Prop} {n : Nat} (x : Int32) (ha : a + 87 ≤ M0.2) (hK : bK M0 M1 V0 V1 F g l1 l2) (hF : F 7 = nI n) (hn : n ≤ 4) (hR : uW a M1 M V1 W R T tr S) : am G l kX0_addShooter 0 [.ref M0.2, .int x] M 0 0 (zv (fun M' => ∃ N1, uW a N1 M' V1 W R T tr S ∧ rb N1 M0.2 = rb M1 M0.2 ∧ (if n < 4 then bK M0 N1 V0 V1 (upd F 7 (nI (n + 1))) (upd g n x) l1 l2 else bK M0 N1 V0 V1 F g l1 l2))) := by
  have hy : kOut a (M0.2 + 1) := Or.inr (Or.inl (by omega))
  refine am.of (by decide) (Nat.le_of_ble_eq_true rfl) ?_
  refine aj.aload_n dX0_addShooter_0 rfl ?_
  refine aj.bG7 hK hR ha w224 dX0_addShooter_1 ?_
  refine aj.aload_n dX0_addShooter_4 rfl ?_
  refine aj.get (i := 8) (cq := (RX0, TX0, 11)) dX0_addShooter_5 ((hR.out (Or.inr (Or.inl (by omega)))).trans hK.2.1) rfl (Nat.le_of_ble_eq_true rfl) w227 rfl ?_
  refine aj.alen (v := nI 4) dX0_addShooter_8 ((hR.out hy).trans hK.2.2.1) (by decide) rfl ?_
  refine aj.icmp_geN (a := n) (b := 4) (tgt := 32) dX0_addShooter_9 hF rfl (by omega) (by omega) rfl (fun c9 => ?_) (fun c9 => ?_)
  · exact aj.vret rfl dX0_addShooter_32 ⟨rfl, M1, hR, rfl, by rw [if_neg (by omega)]; exact hK⟩
  · refine aj.aload_n dX0_addShooter_12 rfl ?_
    refine aj.get (i := 8) (cq := (RX0, TX0, 11)) dX0_addShooter_13 ((hR.out (Or.inr (Or.inl (by omega)))).trans hK.2.1) rfl (Nat.le_of_ble_eq_true rfl) w227 rfl ?_
    refine aj.aload_n dX0_addShooter_16 rfl ?_
    refine aj.bG7 hK hR ha w224 dX0_addShooter_17 ?_
    refine aj.iload_n dX0_addShooter_20 rfl ?_
    rw [hF]
    refine aj.iast dX0_addShooter_21 ((hR.out hy).trans hK.2.2.1) (vp_in_nI (by omega) (by decide)) ?_
    rw [nI_clamp (by omega)]
    have hR := hR.upO hy (.inl (0, 4, .inl (upd g n x)))
    have hK : bK M0 (z_up M1 (M0.2 + 1) (.inl (0, 4, .inl (upd g n x)))) V0 V1 F (upd g n x) l1 l2 := ⟨hK.1, (z_up_n _ _ (by omega)).trans hK.2.1, z_up_s _ _ _, fun q hq => (z_up_n _ _ (by omega)).trans (hK.2.2.2.1 q hq), hK.2.2.2.2.1, fun q hq => (z_up_n _ _ (by have h5 := hK.2.2.2.2.1; have : M1.2 ≤ q := hq; omega)).trans (hK.2.2.2.2.2 q hq)⟩
    refine aj.aload_n dX0_addShooter_22 rfl ?_
    refine aj.dup dX0_addShooter_23 rfl ?_
    refine aj.bG7 hK hR ha w224 dX0_addShooter_24 ?_
    refine aj.iconst (v := 1) dX0_addShooter_27 rfl ?_
    refine aj.iaddN (a := n) (b := 1) dX0_addShooter_28 hF rfl ?_
    refine aj.bP7 hK hR ha w224 dX0_addShooter_29 (fun N1 M hK hR hrb => ?_)
    exact aj.vret rfl dX0_addShooter_32 ⟨rfl, N1, hR, hrb.trans rb_up1, by rw [if_pos (by omega)]; exact hK⟩
theorem u_readTop {G : zG} {l : Launch} {M : zM} {a : Nat} {M0 M1 : zM} {V0 V1 : Nat → Nat → Int32} {W : Nat → Nat → Int64} {R : Nat → Nat → Option Nat} {T : List tkT} {F g : Nat → Int32} {l1 l2 : Option Nat} {S : pS} (hh : pHd S = 2) (hC : uC V1 T) (ha : a + 87 ≤ M0.2) (hK : bK M0 M1 V0 V1 F g l1 l2) (hR : uW a M1 M V1 W R T False S) : am G l kX5_readTop 3 [.ref (a + 2), .ref M0.2] M 0 0 (zv (fun M' => ∃ N1 x3 x4 x5, bK M0 N1 V0 V1 (upd (upd (upd F 2 x3) 3 x4) 4 x5) g l1 l2 ∧ uW a N1 M' V1 W R T False (dTop3 S) ∧ rb N1 M0.2 = rb M1 M0.2 ∧ ((∃ cs ts, dTop3 S = .inr (cs, ts)) → x3 = nI (pNm (pNext S)) ∧ x4 = nI (pNm (pExp 3 (dTop1 S))) ∧ x5 = nI (pNm (pExp 4 (dTop2 S)))))) := by
  obtain ⟨B1, hB1⟩ : ∃ z, z = rb M1 M0.2 := ⟨_, rfl⟩
  rw [← hB1]
  refine am.of (by decide) (Nat.le_of_ble_eq_true rfl) ?_
  refine aj.aload_n dX5_readTop_0 rfl ?_
  refine aj.uC0 (d' := 1) (As := []) (rest := []) hR dX5_readTop_1 v_X5_76 li_X5_step rfl rfl rfl (Nat.le_of_ble_eq_true rfl) (Nat.le_of_ble_eq_true rfl) (u_step hC (by omega) hR) (fun M hR => ?_)
  refine aj.aload_n dX5_readTop_4 rfl ?_
  refine aj.aload_n dX5_readTop_5 rfl ?_
  refine aj.iconst (v := 0) dX5_readTop_6 rfl ?_
  refine aj.bipush (v := 99) dX5_readTop_7 rfl ?_
  refine aj.uCX (d' := 2) (As := [.int 0, .int 99]) (rest := [.ref M0.2]) hR dX5_readTop_9 v_X5_56 li_X5_takeNumber rfl rfl rfl (Nat.le_of_ble_eq_true rfl) (Nat.le_of_ble_eq_true rfl) (u_takeNumber hC 0 99 (fun _ => ⟨rfl, by decide⟩) rfl (by decide) hR) (fun x M hR => ?_)
  obtain ⟨hx0, hR⟩ := hR
  obtain ⟨y0, hy0⟩ : ∃ z, z = x := ⟨_, rfl⟩
  rw [← hy0] at hx0
  rw [← hy0]
  refine aj.bP2 hK hR ha w210 dX5_readTop_12 (fun M1 M hK hR hrb0 => ?_)
  refine aj.aload_n dX5_readTop_15 rfl ?_
  refine aj.sipush (v := 1003) dX5_readTop_16 rfl ?_
  refine aj.uC0 (d' := 2) (As := [.int 1003]) (rest := []) hR dX5_readTop_19 v_X5_52 li_X5_take rfl rfl rfl (Nat.le_of_ble_eq_true rfl) (Nat.le_of_ble_eq_true rfl) (u_take hC 3 kx3 (by decide) (by decide) (by decide) hR) (fun M hR => ?_)
  refine aj.aload_n dX5_readTop_22 rfl ?_
  refine aj.aload_n dX5_readTop_23 rfl ?_
  refine aj.iconst (v := 0) dX5_readTop_24 rfl ?_
  refine aj.bipush (v := 99) dX5_readTop_25 rfl ?_
  refine aj.uCX (d' := 2) (As := [.int 0, .int 99]) (rest := [.ref M0.2]) hR dX5_readTop_27 v_X5_56 li_X5_takeNumber rfl rfl rfl (Nat.le_of_ble_eq_true rfl) (Nat.le_of_ble_eq_true rfl) (u_takeNumber hC 0 99 (fun _ => ⟨rfl, by decide⟩) rfl (by decide) hR) (fun x M hR => ?_)
  obtain ⟨hx1, hR⟩ := hR
  obtain ⟨y1, hy1⟩ : ∃ z, z = x := ⟨_, rfl⟩
  rw [← hy1] at hx1
  rw [← hy1]
  refine aj.bP3 hK hR ha w213 dX5_readTop_30 (fun M1 M hK hR hrb1 => ?_)
  refine aj.aload_n dX5_readTop_33 rfl ?_
  refine aj.sipush (v := 1004) dX5_readTop_34 rfl ?_
  refine aj.uC0 (d' := 2) (As := [.int 1004]) (rest := []) hR dX5_readTop_37 v_X5_52 li_X5_take rfl rfl rfl (Nat.le_of_ble_eq_true rfl) (Nat.le_of_ble_eq_true rfl) (u_take hC 4 kx4 (by decide) (by decide) (by decide) hR) (fun M hR => ?_)
  refine aj.aload_n dX5_readTop_40 rfl ?_
  refine aj.aload_n dX5_readTop_41 rfl ?_
  refine aj.iconst (v := 0) dX5_readTop_42 rfl ?_
  refine aj.bipush (v := 99) dX5_readTop_43 rfl ?_
  refine aj.uCX (d' := 2) (As := [.int 0, .int 99]) (rest := [.ref M0.2]) hR dX5_readTop_45 v_X5_56 li_X5_takeNumber rfl rfl rfl (Nat.le_of_ble_eq_true rfl) (Nat.le_of_ble_eq_true rfl) (u_takeNumber hC 0 99 (fun _ => ⟨rfl, by decide⟩) rfl (by decide) hR) (fun x M hR => ?_)
  obtain ⟨hx2, hR⟩ := hR
  obtain ⟨y2, hy2⟩ : ∃ z, z = x := ⟨_, rfl⟩
  rw [← hy2] at hx2
  rw [← hy2]
  refine aj.bP4 hK hR ha w216 dX5_readTop_48 (fun M1 M hK hR hrb2 => ?_)
  refine aj.vret rfl dX5_readTop_51 ⟨rfl, M1, y0, y1, y2, hK, hR, by rw [hrb2, hrb1, hrb0, hB1], fun z => ?_⟩
  obtain ⟨cs, ts, z3⟩ := z
  obtain ⟨-, -, -, cs', ts', z2⟩ := pTake_in z3
  obtain ⟨cs2, ts2, z2⟩ := pExp_in (by decide) z2
  obtain ⟨-, -, -, cs3, ts3, z1⟩ := pTake_in z2
  obtain ⟨cs4, ts4, z1⟩ := pExp_in (by decide) z1
  exact ⟨hx0 _ _ z1, hx1 _ _ z2, hx2 _ _ z3⟩
theorem pExp_inl (k : Nat) (h : k < 98) (e : Nat × Nat) : pExp k (.inl e) = .inl e := if_neg (by show ¬ 99 = k; omega)
theorem pTake_inl (lo hi : Nat) (e : Nat × Nat) : pTake lo hi (.inl e) = .inl e := if_neg (by show ¬ 99 = 23; decide)
theorem u_readShooter {G : zG} {l : Launch} {M : zM} {a : Nat} {M0 M1 : zM} {V0 V1 : Nat → Nat → Int32} {W : Nat → Nat → Int64} {R : Nat → Nat → Option Nat} {T : List tkT} {F g : Nat → Int32} {l1 l2 : Option Nat} {S : pS} {n : Nat} (hh : pHd S = 5) (hF : F 7 = nI n) (hn : n ≤ 4) (hC : uC V1 T) (ha : a + 87 ≤ M0.2) (hK : bK M0 M1 V0 V1 F g l1 l2) (hR : uW a M1 M V1 W R T False S) : am G l kX5_readShooter 3 [.ref (a + 2), .ref M0.2] M 0 0 (zv (fun M' => ∃ N1 F' g', bK M0 N1 V0 V1 F' g' l1 l2 ∧ uW a N1 M' V1 W R T False (if n = 4 then pFail 4 S else dSho S) ∧ rb N1 M0.2 = rb M1 M0.2 ∧ ((∃ cs ts, (if n = 4 then pFail 4 S else dSho S) = .inr (cs, ts)) → n < 4 ∧ F' = upd F 7 (nI (n + 1)) ∧ g' = upd g n (nI (pNm (pExp 6 (pNext S))))))) := by
  refine am.of (by decide) (Nat.le_of_ble_eq_true rfl) ?_
  refine aj.aload_n dX5_readShooter_0 rfl ?_
  refine aj.bG7 hK hR ha w225 dX5_readShooter_1 ?_
  refine aj.iconst (v := 4) dX5_readShooter_4 rfl ?_
  refine aj.icmp_ltN (a := n) (b := 4) (tgt := 13) dX5_readShooter_5 hF rfl (by omega) (by omega) rfl (fun c5 => ?_) (fun c5 => ?_)
  · refine aj.aload_n dX5_readShooter_13 rfl ?_
    refine aj.uC0 (d' := 1) (As := []) (rest := []) hR dX5_readShooter_14 v_X5_76 li_X5_step rfl rfl rfl (Nat.le_of_ble_eq_true rfl) (Nat.le_of_ble_eq_true rfl) (u_step hC (by omega) hR) (fun M hR => ?_)
    refine aj.aload_n dX5_readShooter_17 rfl ?_
    refine aj.sipush (v := 1006) dX5_readShooter_18 rfl ?_
    refine aj.uC0 (d' := 2) (As := [.int 1006]) (rest := []) hR dX5_readShooter_21 v_X5_52 li_X5_take rfl rfl rfl (Nat.le_of_ble_eq_true rfl) (Nat.le_of_ble_eq_true rfl) (u_take hC 6 kx6 (by decide) (by decide) (by decide) hR) (fun M hR => ?_)
    refine aj.aload_n dX5_readShooter_24 rfl ?_
    refine aj.aload_n dX5_readShooter_25 rfl ?_
    refine aj.iconst (v := 0) dX5_readShooter_26 rfl ?_
    refine aj.bipush (v := 9) dX5_readShooter_27 rfl ?_
    refine aj.uCX (d' := 2) (As := [.int 0, .int 9]) (rest := [.ref M0.2]) hR dX5_readShooter_29 v_X5_56 li_X5_takeNumber rfl rfl rfl (Nat.le_of_ble_eq_true rfl) (Nat.le_of_ble_eq_true rfl) (u_takeNumber hC 0 9 (fun _ => ⟨rfl, by decide⟩) rfl (by decide) hR) (fun x M hR => ?_)
    obtain ⟨hx0, hR⟩ := hR
    obtain ⟨y0, hy0⟩ : ∃ z, z = x := ⟨_, rfl⟩
    rw [← hy0] at hx0
    rw [← hy0]
    refine aj.callE0 (d' := 0) (As := [.int y0]) (rest := []) dX5_readShooter_32 v_X5_118 li_X0_addShooter ⟨_, (hR.out (Or.inr (Or.inl (by omega)))).trans hK.2.1⟩ rfl rfl rfl (Nat.le_of_ble_eq_true rfl) (Nat.le_of_ble_eq_true rfl) (k_addShooter y0 ha hK hF hn hR) (fun M hM => ?_)
    obtain ⟨N1, hR, hrb, hKn⟩ := hM
    rw [if_pos (by omega : n < 4)] at hKn
    rw [if_neg (by omega : ¬ n = 4)]
    refine aj.vret rfl dX5_readShooter_35 ⟨rfl, N1, _, _, hKn, hR, hrb, fun z => ?_⟩
    obtain ⟨cs, ts, z⟩ := z
    exact ⟨by omega, rfl, by rw [hx0 _ _ z]⟩
  · refine aj.aload_n dX5_readShooter_8 rfl ?_
    refine aj.iconst (v := 4) dX5_readShooter_9 rfl ?_
    refine aj.uC0 (d' := 1) (As := [.int 4]) (rest := []) hR dX5_readShooter_10 v_X5_79 li_X5_fail rfl rfl rfl (Nat.le_of_ble_eq_true rfl) (Nat.le_of_ble_eq_true rfl) (u_fail hC 4 rfl (by decide) hR) (fun M hR => ?_)
    refine aj.aload_n dX5_readShooter_13 rfl ?_
    refine aj.uC0 (d' := 1) (As := []) (rest := []) hR dX5_readShooter_14 v_X5_76 li_X5_step rfl rfl rfl (Nat.le_of_ble_eq_true rfl) (Nat.le_of_ble_eq_true rfl) (u_step hC (by rw [pFail_hd]; decide) hR) (fun M hR => ?_)
    refine aj.aload_n dX5_readShooter_17 rfl ?_
    refine aj.sipush (v := 1006) dX5_readShooter_18 rfl ?_
    refine aj.uC0 (d' := 2) (As := [.int 1006]) (rest := []) hR dX5_readShooter_21 v_X5_52 li_X5_take rfl rfl rfl (Nat.le_of_ble_eq_true rfl) (Nat.le_of_ble_eq_true rfl) (u_take hC 6 kx6 (by decide) (by decide) (by decide) hR) (fun M hR => ?_)
    refine aj.aload_n dX5_readShooter_24 rfl ?_
    refine aj.aload_n dX5_readShooter_25 rfl ?_
    refine aj.iconst (v := 0) dX5_readShooter_26 rfl ?_
    refine aj.bipush (v := 9) dX5_readShooter_27 rfl ?_
    refine aj.uCX (d' := 2) (As := [.int 0, .int 9]) (rest := [.ref M0.2]) hR dX5_readShooter_29 v_X5_56 li_X5_takeNumber rfl rfl rfl (Nat.le_of_ble_eq_true rfl) (Nat.le_of_ble_eq_true rfl) (u_takeNumber hC 0 9 (fun _ => ⟨rfl, by decide⟩) rfl (by decide) hR) (fun x M hR => ?_)
    obtain ⟨hx0, hR⟩ := hR
    obtain ⟨y0, hy0⟩ : ∃ z, z = x := ⟨_, rfl⟩
    rw [← hy0] at hx0
    rw [← hy0]
    refine aj.callE0 (d' := 0) (As := [.int y0]) (rest := []) dX5_readShooter_32 v_X5_118 li_X0_addShooter ⟨_, (hR.out (Or.inr (Or.inl (by omega)))).trans hK.2.1⟩ rfl rfl rfl (Nat.le_of_ble_eq_true rfl) (Nat.le_of_ble_eq_true rfl) (k_addShooter y0 ha hK hF hn hR) (fun M hM => ?_)
    obtain ⟨N1, hR, hrb, hKn⟩ := hM
    rw [if_neg (by omega : ¬ n < 4)] at hKn
    rw [if_pos (by omega : n = 4)]
    obtain ⟨e, he⟩ := pFail_in 4 S
    refine aj.vret rfl dX5_readShooter_35 ⟨rfl, N1, F, g, hKn, ?_, hrb, fun z => ?_⟩
    · rw [he] at hR ⊢
      rw [show pNext (.inl e) = .inl e from rfl, pExp_inl 6 (by decide), pTake_inl] at hR
      exact hR
    · obtain ⟨cs, ts, z⟩ := z
      exact (pFail_no z).elim
