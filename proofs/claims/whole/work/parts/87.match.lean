/-- the match's cells: the object, two rows of ways (one of them spare), the steps -/
def mt (M0 M : zM) (t u v p q : Nat) (f g s : Nat → Int32) (w : Int64) : Prop := (M.2 = M0.2 ∧ ∀ x, (x < t ∨ t + 4 ≤ x) → M.1 x = M0.1 x) ∧ ((p = t + 1 ∧ q = t + 2) ∨ (p = t + 2 ∧ q = t + 1)) ∧ M.1 t = some (.inr (3, [.ref u, .ref v, .ref (t + 3), .long w])) ∧ ia M p 1189 f ∧ ia M q 1189 g ∧ ia M (t + 3) 10 s
section N87
variable {M0 M : zM} {t u v p q : Nat} {f g s : Nat → Int32} {w : Int64}
theorem ia_up {a b n m : Nat} {f : Nat → Int32} {c : zC} (h : ia M b n f) (e : b ≠ a) : ia (z_up M a c) b n f := by
  obtain ⟨k, h1, h2⟩ := h
  exact ⟨k, (z_up_n _ _ e).trans h1, h2⟩
theorem mt.upO (h : mt M0 M t u v p q f g s w) (u' v' : Nat) (w' : Int64) : mt M0 (z_up M t (.inr (3, [.ref u', .ref v', .ref (t + 3), .long w']))) t u' v' p q f g s w' := by
  obtain ⟨⟨h1, h2⟩, h3, h4, h5, h6, h7⟩ := h
  exact ⟨⟨h1, fun x hx => (z_up_n _ _ (by omega)).trans (h2 x hx)⟩, h3, z_up_s _ _ _, ia_up (m := 0) h5 (by omega), ia_up (m := 0) h6 (by omega), ia_up (m := 0) h7 (by omega)⟩
theorem mt.upQ (h : mt M0 M t u v p q f g s w) {k g' : Nat → Int32} (hk : ∀ j, j < 1189 → k j = g' j) : mt M0 (z_up M q (.inl (0, 1189, .inl k))) t u v p q f g' s w := by
  obtain ⟨⟨h1, h2⟩, h3, h4, h5, h6, h7⟩ := h
  exact ⟨⟨h1, fun x hx => (z_up_n _ _ (by omega)).trans (h2 x hx)⟩, h3, (z_up_n _ _ (by omega)).trans h4, ia_up (m := 0) h5 (by omega), ⟨k, z_up_s _ _ _, hk⟩, ia_up (m := 0) h7 (by omega)⟩
theorem mt.upP (h : mt M0 M t u v p q f g s w) {k f' : Nat → Int32} (hk : ∀ j, j < 1189 → k j = f' j) : mt M0 (z_up M p (.inl (0, 1189, .inl k))) t u v p q f' g s w := by
  obtain ⟨⟨h1, h2⟩, h3, h4, h5, h6, h7⟩ := h
  exact ⟨⟨h1, fun x hx => (z_up_n _ _ (by omega)).trans (h2 x hx)⟩, h3, (z_up_n _ _ (by omega)).trans h4, ⟨k, z_up_s _ _ _, hk⟩, ia_up (m := 0) h6 (by omega), ia_up (m := 0) h7 (by omega)⟩
theorem mt.upS (h : mt M0 M t u v p q f g s w) {k s' : Nat → Int32} (hk : ∀ j, j < 10 → k j = s' j) : mt M0 (z_up M (t + 3) (.inl (0, 10, .inl k))) t u v p q f g s' w := by
  obtain ⟨⟨h1, h2⟩, h3, h4, h5, h6, h7⟩ := h
  exact ⟨⟨h1, fun x hx => (z_up_n _ _ (by omega)).trans (h2 x hx)⟩, h3, (z_up_n _ _ (by omega)).trans h4, ia_up (m := 0) h5 (by omega), ia_up (m := 0) h6 (by omega), ⟨k, z_up_s _ _ _, hk⟩⟩
theorem mt.flip (h : mt M0 M t u v p q f g s w) : mt M0 M t u v q p g f s w := by
  obtain ⟨h1, h3, h4, h5, h6, h7⟩ := h
  exact ⟨h1, h3.symm.imp And.symm And.symm, h4, h6, h5, h7⟩
theorem mt.cg (h : mt M0 M t u v p q f g s w) {f' g' s' : Nat → Int32} (hf : ∀ j, j < 1189 → f j = f' j) (hg : ∀ j, j < 1189 → g j = g' j) (hs : ∀ j, j < 10 → s j = s' j) : mt M0 M t u v p q f' g' s' w := by
  obtain ⟨h1, h3, h4, ⟨k1, a1, b1⟩, ⟨k2, a2, b2⟩, ⟨k3, a3, b3⟩⟩ := h
  exact ⟨h1, h3, h4, ⟨k1, a1, fun j hj => (b1 j hj).trans (hf j hj)⟩, ⟨k2, a2, fun j hj => (b2 j hj).trans (hg j hj)⟩, ⟨k3, a3, fun j hj => (b3 j hj).trans (hs j hj)⟩⟩
theorem mt.ob (h : mt M0 M t u v p q f g s w) : ∃ fs, M.1 t = some (.inr (3, fs)) := ⟨_, h.2.2.1⟩
end N87
section R87
variable {G : zG} {l : Launch} {k : zY} {d pc bc bs : Nat} {lv : List (Nat × Value)} {st : List Value} {Q : Option Value → zM → Prop}
variable {M0 M : zM} {t u v p q : Nat} {f g s : Nat → Int32} {w : Int64}
theorem mt.gA {idx : Nat} (h : mt M0 M t u v p q f g s w) (hl : Cond.fieldLink k.1.cls idx (TX3 0).1 (TX3 0).2.1 (TX3 0).2.2.1 ∈ z_W) (hd : decode k.2.1 pc = .ok (.getfield idx, 3)) (hk : aj G l k d (pc + 3) lv (.ref u :: st) M bc bs Q) : aj G l k d pc lv (.ref t :: st) M bc bs Q := aj.get (i := 0) (cq := (RX3, TX3, 4)) hd h.2.2.1 rfl (Nat.le_of_ble_eq_true rfl) hl rfl hk
theorem mt.gS {idx : Nat} (h : mt M0 M t u v p q f g s w) (hl : Cond.fieldLink k.1.cls idx (TX3 1).1 (TX3 1).2.1 (TX3 1).2.2.1 ∈ z_W) (hd : decode k.2.1 pc = .ok (.getfield idx, 3)) (hk : aj G l k d (pc + 3) lv (.ref v :: st) M bc bs Q) : aj G l k d pc lv (.ref t :: st) M bc bs Q := aj.get (i := 1) (cq := (RX3, TX3, 4)) hd h.2.2.1 rfl (Nat.le_of_ble_eq_true rfl) hl rfl hk
theorem mt.gT {idx : Nat} (h : mt M0 M t u v p q f g s w) (hl : Cond.fieldLink k.1.cls idx (TX3 2).1 (TX3 2).2.1 (TX3 2).2.2.1 ∈ z_W) (hd : decode k.2.1 pc = .ok (.getfield idx, 3)) (hk : aj G l k d (pc + 3) lv (.ref (t + 3) :: st) M bc bs Q) : aj G l k d pc lv (.ref t :: st) M bc bs Q := aj.get (i := 2) (cq := (RX3, TX3, 4)) hd h.2.2.1 rfl (Nat.le_of_ble_eq_true rfl) hl rfl hk
theorem mt.gW {idx : Nat} (h : mt M0 M t u v p q f g s w) (hl : Cond.fieldLink k.1.cls idx (TX3 3).1 (TX3 3).2.1 (TX3 3).2.2.1 ∈ z_W) (hd : decode k.2.1 pc = .ok (.getfield idx, 3)) (hk : aj G l k d (pc + 3) lv (.long w :: st) M bc bs Q) : aj G l k d pc lv (.ref t :: st) M bc bs Q := aj.get (i := 3) (cq := (RX3, TX3, 4)) hd h.2.2.1 rfl (Nat.le_of_ble_eq_true rfl) hl rfl hk
theorem mt.pA {idx : Nat} {x : Nat} (h : mt M0 M t u v p q f g s w) (hl : Cond.fieldLink k.1.cls idx (TX3 0).1 (TX3 0).2.1 (TX3 0).2.2.1 ∈ z_W) (hd : decode k.2.1 pc = .ok (.putfield idx, 3)) (hk : ∀ M : zM, mt M0 M t x v p q f g s w → aj G l k d (pc + 3) lv st M bc bs Q) : aj G l k d pc lv (.ref x :: .ref t :: st) M bc bs Q := aj.put (i := 0) (cq := (RX3, TX3, 4)) hd h.2.2.1 rfl (Nat.le_of_ble_eq_true rfl) hl rfl rfl rfl (Nat.le_of_ble_eq_true rfl) (hk _ (h.upO x v w))
theorem mt.pS {idx : Nat} {x : Nat} (h : mt M0 M t u v p q f g s w) (hl : Cond.fieldLink k.1.cls idx (TX3 1).1 (TX3 1).2.1 (TX3 1).2.2.1 ∈ z_W) (hd : decode k.2.1 pc = .ok (.putfield idx, 3)) (hk : ∀ M : zM, mt M0 M t u x p q f g s w → aj G l k d (pc + 3) lv st M bc bs Q) : aj G l k d pc lv (.ref x :: .ref t :: st) M bc bs Q := aj.put (i := 1) (cq := (RX3, TX3, 4)) hd h.2.2.1 rfl (Nat.le_of_ble_eq_true rfl) hl rfl rfl rfl (Nat.le_of_ble_eq_true rfl) (hk _ (h.upO u x w))
theorem mt.pW {idx : Nat} {x : Int64} (h : mt M0 M t u v p q f g s w) (hl : Cond.fieldLink k.1.cls idx (TX3 3).1 (TX3 3).2.1 (TX3 3).2.2.1 ∈ z_W) (hd : decode k.2.1 pc = .ok (.putfield idx, 3)) (hk : ∀ M : zM, mt M0 M t u v p q f g s x → aj G l k d (pc + 3) lv st M bc bs Q) : aj G l k d pc lv (.long x :: .ref t :: st) M bc bs Q := aj.put (i := 3) (cq := (RX3, TX3, 4)) hd h.2.2.1 rfl (Nat.le_of_ble_eq_true rfl) hl rfl rfl rfl (Nat.le_of_ble_eq_true rfl) (hk _ (h.upO u v x))
theorem mt.lP {j : Nat} {z : Int32} (h : mt M0 M t u v p q f g s w) (hd : decode k.2.1 pc = .ok (.iaload, 1)) (hz : z = nI j) (hj : j < 1189) (hk : aj G l k d (pc + 1) lv (.int (f j) :: st) M bc bs Q) : aj G l k d pc lv (.int z :: .ref p :: st) M bc bs Q := by
  obtain ⟨e, h1, h2⟩ := h.2.2.2.1
  rw [hz]
  exact aj.iald hd h1 (vp_in_nI hj (by decide)) (by rw [nI_clamp (by omega), h2 j hj]; exact hk)
theorem mt.sP {j : Nat} {z x : Int32} (h : mt M0 M t u v p q f g s w) (hd : decode k.2.1 pc = .ok (.iastore, 1)) (hz : z = nI j) (hj : j < 1189) (hk : ∀ M : zM, mt M0 M t u v p q (upd f j x) g s w → aj G l k d (pc + 1) lv st M bc bs Q) : aj G l k d pc lv (.int x :: .int z :: .ref p :: st) M bc bs Q := by
  obtain ⟨e, h1, h2⟩ := h.2.2.2.1
  rw [hz]
  refine aj.iast hd h1 (vp_in_nI hj (by decide)) ?_
  rw [nI_clamp (by omega)]
  exact hk _ (h.upP (fun i hi => by
    by_cases q : i = j
    · rw [q, pk_us, pk_us]
    · rw [pk_un q, pk_un q]; exact h2 i hi))
theorem mt.nP (h : mt M0 M t u v p q f g s w) (hd : decode k.2.1 pc = .ok (.arraylength, 1)) (hk : aj G l k d (pc + 1) lv (.int (nI 1189) :: st) M bc bs Q) : aj G l k d pc lv (.ref p :: st) M bc bs Q := by
  obtain ⟨e, h1, h2⟩ := h.2.2.2.1
  exact aj.alen hd h1 (by decide) rfl hk
theorem mt.lQ {j : Nat} {z : Int32} (h : mt M0 M t u v p q f g s w) (hd : decode k.2.1 pc = .ok (.iaload, 1)) (hz : z = nI j) (hj : j < 1189) (hk : aj G l k d (pc + 1) lv (.int (g j) :: st) M bc bs Q) : aj G l k d pc lv (.int z :: .ref q :: st) M bc bs Q := by
  obtain ⟨e, h1, h2⟩ := h.2.2.2.2.1
  rw [hz]
  exact aj.iald hd h1 (vp_in_nI hj (by decide)) (by rw [nI_clamp (by omega), h2 j hj]; exact hk)
theorem mt.sQ {j : Nat} {z x : Int32} (h : mt M0 M t u v p q f g s w) (hd : decode k.2.1 pc = .ok (.iastore, 1)) (hz : z = nI j) (hj : j < 1189) (hk : ∀ M : zM, mt M0 M t u v p q f (upd g j x) s w → aj G l k d (pc + 1) lv st M bc bs Q) : aj G l k d pc lv (.int x :: .int z :: .ref q :: st) M bc bs Q := by
  obtain ⟨e, h1, h2⟩ := h.2.2.2.2.1
  rw [hz]
  refine aj.iast hd h1 (vp_in_nI hj (by decide)) ?_
  rw [nI_clamp (by omega)]
  exact hk _ (h.upQ (fun i hi => by
    by_cases q : i = j
    · rw [q, pk_us, pk_us]
    · rw [pk_un q, pk_un q]; exact h2 i hi))
theorem mt.nQ (h : mt M0 M t u v p q f g s w) (hd : decode k.2.1 pc = .ok (.arraylength, 1)) (hk : aj G l k d (pc + 1) lv (.int (nI 1189) :: st) M bc bs Q) : aj G l k d pc lv (.ref q :: st) M bc bs Q := by
  obtain ⟨e, h1, h2⟩ := h.2.2.2.2.1
  exact aj.alen hd h1 (by decide) rfl hk
theorem mt.lS {j : Nat} {z : Int32} (h : mt M0 M t u v p q f g s w) (hd : decode k.2.1 pc = .ok (.iaload, 1)) (hz : z = nI j) (hj : j < 10) (hk : aj G l k d (pc + 1) lv (.int (s j) :: st) M bc bs Q) : aj G l k d pc lv (.int z :: .ref (t + 3) :: st) M bc bs Q := by
  obtain ⟨e, h1, h2⟩ := h.2.2.2.2.2
  rw [hz]
  exact aj.iald hd h1 (vp_in_nI hj (by decide)) (by rw [nI_clamp (by omega), h2 j hj]; exact hk)
theorem mt.sS {j : Nat} {z x : Int32} (h : mt M0 M t u v p q f g s w) (hd : decode k.2.1 pc = .ok (.iastore, 1)) (hz : z = nI j) (hj : j < 10) (hk : ∀ M : zM, mt M0 M t u v p q f g (upd s j x) w → aj G l k d (pc + 1) lv st M bc bs Q) : aj G l k d pc lv (.int x :: .int z :: .ref (t + 3) :: st) M bc bs Q := by
  obtain ⟨e, h1, h2⟩ := h.2.2.2.2.2
  rw [hz]
  refine aj.iast hd h1 (vp_in_nI hj (by decide)) ?_
  rw [nI_clamp (by omega)]
  exact hk _ (h.upS (fun i hi => by
    by_cases q : i = j
    · rw [q, pk_us, pk_us]
    · rw [pk_un q, pk_un q]; exact h2 i hi))
end R87
theorem mt_fillP {G : zG} {l : Launch} {M0 M : zM} {t u v p q : Nat} {f g s : Nat → Int32} {w : Int64} (x : Int32) (h : mt M0 M t u v p q f g s w) : am G l kJ7_fill_53178 0 [.ref p, .int x] M 0 0 (zv (fun M' => mt M0 M' t u v p q (fun _ => x) g s w)) := by
  obtain ⟨e, h1, h2⟩ := h.2.2.2.1
  refine am.mono (j_fillI x (by decide) h1) (fun r M' hq => ⟨hq.1, ?_⟩)
  obtain ⟨f', e2, hf⟩ := hq.2
  rw [e2]
  exact h.upP hf
theorem mt_fillQ {G : zG} {l : Launch} {M0 M : zM} {t u v p q : Nat} {f g s : Nat → Int32} {w : Int64} (x : Int32) (h : mt M0 M t u v p q f g s w) : am G l kJ7_fill_53178 0 [.ref q, .int x] M 0 0 (zv (fun M' => mt M0 M' t u v p q f (fun _ => x) s w)) := by
  obtain ⟨e, h1, h2⟩ := h.2.2.2.2.1
  refine am.mono (j_fillI x (by decide) h1) (fun r M' hq => ⟨hq.1, ?_⟩)
  obtain ⟨f', e2, hf⟩ := hq.2
  rw [e2]
  exact h.upQ hf
theorem k_mtBegin {G : zG} {l : Launch} {M0 M : zM} {t p q : Nat} {f g s : Nat → Int32} {w : Int64} (hA : mt M0 M t p q p q f g s w) : am G l kX3_begin 1 [.ref t] M 0 0 (zv (fun M' => mt M0 M' t p q p q (fun k => nI (hW [] k)) g s 1)) := by
  refine am.of (by decide) (Nat.le_of_ble_eq_true rfl) ?_
  refine aj.aload_n dX3_begin_0 rfl ?_
  refine mt.gA hA w1012 dX3_begin_1 ?_
  refine aj.iconst (v := 0) dX3_begin_4 rfl ?_
  refine aj.callS0 (d' := 0) (As := [.ref p, .int 0]) (rest := []) dX3_begin_5 v_X3_25 w701 rfl rfl (Nat.le_of_ble_eq_true rfl) (Nat.le_of_ble_eq_true rfl) (mt_fillP 0 hA) (fun M hM => ?_)
  have hA := hM
  refine aj.aload_n dX3_begin_8 rfl ?_
  refine mt.gA hA w1012 dX3_begin_9 ?_
  refine aj.sipush (v := 594) dX3_begin_12 rfl ?_
  refine aj.iconst (v := 1) dX3_begin_15 rfl ?_
  refine mt.sP (j := 594) hA dX3_begin_16 rfl (by omega) (fun M hA => ?_)
  refine aj.aload_n dX3_begin_17 rfl ?_
  refine aj.lconst (v := 1) dX3_begin_18 rfl ?_
  refine mt.pW hA w1015 dX3_begin_19 (fun M hA => ?_)
  exact aj.vret rfl dX3_begin_22 ⟨rfl, hA.cg (fun j hj => by
    rw [hW_0]
    by_cases e : j = 594
    · rw [e, pk_us, if_pos rfl]; rfl
    · rw [pk_un e, if_neg e]; rfl) (fun _ _ => rfl) (fun _ _ => rfl)⟩
theorem k_mtTell {G : zG} {l : Launch} {M0 M : zM} {t p q : Nat} {f g s : Nat → Int32} {w : Int64} (j : Nat) {x_j : Int32} (e_j : x_j = nI j) (x : Int32) (hj : j < 10) (hA : mt M0 M t p q p q f g s w) : am G l kX3_tell 1 [.ref t, .int x_j, .int x] M 0 0 (zv (fun M' => mt M0 M' t p q p q f g (upd s j x) w)) := by
  refine am.of (by decide) (Nat.le_of_ble_eq_true rfl) ?_
  refine aj.iload_n dX3_tell_0 rfl ?_
  refine aj.i2lN (a := j) dX3_tell_1 e_j (by omega) ?_
  refine aj.callSN1 (d' := 0) (As := [.long (lN j)]) (rest := []) dX3_tell_2 v_X3_31 w752 rfl rfl (Nat.le_of_ble_eq_true rfl) (Nat.le_of_ble_eq_true rfl) (k_isLotN _ j (by omega)) (fun M hM => ?_)
  subst hM
  refine aj.if_eqN (a := 1) (tgt := 15) dX3_tell_5 rfl (by omega) rfl (fun c5 => ?_) (fun c5 => ?_)
  · exact absurd c5 (by omega)
  · refine aj.aload_n dX3_tell_8 rfl ?_
    refine mt.gT hA w1014 dX3_tell_9 ?_
    refine aj.iload_n dX3_tell_12 rfl ?_
    refine aj.iload_n dX3_tell_13 rfl ?_
    refine mt.sS (j := j) hA dX3_tell_14 e_j (by omega) (fun M hA => ?_)
    exact aj.vret rfl dX3_tell_15 ⟨rfl, hA⟩
