def yCl : MethodName := ⟨"[I", "clone", "()Ljava/lang/Object;"⟩
def yClo : MethodName := ⟨"java/lang/Object", "clone", "()Ljava/lang/Object;"⟩
theorem wcl1 : Cond.methodLink RJ7 316 ⟨"[I", "clone", "()Ljava/lang/Object;"⟩ ∈ z_W := z_m3 74 rfl rfl
theorem wcl2 : Cond.sameMethod "[I" "java/lang/Object" "clone" "()Ljava/lang/Object;" ∈ z_W := z_m3 75 rfl rfl
theorem wcl3 : Cond.native ⟨"java/lang/Object", "clone", "()Ljava/lang/Object;"⟩ ∈ z_W := z_m3 76 rfl rfl
theorem wcl4 : Cond.instanceMethod ⟨"java/lang/Object", "clone", "()Ljava/lang/Object;"⟩ ∈ z_W := z_m3 77 rfl rfl
theorem wcl5 : Cond.selects "[I" ⟨"[I", "clone", "()Ljava/lang/Object;"⟩ ⟨"java/lang/Object", "clone", "()Ljava/lang/Object;"⟩ ∈ z_W := z_m3 78 rfl rfl
theorem wac1 : Cond.methodLink RJ7 150 arraycopyName ∈ z_W := z_m3 82 rfl rfl
theorem wac2 : Cond.native arraycopyName ∈ z_W := z_m3 84 rfl rfl
theorem wac3 : Cond.static arraycopyName ∈ z_W := z_m3 83 rfl rfl
/-- rows of ints can be cloned -/
def zCl (G : zG) : Prop := ∀ U : State, G.2.2.2.2.2 U → va_Nw (.castable "[I" "java/lang/Cloneable") U
theorem z_upnw (M : zM) (c c' : zC) : z_up (z_nw M c) M.2 c' = z_nw M c' := by
  unfold z_up z_nw
  congr 1
  funext x
  show (if x = M.2 then some c' else if x = M.2 then some c else M.1 x) = if x = M.2 then some c' else M.1 x
  by_cases h : x = M.2
  · rw [if_pos h, if_pos h]
  · rw [if_neg h, if_neg h, if_neg h]
section R89r
variable {G : zG} {l : Launch} {k : zY} {d pc bc bs : Nat} {lv : List (Nat × Value)} {st : List Value} {M : zM} {Q : Option Value → zM → Prop}
theorem aj.clone {a n : Nat} {f : Nat → Int32} {idx : Nat} (hcl : zCl G) (hd : decode k.2.1 pc = .ok (.invokevirtual idx, 3)) (hlk : Cond.methodLink k.1.cls idx ⟨"[I", "clone", "()Ljava/lang/Object;"⟩ ∈ z_W) (ha : M.1 a = some (.inl (0, n, .inl f))) (hd1 : 1 ≤ d) (hsum : (st.map fun v => v.category).sum ≤ 8) (h : aj G l k d (pc + 3) lv (.ref M.2 :: st) (z_nw M (.inl (0, n, .inl f))) bc bs Q) : aj G l k d pc lv (.ref a :: st) M (bc + 1) (bs + n) Q := by
  intro p e R s m args below meth c H locs cells slots LS C hS hV hL h1 h2 h3 h4
  obtain ⟨hba, hat⟩ := hS.2.2.2 a _ ha
  have hK := C.2.2.2.2.2.2.2.1.1
  have hts := C.2.2.2.2.2.1
  have hnm : s.vm.findClass "[I" = some (G.2.2.1 0) := (hK.2 0 (G.2.2.1 0, .int) rfl).2
  have hcst := hcl s (C.2.2.2.2.2.2.2.1.2.2.2.2 s (Vm.Alike.refl _))
  obtain ⟨c0, t0', f1, f2, f3⟩ := Cond.castable_spec (va_Nw.use (A := args) rfl hcst)
  cases hnm.symm.trans f1
  have hcell : H[a]? = some (vp_cell (G.2.2.1 0) (n, .inl f)) := hat
  have hsz : (vp_cell (G.2.2.1 0) (n, .inl f)).slots.size = n := arrV_size _ _ _
  intro T hT X
  obtain ⟨-, kA, hkA, comp, hkind⟩ := State.isArrayOf_alike X.warmed.alike ((hK.2 0 (G.2.2.1 0, .int) rfl).1 0 (fun _ => .null))
  obtain ⟨-, kS, hkS, compS, hkindS⟩ := (hK.2 0 (G.2.2.1 0, .int) rfl).1 0 (fun _ => .null)
  obtain ⟨vm', X', st'⟩ := X.cloneArray C.1 C.2.2.2.2.1 (hts _ hlk) (hts _ wcl2) (hts _ wcl3) (hts _ wcl4) (hts _ wcl5) (a := a) (cell := vp_cell (G.2.2.1 0) (n, .inl f)) (by rw [hT]; exact hcell) (fun k h => by cases h) (fun h => by cases h) hnm f2 f3
    (fun i v hv => by
      have hk' : T.vm.classes[G.2.2.1 0]? = some kA := hkA
      have hfi : fits .int v = true := va_fit (fun _ _ => rfl) i v hv
      show T.fitsSlot (G.2.2.1 0) .none i v = true
      simpa [State.fitsSlot, State.slotType?, hk', hkind] using hfi)
    (g := F0 m pc LS (.ref a :: st)) rfl (by rw [C.2.2.2.1]; exact hL.1) rfl (by rw [C.2.1]; exact hd) (by omega) (by show 2 * 0 + _ + 14 ≤ _; omega) (by omega) (by rw [hsz]; omega) (hloader := Vm.clonesLoader_of_array hkS hkindS)
  rw [hsz] at X'
  have z1 : (H.push (vp_cell (G.2.2.1 0) (n, .inl f))).size = H.size + 1 := Array.size_push _
  have e1 : (H.push (vp_cell (G.2.2.1 0) (n, .inl f)))[H.size]? = some (vp_cell (G.2.2.1 0) (n, .inl f)) := Array.getElem?_push_size
  have o1 : ∀ q : Nat, q < H.size → (H.push (vp_cell (G.2.2.1 0) (n, .inl f)))[q]? = H[q]? := fun q hq => by rw [Array.getElem?_push, if_neg (Nat.ne_of_lt hq)]
  have hw := h p e R s m args below meth c (H.push (vp_cell (G.2.2.1 0) (n, .inl f))) locs (cells + 1) (slots + n) LS C (hS.new (c := .inl (0, n, .inl f)) e1 z1 o1) ⟨Nat.le_trans hV.1 (by rw [z1]; exact Nat.le_succ _), fun q q1 q2 => (o1 q (Nat.lt_of_lt_of_le q1 hV.1)).trans (hV.2.1 q q1 q2), hV.2.2⟩ hL h1 h2 (by omega) (by omega)
  rw [show cells + 1 + bc = cells + (bc + 1) by omega, show slots + n + bs = slots + (bs + n) by omega] at hw
  obtain ⟨t, b1, b2⟩ := hw ((T.setVm vm').pushCell (vp_cell (G.2.2.1 0) (n, .inl f))) (by rw [← hT]; rfl) X'
  refine ⟨t, st' t ?_, b2⟩
  rw [hT, hS.1]
  exact b1
theorem aj.castI {a n : Nat} {f : Nat → Int32} {idx : Nat} (hd : decode k.2.1 pc = .ok (.checkcast idx, 3)) (hlk : Cond.classLink k.1.cls idx "[I" ∈ z_W) (ha : M.1 a = some (.inl (0, n, .inl f))) (h : aj G l k d (pc + 3) lv (.ref a :: st) M bc bs Q) : aj G l k d pc lv (.ref a :: st) M bc bs Q := by
  intro p e R s m args below meth c H locs cells slots LS C hS hV hL h1 h2 h3 h4
  have hK := C.2.2.2.2.2.2.2.1.1
  have hnm : s.vm.findClass "[I" = some (G.2.2.1 0) := (hK.2 0 (G.2.2.1 0, .int) rfl).2
  exact va_castA C.1 C.2.1 C.2.2.2.2.1 (C.2.2.2.2.2.1 _ hlk) (z_P1 hS ha) 0 rfl hnm hd (h p e R s m args below meth c H locs cells slots LS C hS hV hL h1 h2 h3 h4)
theorem aj.copyI {a0 a n0 n1 n : Nat} {f g : Nat → Int32} {x : Int32} {idx : Nat} (hx : x = nI n) (hn31 : n < 2 ^ 31) (hd : decode k.2.1 pc = .ok (.invokestatic idx, 3)) (hlk : Cond.methodLink k.1.cls idx arraycopyName ∈ z_W) (ha0 : M.1 a0 = some (.inl (0, n0, .inl f))) (ha : M.1 a = some (.inl (0, n1, .inl g))) (hn0 : n ≤ n0) (hn1 : n ≤ n1) (hd1 : 1 ≤ d) (hsum : (st.map fun v => v.category).sum ≤ 8) (h : aj G l k d (pc + 3) lv st (z_up M a (.inl (0, n1, .inl (va_cpy f g 0 0 n)))) bc bs Q) : aj G l k d pc lv (.int x :: .int 0 :: .ref a :: .int 0 :: .ref a0 :: st) M bc bs Q := by
  subst hx
  intro p e R s m args below meth c H locs cells slots LS C hS hV hL h1 h2 h3 h4
  obtain ⟨hba, hat⟩ := hS.2.2.2 a _ ha
  obtain ⟨-, hat0⟩ := hS.2.2.2 a0 _ ha0
  have hK := C.2.2.2.2.2.2.2.1.1
  have hts := C.2.2.2.2.2.1
  have hc0 : H[a0]? = some (vp_cell (G.2.2.1 0) (n0, .inl f)) := hat0
  have hc1 : H[a]? = some (vp_cell (G.2.2.1 0) (n1, .inl g)) := hat
  have hcl : (nI n).toNatClampNeg = n := nI_clamp hn31
  have hw18 : nativeFrameWords "java/lang/System" "arraycopy" 5 = 7 := by decide
  have h0i : (0 : Int32).toInt = 0 := rfl
  have h0c : (0 : Int32).toNatClampNeg = 0 := rfl
  intro T hT X
  obtain ⟨-, k0, hk0, cm0, hkk0⟩ := (hK.2 0 (G.2.2.1 0, .int) rfl).1 n0 (fun j => .int (f j))
  obtain ⟨vm', X', step⟩ := X.arraycopy C.1 C.2.2.2.2.1 (hts _ hlk) (hts _ wac2) (hts _ wac3) (hts _ w139) (src := a0) (dst := a) (cs := vp_cell (G.2.2.1 0) (n0, .inl f)) (cd := vp_cell (G.2.2.1 0) (n1, .inl g)) (srcPos := 0) (destPos := 0) (n := nI n) (by rw [hT]; exact hc0) (by rw [hT]; exact hc1)
    (fun _ h => by cases h) (fun _ h => by cases h) (fun h => by cases h) (fun h => by cases h) hk0 hk0 hkk0 hkk0 (show ((refKind FieldType.int != refKind FieldType.int) || (!refKind FieldType.int && FieldType.int != FieldType.int)) = false by decide) (by decide) (by decide) (nI_pos hn31)
    (by rw [h0i, nI_toInt hn31]; show ¬ _ > ((arrV (G.2.2.1 0) n0 (fun j => .int (f j))).slots.size : Int); rw [arrV_size]; omega)
    (by rw [h0i, nI_toInt hn31]; show ¬ _ > ((arrV (G.2.2.1 0) n1 (fun j => .int (g j))).slots.size : Int); rw [arrV_size]; omega)
    (fun vm₁ _ i hi => by
      rw [hcl] at hi
      have e : (vp_cell (G.2.2.1 0) (n0, .inl f)).slots.getD ((0 : Int32).toNatClampNeg + i) .null = .int (f ((0 : Int32).toNatClampNeg + i)) := by
        show (arrV (G.2.2.1 0) n0 (fun j => .int (f j))).slots.getD _ _ = _
        rw [Array.getD_eq_getD_getElem?, arrV_read _ _ (by rw [h0c]; omega)]
        rfl
      refine ⟨?_, ?_⟩
      · rw [e]; rfl
      · rw [e]; exact trivial)
    (g := F0 m pc LS (.int (nI n) :: .int 0 :: .ref a :: .int 0 :: .ref a0 :: st)) rfl (by rw [C.2.2.2.1]; exact hL.1) (rest := st) rfl (by rw [C.2.1]; exact hd) (by omega) (by show 2 * 0 + _ + _ ≤ _; omega)
  have e1 : copied (vp_cell (G.2.2.1 0) (n0, .inl f)) (vp_cell (G.2.2.1 0) (n1, .inl g)) 0 0 (nI n) = vp_cell (G.2.2.1 0) (n1, .inl (va_cpy f g 0 0 n)) := by
    have := va_copied (sp := (0 : Int32).toNatClampNeg) (dp := (0 : Int32).toNatClampNeg) (n := (nI n).toNatClampNeg) (fun z : Int32 => Value.int z) (G.2.2.1 0) (G.2.2.1 0) f g (n0 := n0) (n1 := n1) (by rw [hcl, h0c]; omega)
    refine Eq.trans this ?_
    rw [hcl]
    rfl
  rw [e1] at X' step
  have hl : a < H.size := (Array.getElem?_eq_some_iff.mp hc1).1
  have oq : ∀ q : Nat, q ≠ a → (H.setIfInBounds a (vp_cell (G.2.2.1 0) (n1, .inl (va_cpy f g 0 0 n))))[q]? = H[q]? := fun q hq => by simp [Array.getElem?_setIfInBounds, Ne.symm hq]
  have zz : (H.setIfInBounds a (vp_cell (G.2.2.1 0) (n1, .inl (va_cpy f g 0 0 n)))).size = H.size := by simp
  have hheap : ((T.setVm vm').setCell a (vp_cell (G.2.2.1 0) (n1, .inl (va_cpy f g 0 0 n)))).heap = H.setIfInBounds a (vp_cell (G.2.2.1 0) (n1, .inl (va_cpy f g 0 0 n))) := by rw [← hT]; rfl
  obtain ⟨t, a1, b1⟩ := h p e R s m args below meth c (H.setIfInBounds a (vp_cell (G.2.2.1 0) (n1, .inl (va_cpy f g 0 0 n)))) _ cells slots LS C (hS.put ha (show (H.setIfInBounds a _)[a]? = some _ by simp [Array.getElem?_setIfInBounds, hl]) zz oq) ⟨by rw [zz]; exact hV.1, fun q g1 g2 => by
      rw [oq q (fun e => g2 (by rw [e]; exact hba))]
      exact hV.2.1 q g1 g2, fun q hq => by
      rcases List.mem_append.mp hq with h | h
      · exact hV.2.2 q h
      · obtain ⟨z, -, hz⟩ := List.mem_map.mp h
        rw [← hz]
        exact hba⟩ hL h1 h2 h3 h4 _ hheap X'
  exact ⟨t, step t a1, b1⟩
end R89r
theorem j_copyOf0 {G : zG} {l : Launch} {M : zM} (hcl : zCl G) {p : Nat} {f : Nat → Int32} (n : Nat) {x_n : Int32} (e_n : x_n = nI n) (hn : n ≤ 900) (hp : M.1 p = some (.inl (0, 900, .inl f))) (hpM : p ≠ M.2) : am G l kJ7_copyOf_59c91 1 [.ref p, .int x_n] M (0 + 1) (0 + n) (fun r M' => ∃ g : Nat → Int32, r = some (.ref M.2) ∧ M' = z_nw M (.inl (0, n, .inl g)) ∧ ∀ j, j < n → g j = f j) := by
  have hmn : iMin (nI 900) x_n = nI n := by rw [e_n, iMin_N (by decide) (by omega), show min 900 n = n by omega]
  refine am.of (by decide) (Nat.le_of_ble_eq_true rfl) ?_
  refine aj.iload_n dJ7_copyOf_59c91_0 rfl ?_
  refine aj.aload_n dJ7_copyOf_59c91_1 rfl ?_
  refine aj.alen (v := nI 900) dJ7_copyOf_59c91_2 hp (by decide) rfl ?_
  refine aj.icmp_neN (a := n) (b := 900) (tgt := 14) dJ7_copyOf_59c91_3 e_n rfl (by omega) (by omega) rfl (fun c3 => ?_) (fun c3 => ?_)
  · refine aj.iload_n dJ7_copyOf_59c91_14 rfl ?_
    refine aj.newa0 (N := n) dJ7_copyOf_59c91_15 w169 (by rw [e_n]; exact nI_pos (by omega)) (by rw [e_n]; exact nI_clamp (by omega)) (by show n * 4 ≤ 536870912; omega) ?_
    refine aj.astore_n (lv' := [(2, .ref M.2), (0, .ref p), (1, .int x_n)]) dJ7_copyOf_59c91_17 (Nat.le_of_ble_eq_true rfl) rfl ?_
    refine aj.aload_n dJ7_copyOf_59c91_18 rfl ?_
    refine aj.iconst (v := 0) dJ7_copyOf_59c91_19 rfl ?_
    refine aj.aload_n dJ7_copyOf_59c91_20 rfl ?_
    refine aj.iconst (v := 0) dJ7_copyOf_59c91_21 rfl ?_
    refine aj.aload_n dJ7_copyOf_59c91_22 rfl ?_
    refine aj.alen (v := nI 900) dJ7_copyOf_59c91_23 ((z_nw_n M _ hpM).trans hp) (by decide) rfl ?_
    refine aj.iload_n dJ7_copyOf_59c91_24 rfl ?_
    refine aj.mmin dJ7_copyOf_59c91_25 w680 (Nat.le_of_ble_eq_true rfl) (Nat.le_of_ble_eq_true rfl) ?_
    refine aj.copyI hmn (by omega) dJ7_copyOf_59c91_28 wac1 ((z_nw_n M _ hpM).trans hp) (z_nw_s M _) hn (Nat.le_refl n) (Nat.le_refl 1) (Nat.le_of_ble_eq_true rfl) ?_
    rw [z_upnw]
    refine aj.aload_n dJ7_copyOf_59c91_31 rfl ?_
    exact aj.aret rfl (Or.inr ⟨_, rfl⟩) (Or.inr ⟨_, rfl⟩) dJ7_copyOf_59c91_32 ⟨_, rfl, rfl, fun j hj => by rw [pk_cpy_in (Nat.zero_le j) (by omega)]; exact congrArg f (by omega)⟩
  · refine aj.aload_n dJ7_copyOf_59c91_6 rfl ?_
    have e9 : n = 900 := c3
    rw [e9]
    refine aj.clone hcl dJ7_copyOf_59c91_7 wcl1 hp (Nat.le_refl 1) (Nat.le_of_ble_eq_true rfl) ?_
    refine aj.castI dJ7_copyOf_59c91_10 w679 (z_nw_s M _) ?_
    exact aj.aret rfl (Or.inr ⟨_, rfl⟩) (Or.inr ⟨_, rfl⟩) dJ7_copyOf_59c91_13 ⟨f, rfl, rfl, fun _ _ => rfl⟩
theorem j_copyOf {G : zG} {l : Launch} {M : zM} (hcl : zCl G) {p : Nat} {f : Nat → Int32} (n : Nat) {x_n : Int32} (e_n : x_n = nI n) (hn : n ≤ 900) (hp : M.1 p = some (.inl (0, 900, .inl f))) (hpM : p ≠ M.2) : am G l kJ7_copyOf_59c91 1 [.ref p, .int x_n] M 1 n (fun r M' => ∃ g : Nat → Int32, r = some (.ref M.2) ∧ M' = z_nw M (.inl (0, n, .inl g)) ∧ ∀ j, j < n → g j = f j) := by
  have h := j_copyOf0 (l := l) hcl n e_n hn hp hpM
  rw [Nat.zero_add, Nat.zero_add] at h
  exact h
