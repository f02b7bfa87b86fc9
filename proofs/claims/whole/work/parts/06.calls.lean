/-- what the tables say of a call: the link, the class, the code -/
def z_lk (own : String) (idx : Nat) (y : zY) (n : Nat) : Prop := Cond.methodLink own idx y.1 ∈ z_W ∧ Cond.initialized y.1.cls ∈ z_W ∧ Cond.code y.1 y.2.1 y.2.2.1 y.2.2.2 ∈ z_W ∧ (y.1.cls ≠ "java/lang/invoke/MethodHandle" ∧ y.1.cls ≠ "java/lang/invoke/VarHandle" ∧ (parseMethodDescriptor y.1.desc).map (fun d => d.parameters.length) = some n) ∧ y.2.2.1 ≤ 45
/-- the same of a call to a nest mate's private member -/
def z_ln (own : String) (idx : Nat) (y : zY) (n : Nat) (host : String) : Prop := (own, idx, y.1, host) ∈ z_N ∧ Cond.initialized y.1.cls ∈ z_W ∧ Cond.code y.1 y.2.1 y.2.2.1 y.2.2.2 ∈ z_W ∧ (y.1.cls ≠ "java/lang/invoke/MethodHandle" ∧ y.1.cls ≠ "java/lang/invoke/VarHandle" ∧ (parseMethodDescriptor y.1.desc).map (fun d => d.parameters.length) = some n) ∧ y.2.2.1 ≤ 45
/-- a method that is called on an object of its own class -/
def z_li (y : zY) : Prop := Cond.instanceMethod y.1 ∈ z_W ∧ Cond.selects y.1.cls y.1 y.1 ∈ z_W
section Rules6
variable {G : zG} {l : Launch} {k : zY} {d pc bc bs : Nat} {lv : List (Nat × Value)} {st : List Value} {M : zM} {Q : Option Value → zM → Prop}
theorem z_call {p : Program} {e : Env} {R : Room} {s : State} {m : MethodId} {args : Array Value} {below : List Frame} {meth : Method} {c : Code} {H : Heap} {locs : List Loc} {cells slots mc ms : Nat} {Z : State → Prop} {LS : Array Slot} {st0 rest : List Value} {Q1 : Option Value → zM → Prop} {a : Array Value}
    (hr : va_Run p l e R s m args below meth c H locs cells slots mc ms (F0 m pc LS st0) rest (z_Q G Q1 a) (z_A G)) (hV : va_S (z_A G) s.heap H locs) (hS : z_S G M H)
    (kk : ∀ (r : Option Value) (M' : zM) (H1 : Heap) (locs1 : List Loc), Q1 r M' → z_S G M' H1 → va_S (z_A G) s.heap H1 locs1 → W p l e R s m args below meth c H1 locs1 (cells + mc) (slots + ms) Z (F0 m (pc + 3) LS (r.toList ++ rest))) : W p l e R s m args below meth c H locs cells slots Z (F0 m pc LS st0) := by
  intro T hT X
  obtain ⟨v, st₀, t, T', L, h0, X', hL, e1, e2, ⟨r, M', hv, hp, hb, hz⟩, st⟩ := hr T hT X
  cases hv
  rw [h0] at hz
  obtain ⟨t2, a1, b1⟩ := kk v M' T'.heap (locs ++ L) hp (by rw [e1]; exact hb)
    ⟨Nat.le_trans hV.1 (by rw [e1]; exact hz), fun q h1 h2 => by
      have hlt : q < z_B G := Nat.not_le.mp h2
      rw [e1, hb.2.2.1 q hlt, ← hS.2.2.1 q hlt]
      exact hV.2.1 q h1 h2, fun q hq => by
      rcases List.mem_append.mp hq with h | h
      · exact hV.2.2 q h
      · exact hL q h⟩ T' rfl X'
  exact ⟨t2, st t2 a1, b1⟩
theorem z_blind {As : List Value} : FrameBlind (va_Pc As (fun U => z_S G M U.heap ∧ z_K G U)) := fun a U g mk q => ⟨q.1, q.2.1, z_K.same rfl q.2.2⟩
theorem aj.callV {y : zY} {d' idx b ci kc ks n : Nat} {As rest fs : List Value} {Q1 : Option Value → zM → Prop} (hd : decode k.2.1 pc = .ok (.invokevirtual idx, 3)) (hl : z_lk k.1.cls idx y n) (hi : z_li y) (hb : M.1 b = some (.inr (ci, fs))) (hc : (classes[ci]?).map (fun q => q.1) = some y.1.cls) (hn : As.length = n) (hst : st = As.reverse ++ .ref b :: rest) (hsum : (rest.map fun v => v.category).sum ≤ 8) (hdd : d' + 1 ≤ d) (hm : am G l y d' (.ref b :: As) M kc ks Q1) (h : ∀ (r : Option Value) (M' : zM), Q1 r M' → aj G l k d (pc + 3) lv (r.toList ++ rest) M' bc bs Q) : aj G l k d pc lv st M (bc + kc) (bs + ks) Q := by
  intro p e R s m args below meth c H locs cells slots LS C hS hV hL h1 h2 h3 h4
  subst hst
  have ht := C.2.2.2.2.2.1
  obtain ⟨cq, hcq, hcy⟩ := Option.map_eq_some_iff.mp hc
  have hrecv : ∃ cell : Cell, H[b]? = some cell ∧ cell.vm.isStatics = false ∧ s.vm.findClass y.1.cls = some cell.cls := by
    rw [← hcy]
    exact va_recv C.2.2.2.2.2.2.2.1.1 (z_P1 hS hb) hcq (q0 := 0) rfl
  have hr := va_runV (l := l) (e := e) (R := R) (below := below) (meth := meth) (locs := locs) (cells := cells) (slots := slots) (g := F0 m pc LS (As.reverse ++ .ref b :: rest)) (As := As) (rest := rest) ⟨C.1, C.2.1, C.2.2.2.1, C.2.2.2.2.1, ht⟩ hm ⟨callB_of n ht (z_goodIn hl.2.2.1) rfl rfl rfl (ht _ hl.2.1) (ht _ hl.1) hl.2.2.2.1 ⟨by show d' + 1 ≤ R.frames; omega, by show 8 + (y.2.2.1 + 11) + 64 * d' ≤ R.locals; have := hl.2.2.2.2; omega⟩, ht _ hi.1, ht _ hi.2⟩ ⟨z_blind, hrecv, fun U hU hW => ⟨rfl, by rw [hU]; exact hS, z_K.warm hW C.2.2.2.2.2.2.2.1⟩⟩ rfl hn hL.1 rfl (lv_room hsum) hd ⟨by omega, by omega⟩
  refine z_call hr hV hS fun r M' H1 locs1 hq hS1 hV1 => ?_
  have := h r M' hq p e R s m args below meth c H1 locs1 (cells + kc) (slots + ks) LS C hS1 hV1 hL h1 h2 (by omega) (by omega)
  rw [show cells + (bc + kc) = cells + kc + bc by omega, show slots + (bs + ks) = slots + ks + bs by omega]
  exact this
theorem aj.callS {y : zY} {d' idx kc ks n : Nat} {As rest : List Value} {Q1 : Option Value → zM → Prop} (hd : decode k.2.1 pc = .ok (.invokestatic idx, 3)) (hl : z_lk k.1.cls idx y n) (hi : Cond.static y.1 ∈ z_W) (hn : As.length = n) (hst : st = As.reverse ++ rest) (hsum : (rest.map fun v => v.category).sum ≤ 8) (hdd : d' + 1 ≤ d) (hm : am G l y d' (As) M kc ks Q1) (h : ∀ (r : Option Value) (M' : zM), Q1 r M' → aj G l k d (pc + 3) lv (r.toList ++ rest) M' bc bs Q) : aj G l k d pc lv st M (bc + kc) (bs + ks) Q := by
  intro p e R s m args below meth c H locs cells slots LS C hS hV hL h1 h2 h3 h4
  subst hst
  have ht := C.2.2.2.2.2.1
  have hr := va_runS (l := l) (e := e) (R := R) (below := below) (meth := meth) (locs := locs) (cells := cells) (slots := slots) (g := F0 m pc LS (As.reverse ++ rest)) (As := As) (rest := rest) ⟨C.1, C.2.1, C.2.2.2.1, C.2.2.2.2.1, ht⟩ hm ⟨callB_of n ht (z_goodIn hl.2.2.1) rfl rfl rfl (ht _ hl.2.1) (ht _ hl.1) hl.2.2.2.1 ⟨by show d' + 1 ≤ R.frames; omega, by show 8 + (y.2.2.1 + 11) + 64 * d' ≤ R.locals; have := hl.2.2.2.2; omega⟩, ht _ hi⟩ ⟨z_blind, fun U hU hW => ⟨rfl, by rw [hU]; exact hS, z_K.warm hW C.2.2.2.2.2.2.2.1⟩⟩ rfl hn hL.1 rfl (lv_room hsum) hd ⟨by omega, by omega⟩
  refine z_call hr hV hS fun r M' H1 locs1 hq hS1 hV1 => ?_
  have := h r M' hq p e R s m args below meth c H1 locs1 (cells + kc) (slots + ks) LS C hS1 hV1 hL h1 h2 (by omega) (by omega)
  rw [show cells + (bc + kc) = cells + kc + bc by omega, show slots + (bs + ks) = slots + ks + bs by omega]
  exact this
theorem aj.callI {y : zY} {d' idx b kc ks n : Nat} {As rest : List Value} {Q1 : Option Value → zM → Prop} (hd : decode k.2.1 pc = .ok (.invokespecial idx, 3)) (hl : z_lk k.1.cls idx y n) (hin : y.1.name = "<init>") (hi : Cond.instanceMethod y.1 ∈ z_W) (hrt : y.2.2.2 = none) (hn : As.length = n) (hst : st = As.reverse ++ .ref b :: rest) (hsum : (rest.map fun v => v.category).sum ≤ 8) (hdd : d' + 1 ≤ d) (hm : am G l y d' (.ref b :: As) M kc ks Q1) (h : ∀ (r : Option Value) (M' : zM), Q1 r M' → aj G l k d (pc + 3) lv (r.toList ++ rest) M' bc bs Q) : aj G l k d pc lv st M (bc + kc) (bs + ks) Q := by
  intro p e R s m args below meth c H locs cells slots LS C hS hV hL h1 h2 h3 h4
  subst hst
  have ht := C.2.2.2.2.2.1
  obtain ⟨y1, yb, yn, yr⟩ := y
  dsimp only at hrt
  subst hrt
  have hr := va_runI (l := l) (e := e) (R := R) (below := below) (meth := meth) (locs := locs) (cells := cells) (slots := slots) (g := F0 m pc LS (As.reverse ++ .ref b :: rest)) (As := As) (rest := rest) ⟨C.1, C.2.1, C.2.2.2.1, C.2.2.2.2.1, ht⟩ hm ⟨callB_of n ht (z_goodIn hl.2.2.1) rfl rfl rfl (ht _ hl.2.1) (ht _ hl.1) hl.2.2.2.1 ⟨by show d' + 1 ≤ R.frames; omega, by show 8 + (yn + 11) + 64 * d' ≤ R.locals; have : yn ≤ 45 := hl.2.2.2.2; omega⟩, hin, ht _ hi⟩ ⟨z_blind, fun U hU hW => ⟨rfl, by rw [hU]; exact hS, z_K.warm hW C.2.2.2.2.2.2.2.1⟩⟩ rfl hn hL.1 rfl (lv_room hsum) hd ⟨by omega, by omega⟩
  refine z_call hr hV hS fun r M' H1 locs1 hq hS1 hV1 => ?_
  have := h r M' hq p e R s m args below meth c H1 locs1 (cells + kc) (slots + ks) LS C hS1 hV1 hL h1 h2 (by omega) (by omega)
  rw [show cells + (bc + kc) = cells + kc + bc by omega, show slots + (bs + ks) = slots + ks + bs by omega]
  exact this
theorem aj.callVN {y : zY} {d' idx b ci kc ks n : Nat} {host : String} {As rest fs : List Value} {Q1 : Option Value → zM → Prop} (hd : decode k.2.1 pc = .ok (.invokevirtual idx, 3)) (hl : z_ln k.1.cls idx y n host) (hi : z_li y) (hb : M.1 b = some (.inr (ci, fs))) (hc : (classes[ci]?).map (fun q => q.1) = some y.1.cls) (hn : As.length = n) (hst : st = As.reverse ++ .ref b :: rest) (hsum : (rest.map fun v => v.category).sum ≤ 8) (hdd : d' + 1 ≤ d) (hm : am G l y d' (.ref b :: As) M kc ks Q1) (h : ∀ (r : Option Value) (M' : zM), Q1 r M' → aj G l k d (pc + 3) lv (r.toList ++ rest) M' bc bs Q) : aj G l k d pc lv st M (bc + kc) (bs + ks) Q := by
  intro p e R s m args below meth c H locs cells slots LS C hS hV hL h1 h2 h3 h4
  subst hst
  have ht := C.2.2.2.2.2.1
  obtain ⟨cq, hcq, hcy⟩ := Option.map_eq_some_iff.mp hc
  have hrecv : ∃ cell : Cell, H[b]? = some cell ∧ cell.vm.isStatics = false ∧ s.vm.findClass y.1.cls = some cell.cls := by
    rw [← hcy]
    exact va_recv C.2.2.2.2.2.2.2.1.1 (z_P1 hS hb) hcq (q0 := 0) rfl
  have hr := va_runVN (l := l) (e := e) (R := R) (below := below) (meth := meth) (locs := locs) (cells := cells) (slots := slots) (g := F0 m pc LS (As.reverse ++ .ref b :: rest)) (As := As) (rest := rest) ⟨C.1, C.2.1, C.2.2.2.1, C.2.2.2.2.1, ht⟩ hm ⟨va_cnB n ht (z_goodIn hl.2.2.1) rfl rfl rfl (C.2.2.2.2.2.2.2.1.2.1 _ hl.1) (ht _ hl.2.1) hl.2.2.2.1 ⟨by show d' + 1 ≤ R.frames; omega, by show 8 + (y.2.2.1 + 11) + 64 * d' ≤ R.locals; have := hl.2.2.2.2; omega⟩, ht _ hi.1, ht _ hi.2⟩ ⟨z_blind, hrecv, fun U hU hW => ⟨rfl, by rw [hU]; exact hS, z_K.warm hW C.2.2.2.2.2.2.2.1⟩⟩ rfl hn hL.1 rfl (lv_room hsum) hd ⟨by omega, by omega⟩
  refine z_call hr hV hS fun r M' H1 locs1 hq hS1 hV1 => ?_
  have := h r M' hq p e R s m args below meth c H1 locs1 (cells + kc) (slots + ks) LS C hS1 hV1 hL h1 h2 (by omega) (by omega)
  rw [show cells + (bc + kc) = cells + kc + bc by omega, show slots + (bs + ks) = slots + ks + bs by omega]
  exact this
theorem aj.callSN {y : zY} {d' idx kc ks n : Nat} {host : String} {As rest : List Value} {Q1 : Option Value → zM → Prop} (hd : decode k.2.1 pc = .ok (.invokestatic idx, 3)) (hl : z_ln k.1.cls idx y n host) (hi : Cond.static y.1 ∈ z_W) (hn : As.length = n) (hst : st = As.reverse ++ rest) (hsum : (rest.map fun v => v.category).sum ≤ 8) (hdd : d' + 1 ≤ d) (hm : am G l y d' (As) M kc ks Q1) (h : ∀ (r : Option Value) (M' : zM), Q1 r M' → aj G l k d (pc + 3) lv (r.toList ++ rest) M' bc bs Q) : aj G l k d pc lv st M (bc + kc) (bs + ks) Q := by
  intro p e R s m args below meth c H locs cells slots LS C hS hV hL h1 h2 h3 h4
  subst hst
  have ht := C.2.2.2.2.2.1
  have hr := va_runSN (l := l) (e := e) (R := R) (below := below) (meth := meth) (locs := locs) (cells := cells) (slots := slots) (g := F0 m pc LS (As.reverse ++ rest)) (As := As) (rest := rest) ⟨C.1, C.2.1, C.2.2.2.1, C.2.2.2.2.1, ht⟩ hm ⟨va_cnB n ht (z_goodIn hl.2.2.1) rfl rfl rfl (C.2.2.2.2.2.2.2.1.2.1 _ hl.1) (ht _ hl.2.1) hl.2.2.2.1 ⟨by show d' + 1 ≤ R.frames; omega, by show 8 + (y.2.2.1 + 11) + 64 * d' ≤ R.locals; have := hl.2.2.2.2; omega⟩, ht _ hi, trivial⟩ ⟨z_blind, fun U hU hW => ⟨rfl, by rw [hU]; exact hS, z_K.warm hW C.2.2.2.2.2.2.2.1⟩⟩ rfl hn hL.1 rfl (lv_room hsum) hd ⟨by omega, by omega⟩
  refine z_call hr hV hS fun r M' H1 locs1 hq hS1 hV1 => ?_
  have := h r M' hq p e R s m args below meth c H1 locs1 (cells + kc) (slots + ks) LS C hS1 hV1 hL h1 h2 (by omega) (by omega)
  rw [show cells + (bc + kc) = cells + kc + bc by omega, show slots + (bs + ks) = slots + ks + bs by omega]
  exact this
theorem aj.callIN {y : zY} {d' idx b kc ks n : Nat} {host : String} {As rest : List Value} {Q1 : Option Value → zM → Prop} (hd : decode k.2.1 pc = .ok (.invokespecial idx, 3)) (hl : z_ln k.1.cls idx y n host) (hin : y.1.name = "<init>") (hi : Cond.instanceMethod y.1 ∈ z_W) (hrt : y.2.2.2 = none) (hn : As.length = n) (hst : st = As.reverse ++ .ref b :: rest) (hsum : (rest.map fun v => v.category).sum ≤ 8) (hdd : d' + 1 ≤ d) (hm : am G l y d' (.ref b :: As) M kc ks Q1) (h : ∀ (r : Option Value) (M' : zM), Q1 r M' → aj G l k d (pc + 3) lv (r.toList ++ rest) M' bc bs Q) : aj G l k d pc lv st M (bc + kc) (bs + ks) Q := by
  intro p e R s m args below meth c H locs cells slots LS C hS hV hL h1 h2 h3 h4
  subst hst
  have ht := C.2.2.2.2.2.1
  obtain ⟨y1, yb, yn, yr⟩ := y
  dsimp only at hrt
  subst hrt
  have hr := va_runIN (l := l) (e := e) (R := R) (below := below) (meth := meth) (locs := locs) (cells := cells) (slots := slots) (g := F0 m pc LS (As.reverse ++ .ref b :: rest)) (As := As) (rest := rest) ⟨C.1, C.2.1, C.2.2.2.1, C.2.2.2.2.1, ht⟩ hm ⟨va_cnB n ht (z_goodIn hl.2.2.1) rfl rfl rfl (C.2.2.2.2.2.2.2.1.2.1 _ hl.1) (ht _ hl.2.1) hl.2.2.2.1 ⟨by show d' + 1 ≤ R.frames; omega, by show 8 + (yn + 11) + 64 * d' ≤ R.locals; have : yn ≤ 45 := hl.2.2.2.2; omega⟩, hin, ht _ hi⟩ ⟨z_blind, fun U hU hW => ⟨rfl, by rw [hU]; exact hS, z_K.warm hW C.2.2.2.2.2.2.2.1⟩⟩ rfl hn hL.1 rfl (lv_room hsum) hd ⟨by omega, by omega⟩
  refine z_call hr hV hS fun r M' H1 locs1 hq hS1 hV1 => ?_
  have := h r M' hq p e R s m args below meth c H1 locs1 (cells + kc) (slots + ks) LS C hS1 hV1 hL h1 h2 (by omega) (by omega)
  rw [show cells + (bc + kc) = cells + kc + bc by omega, show slots + (bs + ks) = slots + ks + bs by omega]
  exact this
end Rules6
