section N89y
variable {G : zG} {l : Launch} {k : zY} {d pc bc bs : Nat} {lv : List (Nat × Value)} {st : List Value} {Q : Option Value → zM → Prop}
variable {b i : Nat} {M0 M M' : zM} {cs xs : List zC} {c : zC}
theorem nB.app {d c' : zC} {ys : List zC} (h : nB b M0 M i cs c xs) (h2 : nB M.2 M M' 0 [d] c' ys) : nB b M0 M' i cs c (xs ++ c' :: ys) := by
  obtain ⟨h1, h2a, h3, h4, h5, h6⟩ := h
  obtain ⟨-, g2, g3, g4, -, g6⟩ := h2
  have g2' : M'.2 = M.2 + (1 + ys.length) := g2
  refine ⟨h1, ?_, fun x hx => (g3 x (by omega)).trans (h3 x hx), (g3 _ (by omega)).trans h4, fun j hj he => (g3 _ (by omega)).trans (h5 j hj he), fun j hj => ?_⟩
  · rw [List.length_append, List.length_cons]; omega
  · rw [List.length_append, List.length_cons] at hj
    by_cases e : j < xs.length
    · rw [List.getElem?_append_left e]
      exact (g3 _ (by omega)).trans (h6 j e)
    · rw [List.getElem?_append_right (by omega)]
      by_cases e0 : j = xs.length
      · rw [e0, Nat.sub_self, ← h2a]
        exact g4
      · have := g6 (j - xs.length - 1) (by omega)
        rw [show M.2 + ([d].length + (j - xs.length - 1)) = b + (cs.length + j) by rw [h2a]; show b + (cs.length + xs.length) + (1 + (j - xs.length - 1)) = _; omega] at this
        rw [this, show j - xs.length = (j - xs.length - 1) + 1 by omega, List.getElem?_cons_succ]
        congr 1
theorem nB.newL {n : Int32} {N : Nat} (h : nB b M0 M i cs c xs) (hd : decode k.2.1 pc = .ok (.newarray .long, 2)) (hn : ¬ n < 0) (hN : n.toNatClampNeg = N) (hby : N * componentBytes (newarray.typeOf .long) ≤ 536870912) (hk : ∀ M : zM, nB b M0 M i cs c (xs ++ [.inl (1, N, .inr (.inl (fun _ => 0)))]) → aj G l k d (pc + 2) lv (.ref (b + (cs.length + xs.length)) :: st) M bc bs Q) : aj G l k d pc lv (.int n :: st) M (bc + 1) (bs + N) Q := by
  refine aj.newa1 hd w339 hn hN hby ?_
  rw [h.2.1]
  exact hk _ h.new
theorem nB.newB {n : Int32} {N : Nat} (h : nB b M0 M i cs c xs) (hd : decode k.2.1 pc = .ok (.newarray .byte, 2)) (hn : ¬ n < 0) (hN : n.toNatClampNeg = N) (hby : N * componentBytes (newarray.typeOf .byte) ≤ 536870912) (hk : ∀ M : zM, nB b M0 M i cs c (xs ++ [.inl (2, N, .inl (fun _ => 0))]) → aj G l k d (pc + 2) lv (.ref (b + (cs.length + xs.length)) :: st) M bc bs Q) : aj G l k d pc lv (.int n :: st) M (bc + 1) (bs + N) Q := by
  refine aj.newa2 hd w168 hn hN hby ?_
  rw [h.2.1]
  exact hk _ h.new
theorem nB.newZ {n : Int32} {N : Nat} (h : nB b M0 M i cs c xs) (hd : decode k.2.1 pc = .ok (.newarray .boolean, 2)) (hn : ¬ n < 0) (hN : n.toNatClampNeg = N) (hby : N * componentBytes (newarray.typeOf .boolean) ≤ 536870912) (hk : ∀ M : zM, nB b M0 M i cs c (xs ++ [.inl (3, N, .inl (fun _ => 0))]) → aj G l k d (pc + 2) lv (.ref (b + (cs.length + xs.length)) :: st) M bc bs Q) : aj G l k d pc lv (.int n :: st) M (bc + 1) (bs + N) Q := by
  refine aj.newa3 hd w1370 hn hN hby ?_
  rw [h.2.1]
  exact hk _ h.new
theorem nB.anew4 {n : Int32} {N idx : Nat} (h : nB b M0 M i cs c xs) (hd : decode k.2.1 pc = .ok (.anewarray idx, 3)) (hcl : Cond.classLink k.1.cls idx RX7 ∈ z_W) (hn : ¬ n < 0) (hN : n.toNatClampNeg = N) (hby : N * 4 ≤ 536870912) (hk : ∀ M : zM, nB b M0 M i cs c (xs ++ [.inl (4, N, .inr (.inr (.inr (.inr (fun _ => none)))))]) → aj G l k d (pc + 3) lv (.ref (b + (cs.length + xs.length)) :: st) M bc bs Q) : aj G l k d pc lv (.int n :: st) M (bc + 1) (bs + N) Q := by
  refine aj.anew4 hd hcl hn hN hby ?_
  rw [h.2.1]
  exact hk _ h.new
theorem nB.anew5 {n : Int32} {N idx : Nat} (h : nB b M0 M i cs c xs) (hd : decode k.2.1 pc = .ok (.anewarray idx, 3)) (hcl : Cond.classLink k.1.cls idx RX10 ∈ z_W) (hn : ¬ n < 0) (hN : n.toNatClampNeg = N) (hby : N * 4 ≤ 536870912) (hk : ∀ M : zM, nB b M0 M i cs c (xs ++ [.inl (5, N, .inr (.inr (.inr (.inr (fun _ => none)))))]) → aj G l k d (pc + 3) lv (.ref (b + (cs.length + xs.length)) :: st) M bc bs Q) : aj G l k d pc lv (.int n :: st) M (bc + 1) (bs + N) Q := by
  refine aj.anew5 hd hcl hn hN hby ?_
  rw [h.2.1]
  exact hk _ h.new
theorem nB.anew6 {n : Int32} {N idx : Nat} (h : nB b M0 M i cs c xs) (hd : decode k.2.1 pc = .ok (.anewarray idx, 3)) (hcl : Cond.classLink k.1.cls idx RX0 ∈ z_W) (hn : ¬ n < 0) (hN : n.toNatClampNeg = N) (hby : N * 4 ≤ 536870912) (hk : ∀ M : zM, nB b M0 M i cs c (xs ++ [.inl (6, N, .inr (.inr (.inr (.inr (fun _ => none)))))]) → aj G l k d (pc + 3) lv (.ref (b + (cs.length + xs.length)) :: st) M bc bs Q) : aj G l k d pc lv (.int n :: st) M (bc + 1) (bs + N) Q := by
  refine aj.anew6 hd hcl hn hN hby ?_
  rw [h.2.1]
  exact hk _ h.new
theorem nB.anew7 {n : Int32} {N idx : Nat} (h : nB b M0 M i cs c xs) (hd : decode k.2.1 pc = .ok (.anewarray idx, 3)) (hcl : Cond.classLink k.1.cls idx RX8 ∈ z_W) (hn : ¬ n < 0) (hN : n.toNatClampNeg = N) (hby : N * 4 ≤ 536870912) (hk : ∀ M : zM, nB b M0 M i cs c (xs ++ [.inl (7, N, .inr (.inr (.inr (.inr (fun _ => none)))))]) → aj G l k d (pc + 3) lv (.ref (b + (cs.length + xs.length)) :: st) M bc bs Q) : aj G l k d pc lv (.int n :: st) M (bc + 1) (bs + N) Q := by
  refine aj.anew7 hd hcl hn hN hby ?_
  rw [h.2.1]
  exact hk _ h.new
theorem nB.setx {j : Nat} {c' : zC} (h : nB b M0 M i cs c xs) (hj : j < xs.length) : nB b M0 (z_up M (b + (cs.length + j)) c') i cs c (xs.set j c') := by
  obtain ⟨h1, h2, h3, h4, h5, h6⟩ := h
  refine ⟨h1, by rw [List.length_set]; exact h2, fun x hx => (z_up_n _ _ (by omega)).trans (h3 x hx), (z_up_n _ _ (by omega)).trans h4, fun q hq he => (z_up_n _ _ (by omega)).trans (h5 q hq he), fun q hq => ?_⟩
  rw [List.length_set] at hq
  by_cases e : q = j
  · rw [e, List.getElem?_set_self hj]
    exact z_up_s _ _ _
  · rw [List.getElem?_set_ne (fun z => e z.symm)]
    exact (z_up_n _ _ (by omega)).trans (h6 q hq)
theorem nB.aast4 {kk j kv n : Nat} {f : Nat → Option Nat} {x : Int32} {vs : List Value} (h : nB b M0 M i cs c xs) (hd : decode k.2.1 pc = .ok (.aastore, 1)) (hx : x = nI j) (hk1 : xs[kk]? = some (.inl (4, n, .inr (.inr (.inr (.inr f)))))) (hj : j < n ∧ n < 2 ^ 31) (hkv : xs[kv]? = some (.inr (7, vs))) (he : kk < xs.length) (hk : ∀ M : zM, nB b M0 M i cs c (xs.set kk (.inl (4, n, .inr (.inr (.inr (.inr (va_up f j (some (b + (cs.length + kv)))))))))) → aj G l k d (pc + 1) lv st M bc bs Q) : aj G l k d pc lv (.ref (b + (cs.length + kv)) :: .int x :: .ref (b + (cs.length + kk)) :: st) M bc bs Q := by
  subst hx
  have hv : kv < xs.length := (List.getElem?_eq_some_iff.mp hkv).1
  refine aj.aast4 hd ((h.2.2.2.2.2 kk he).trans hk1) ((h.2.2.2.2.2 kv hv).trans hkv) (vp_in_nI hj.1 hj.2) ?_
  rw [nI_clamp (by omega)]
  exact hk _ (h.setx he)
theorem nB.aast5 {kk j kv n : Nat} {f : Nat → Option Nat} {x : Int32} {vs : List Value} (h : nB b M0 M i cs c xs) (hd : decode k.2.1 pc = .ok (.aastore, 1)) (hx : x = nI j) (hk1 : xs[kk]? = some (.inl (5, n, .inr (.inr (.inr (.inr f)))))) (hj : j < n ∧ n < 2 ^ 31) (hkv : xs[kv]? = some (.inr (10, vs))) (he : kk < xs.length) (hk : ∀ M : zM, nB b M0 M i cs c (xs.set kk (.inl (5, n, .inr (.inr (.inr (.inr (va_up f j (some (b + (cs.length + kv)))))))))) → aj G l k d (pc + 1) lv st M bc bs Q) : aj G l k d pc lv (.ref (b + (cs.length + kv)) :: .int x :: .ref (b + (cs.length + kk)) :: st) M bc bs Q := by
  subst hx
  have hv : kv < xs.length := (List.getElem?_eq_some_iff.mp hkv).1
  refine aj.aast5 hd ((h.2.2.2.2.2 kk he).trans hk1) ((h.2.2.2.2.2 kv hv).trans hkv) (vp_in_nI hj.1 hj.2) ?_
  rw [nI_clamp (by omega)]
  exact hk _ (h.setx he)
theorem nB.aast7 {kk j kv n : Nat} {f : Nat → Option Nat} {x : Int32} {vs : List Value} (h : nB b M0 M i cs c xs) (hd : decode k.2.1 pc = .ok (.aastore, 1)) (hx : x = nI j) (hk1 : xs[kk]? = some (.inl (7, n, .inr (.inr (.inr (.inr f)))))) (hj : j < n ∧ n < 2 ^ 31) (hkv : xs[kv]? = some (.inr (8, vs))) (he : kk < xs.length) (hk : ∀ M : zM, nB b M0 M i cs c (xs.set kk (.inl (7, n, .inr (.inr (.inr (.inr (va_up f j (some (b + (cs.length + kv)))))))))) → aj G l k d (pc + 1) lv st M bc bs Q) : aj G l k d pc lv (.ref (b + (cs.length + kv)) :: .int x :: .ref (b + (cs.length + kk)) :: st) M bc bs Q := by
  subst hx
  have hv : kv < xs.length := (List.getElem?_eq_some_iff.mp hkv).1
  refine aj.aast7 hd ((h.2.2.2.2.2 kk he).trans hk1) ((h.2.2.2.2.2 kv hv).trans hkv) (vp_in_nI hj.1 hj.2) ?_
  rw [nI_clamp (by omega)]
  exact hk _ (h.setx he)
end N89y
theorem k_initX7 {G : zG} {l : Launch} {b i : Nat} {M0 M : zM} {cs : List zC} (hN : nB b M0 M i cs (.inr (7, [.null, .null, .int 0, .int 0, .int 0])) []) : am G l kX7_init 1 [.ref (b + i)] M 2 8 (zv (fun M' => nB b M0 M' i cs (.inr (7, [.ref (b + (cs.length + 0)), .ref (b + (cs.length + 1)), .int 0, .int 0, .int 0])) [.inl (0, 4, .inl (fun _ => 0)), .inl (0, 4, .inl (fun _ => 0))])) := by
  refine am.of (by decide) (Nat.le_of_ble_eq_true rfl) ?_
  refine aj.aload_n dX7_init_0 rfl ?_
  refine aj.objInit dX7_init_1 w263 w147 w148 (Nat.le_of_ble_eq_true rfl) (Nat.le_of_ble_eq_true rfl) ?_
  refine aj.aload_n dX7_init_4 rfl ?_
  refine aj.iconst (v := 4) dX7_init_5 rfl ?_
  refine nB.newI (N := 4) hN dX7_init_6 (by decide) rfl (by decide) (fun M hN => ?_)
  have hN : nB b M0 M i cs (.inr (7, [.null, .null, .int 0, .int 0, .int 0])) [.inl (0, 4, .inl (fun _ => 0))] := hN
  refine nB.putF (f := 0) (cq := (RX7, TX7, 5)) hN dX7_init_8 rfl (Nat.le_of_ble_eq_true rfl) w264 rfl rfl rfl rfl rfl (Nat.le_of_ble_eq_true rfl) (fun M hN => ?_)
  have hN : nB b M0 M i cs (.inr (7, [.ref (b + (cs.length + 0)), .null, .int 0, .int 0, .int 0])) [.inl (0, 4, .inl (fun _ => 0))] := hN
  refine aj.aload_n dX7_init_11 rfl ?_
  refine aj.iconst (v := 4) dX7_init_12 rfl ?_
  refine nB.newI (N := 4) hN dX7_init_13 (by decide) rfl (by decide) (fun M hN => ?_)
  have hN : nB b M0 M i cs (.inr (7, [.ref (b + (cs.length + 0)), .null, .int 0, .int 0, .int 0])) [.inl (0, 4, .inl (fun _ => 0)), .inl (0, 4, .inl (fun _ => 0))] := hN
  refine nB.putF (f := 1) (cq := (RX7, TX7, 5)) hN dX7_init_15 rfl (Nat.le_of_ble_eq_true rfl) w265 rfl rfl rfl rfl rfl (Nat.le_of_ble_eq_true rfl) (fun M hN => ?_)
  have hN : nB b M0 M i cs (.inr (7, [.ref (b + (cs.length + 0)), .ref (b + (cs.length + 1)), .int 0, .int 0, .int 0])) [.inl (0, 4, .inl (fun _ => 0)), .inl (0, 4, .inl (fun _ => 0))] := hN
  refine aj.aload_n dX7_init_18 rfl ?_
  refine aj.iconst (v := 0) dX7_init_19 rfl ?_
  refine nB.put (f := 2) (cq := (RX7, TX7, 5)) hN dX7_init_20 rfl (Nat.le_of_ble_eq_true rfl) w266 rfl rfl rfl (Nat.le_of_ble_eq_true rfl) (fun M hN => ?_)
  have hN : nB b M0 M i cs (.inr (7, [.ref (b + (cs.length + 0)), .ref (b + (cs.length + 1)), .int 0, .int 0, .int 0])) [.inl (0, 4, .inl (fun _ => 0)), .inl (0, 4, .inl (fun _ => 0))] := hN
  refine aj.aload_n dX7_init_23 rfl ?_
  refine aj.iconst (v := 0) dX7_init_24 rfl ?_
  refine nB.put (f := 3) (cq := (RX7, TX7, 5)) hN dX7_init_25 rfl (Nat.le_of_ble_eq_true rfl) w268 rfl rfl rfl (Nat.le_of_ble_eq_true rfl) (fun M hN => ?_)
  have hN : nB b M0 M i cs (.inr (7, [.ref (b + (cs.length + 0)), .ref (b + (cs.length + 1)), .int 0, .int 0, .int 0])) [.inl (0, 4, .inl (fun _ => 0)), .inl (0, 4, .inl (fun _ => 0))] := hN
  refine aj.aload_n dX7_init_28 rfl ?_
  refine aj.iconst (v := 0) dX7_init_29 rfl ?_
  refine nB.put (f := 4) (cq := (RX7, TX7, 5)) hN dX7_init_30 rfl (Nat.le_of_ble_eq_true rfl) w270 rfl rfl rfl (Nat.le_of_ble_eq_true rfl) (fun M hN => ?_)
  have hN : nB b M0 M i cs (.inr (7, [.ref (b + (cs.length + 0)), .ref (b + (cs.length + 1)), .int 0, .int 0, .int 0])) [.inl (0, 4, .inl (fun _ => 0)), .inl (0, 4, .inl (fun _ => 0))] := hN
  exact aj.vret rfl dX7_init_33 ⟨rfl, hN⟩
theorem k_initX8 {G : zG} {l : Launch} {b i : Nat} {M0 M : zM} {cs : List zC} (hN : nB b M0 M i cs (.inr (8, [.null, .null, .null])) []) : am G l kX8_init 1 [.ref (b + i)] M 3 252 (zv (fun M' => nB b M0 M' i cs (.inr (8, [.ref (b + (cs.length + 0)), .ref (b + (cs.length + 1)), .ref (b + (cs.length + 2))])) [.inl (0, 210, .inl (fun _ => 0)), .inl (0, 21, .inl (fun _ => 0)), .inl (0, 21, .inl (fun _ => 0))])) := by
  refine am.of (by decide) (Nat.le_of_ble_eq_true rfl) ?_
  refine aj.aload_n dX8_init_0 rfl ?_
  refine aj.objInit dX8_init_1 w364 w147 w148 (Nat.le_of_ble_eq_true rfl) (Nat.le_of_ble_eq_true rfl) ?_
  refine aj.aload_n dX8_init_4 rfl ?_
  refine aj.sipush (v := 210) dX8_init_5 rfl ?_
  refine nB.newI (N := 210) hN dX8_init_8 (by decide) rfl (by decide) (fun M hN => ?_)
  have hN : nB b M0 M i cs (.inr (8, [.null, .null, .null])) [.inl (0, 210, .inl (fun _ => 0))] := hN
  refine nB.putF (f := 0) (cq := (RX8, TX8, 3)) hN dX8_init_10 rfl (Nat.le_of_ble_eq_true rfl) w365 rfl rfl rfl rfl rfl (Nat.le_of_ble_eq_true rfl) (fun M hN => ?_)
  have hN : nB b M0 M i cs (.inr (8, [.ref (b + (cs.length + 0)), .null, .null])) [.inl (0, 210, .inl (fun _ => 0))] := hN
  refine aj.aload_n dX8_init_13 rfl ?_
  refine aj.bipush (v := 21) dX8_init_14 rfl ?_
  refine nB.newI (N := 21) hN dX8_init_16 (by decide) rfl (by decide) (fun M hN => ?_)
  have hN : nB b M0 M i cs (.inr (8, [.ref (b + (cs.length + 0)), .null, .null])) [.inl (0, 210, .inl (fun _ => 0)), .inl (0, 21, .inl (fun _ => 0))] := hN
  refine nB.putF (f := 1) (cq := (RX8, TX8, 3)) hN dX8_init_18 rfl (Nat.le_of_ble_eq_true rfl) w366 rfl rfl rfl rfl rfl (Nat.le_of_ble_eq_true rfl) (fun M hN => ?_)
  have hN : nB b M0 M i cs (.inr (8, [.ref (b + (cs.length + 0)), .ref (b + (cs.length + 1)), .null])) [.inl (0, 210, .inl (fun _ => 0)), .inl (0, 21, .inl (fun _ => 0))] := hN
  refine aj.aload_n dX8_init_21 rfl ?_
  refine aj.bipush (v := 21) dX8_init_22 rfl ?_
  refine nB.newI (N := 21) hN dX8_init_24 (by decide) rfl (by decide) (fun M hN => ?_)
  have hN : nB b M0 M i cs (.inr (8, [.ref (b + (cs.length + 0)), .ref (b + (cs.length + 1)), .null])) [.inl (0, 210, .inl (fun _ => 0)), .inl (0, 21, .inl (fun _ => 0)), .inl (0, 21, .inl (fun _ => 0))] := hN
  refine nB.putF (f := 2) (cq := (RX8, TX8, 3)) hN dX8_init_26 rfl (Nat.le_of_ble_eq_true rfl) w367 rfl rfl rfl rfl rfl (Nat.le_of_ble_eq_true rfl) (fun M hN => ?_)
  have hN : nB b M0 M i cs (.inr (8, [.ref (b + (cs.length + 0)), .ref (b + (cs.length + 1)), .ref (b + (cs.length + 2))])) [.inl (0, 210, .inl (fun _ => 0)), .inl (0, 21, .inl (fun _ => 0)), .inl (0, 21, .inl (fun _ => 0))] := hN
  exact aj.vret rfl dX8_init_29 ⟨rfl, hN⟩
theorem k_initX10 {G : zG} {l : Launch} {b i : Nat} {M0 M : zM} {cs : List zC} (hN : nB b M0 M i cs (.inr (10, [.int 0, .int 0, .int 0, .null])) []) : am G l kX10_init 1 [.ref (b + i)] M 1 40 (zv (fun M' => nB b M0 M' i cs (.inr (10, [.int 0, .int 0, .int 0, .ref (b + (cs.length + 0))])) [.inl (1, 40, .inr (.inl (fun _ => 0)))])) := by
  refine am.of (by decide) (Nat.le_of_ble_eq_true rfl) ?_
  refine aj.aload_n dX10_init_0 rfl ?_
  refine aj.objInit dX10_init_1 w344 w147 w148 (Nat.le_of_ble_eq_true rfl) (Nat.le_of_ble_eq_true rfl) ?_
  refine aj.aload_n dX10_init_4 rfl ?_
  refine aj.iconst (v := 0) dX10_init_5 rfl ?_
  refine nB.put (f := 0) (cq := (RX10, TX10, 4)) hN dX10_init_6 rfl (Nat.le_of_ble_eq_true rfl) w345 rfl rfl rfl (Nat.le_of_ble_eq_true rfl) (fun M hN => ?_)
  have hN : nB b M0 M i cs (.inr (10, [.int 0, .int 0, .int 0, .null])) [] := hN
  refine aj.aload_n dX10_init_9 rfl ?_
  refine aj.iconst (v := 0) dX10_init_10 rfl ?_
  refine nB.put (f := 1) (cq := (RX10, TX10, 4)) hN dX10_init_11 rfl (Nat.le_of_ble_eq_true rfl) w347 rfl rfl rfl (Nat.le_of_ble_eq_true rfl) (fun M hN => ?_)
  have hN : nB b M0 M i cs (.inr (10, [.int 0, .int 0, .int 0, .null])) [] := hN
  refine aj.aload_n dX10_init_14 rfl ?_
  refine aj.iconst (v := 0) dX10_init_15 rfl ?_
  refine nB.put (f := 2) (cq := (RX10, TX10, 4)) hN dX10_init_16 rfl (Nat.le_of_ble_eq_true rfl) w349 rfl rfl rfl (Nat.le_of_ble_eq_true rfl) (fun M hN => ?_)
  have hN : nB b M0 M i cs (.inr (10, [.int 0, .int 0, .int 0, .null])) [] := hN
  refine aj.aload_n dX10_init_19 rfl ?_
  refine aj.bipush (v := 40) dX10_init_20 rfl ?_
  refine nB.newL (N := 40) hN dX10_init_22 (by decide) rfl (by decide) (fun M hN => ?_)
  have hN : nB b M0 M i cs (.inr (10, [.int 0, .int 0, .int 0, .null])) [.inl (1, 40, .inr (.inl (fun _ => 0)))] := hN
  refine nB.putF (f := 3) (cq := (RX10, TX10, 4)) hN dX10_init_24 rfl (Nat.le_of_ble_eq_true rfl) w350 rfl rfl rfl rfl rfl (Nat.le_of_ble_eq_true rfl) (fun M hN => ?_)
  have hN : nB b M0 M i cs (.inr (10, [.int 0, .int 0, .int 0, .ref (b + (cs.length + 0))])) [.inl (1, 40, .inr (.inl (fun _ => 0)))] := hN
  exact aj.vret rfl dX10_init_27 ⟨rfl, hN⟩
theorem k_initX9 {G : zG} {l : Launch} {b i : Nat} {M0 M : zM} {cs : List zC} (hN : nB b M0 M i cs (.inr (9, [.null, .int 0])) []) : am G l kX9_init 1 [.ref (b + i)] M 1 901 (zv (fun M' => nB b M0 M' i cs (.inr (9, [.ref (b + (cs.length + 0)), .int 0])) [.inl (0, 901, .inl (fun _ => 0))])) := by
  refine am.of (by decide) (Nat.le_of_ble_eq_true rfl) ?_
  refine aj.aload_n dX9_init_0 rfl ?_
  refine aj.objInit dX9_init_1 w160 w147 w148 (Nat.le_of_ble_eq_true rfl) (Nat.le_of_ble_eq_true rfl) ?_
  refine aj.aload_n dX9_init_4 rfl ?_
  refine aj.sipush (v := 901) dX9_init_5 rfl ?_
  refine nB.newI (N := 901) hN dX9_init_8 (by decide) rfl (by decide) (fun M hN => ?_)
  have hN : nB b M0 M i cs (.inr (9, [.null, .int 0])) [.inl (0, 901, .inl (fun _ => 0))] := hN
  refine nB.putF (f := 0) (cq := (RX9, TX9, 2)) hN dX9_init_10 rfl (Nat.le_of_ble_eq_true rfl) w161 rfl rfl rfl rfl rfl (Nat.le_of_ble_eq_true rfl) (fun M hN => ?_)
  have hN : nB b M0 M i cs (.inr (9, [.ref (b + (cs.length + 0)), .int 0])) [.inl (0, 901, .inl (fun _ => 0))] := hN
  refine aj.aload_n dX9_init_13 rfl ?_
  refine aj.iconst (v := 0) dX9_init_14 rfl ?_
  refine nB.put (f := 1) (cq := (RX9, TX9, 2)) hN dX9_init_15 rfl (Nat.le_of_ble_eq_true rfl) w162 rfl rfl rfl (Nat.le_of_ble_eq_true rfl) (fun M hN => ?_)
  have hN : nB b M0 M i cs (.inr (9, [.ref (b + (cs.length + 0)), .int 0])) [.inl (0, 901, .inl (fun _ => 0))] := hN
  exact aj.vret rfl dX9_init_18 ⟨rfl, hN⟩
theorem k_initX4 {G : zG} {l : Launch} {b i : Nat} {M0 M : zM} {cs : List zC} (hN : nB b M0 M i cs (.inr (4, [.null, .null])) []) : am G l kX4_init 1 [.ref (b + i)] M 2 71 (zv (fun M' => nB b M0 M' i cs (.inr (4, [.ref (b + (cs.length + 0)), .ref (b + (cs.length + 1))])) [.inl (0, 7, .inl (fun _ => 0)), .inl (0, 64, .inl (fun _ => 0))])) := by
  refine am.of (by decide) (Nat.le_of_ble_eq_true rfl) ?_
  refine aj.aload_n dX4_init_0 rfl ?_
  refine aj.objInit dX4_init_1 w311 w147 w148 (Nat.le_of_ble_eq_true rfl) (Nat.le_of_ble_eq_true rfl) ?_
  refine aj.aload_n dX4_init_4 rfl ?_
  refine aj.bipush (v := 7) dX4_init_5 rfl ?_
  refine nB.newI (N := 7) hN dX4_init_7 (by decide) rfl (by decide) (fun M hN => ?_)
  have hN : nB b M0 M i cs (.inr (4, [.null, .null])) [.inl (0, 7, .inl (fun _ => 0))] := hN
  refine nB.putF (f := 0) (cq := (RX4, TX4, 2)) hN dX4_init_9 rfl (Nat.le_of_ble_eq_true rfl) w312 rfl rfl rfl rfl rfl (Nat.le_of_ble_eq_true rfl) (fun M hN => ?_)
  have hN : nB b M0 M i cs (.inr (4, [.ref (b + (cs.length + 0)), .null])) [.inl (0, 7, .inl (fun _ => 0))] := hN
  refine aj.aload_n dX4_init_12 rfl ?_
  refine aj.bipush (v := 64) dX4_init_13 rfl ?_
  refine nB.newI (N := 64) hN dX4_init_15 (by decide) rfl (by decide) (fun M hN => ?_)
  have hN : nB b M0 M i cs (.inr (4, [.ref (b + (cs.length + 0)), .null])) [.inl (0, 7, .inl (fun _ => 0)), .inl (0, 64, .inl (fun _ => 0))] := hN
  refine nB.putF (f := 1) (cq := (RX4, TX4, 2)) hN dX4_init_17 rfl (Nat.le_of_ble_eq_true rfl) w313 rfl rfl rfl rfl rfl (Nat.le_of_ble_eq_true rfl) (fun M hN => ?_)
  have hN : nB b M0 M i cs (.inr (4, [.ref (b + (cs.length + 0)), .ref (b + (cs.length + 1))])) [.inl (0, 7, .inl (fun _ => 0)), .inl (0, 64, .inl (fun _ => 0))] := hN
  exact aj.vret rfl dX4_init_20 ⟨rfl, hN⟩
theorem k_initX6 {G : zG} {l : Launch} {b i : Nat} {M0 M : zM} {cs : List zC} (hN : nB b M0 M i cs (.inr (6, [.null, .long 0, .int 0])) []) : am G l kX6_init 1 [.ref (b + i)] M 1 36 (zv (fun M' => nB b M0 M' i cs (.inr (6, [.ref (b + (cs.length + 0)), .long 1, .int (-1)])) [.inl (1, 36, .inr (.inl (fun _ => 0)))])) := by
  refine am.of (by decide) (Nat.le_of_ble_eq_true rfl) ?_
  refine aj.aload_n dX6_init_0 rfl ?_
  refine aj.objInit dX6_init_1 w326 w147 w148 (Nat.le_of_ble_eq_true rfl) (Nat.le_of_ble_eq_true rfl) ?_
  refine aj.aload_n dX6_init_4 rfl ?_
  refine aj.bipush (v := 36) dX6_init_5 rfl ?_
  refine nB.newL (N := 36) hN dX6_init_7 (by decide) rfl (by decide) (fun M hN => ?_)
  have hN : nB b M0 M i cs (.inr (6, [.null, .long 0, .int 0])) [.inl (1, 36, .inr (.inl (fun _ => 0)))] := hN
  refine nB.putF (f := 0) (cq := (RX6, TX6, 3)) hN dX6_init_9 rfl (Nat.le_of_ble_eq_true rfl) w327 rfl rfl rfl rfl rfl (Nat.le_of_ble_eq_true rfl) (fun M hN => ?_)
  have hN : nB b M0 M i cs (.inr (6, [.ref (b + (cs.length + 0)), .long 0, .int 0])) [.inl (1, 36, .inr (.inl (fun _ => 0)))] := hN
  refine aj.aload_n dX6_init_12 rfl ?_
  refine aj.lconst (v := 1) dX6_init_13 rfl ?_
  refine nB.put (f := 1) (cq := (RX6, TX6, 3)) hN dX6_init_14 rfl (Nat.le_of_ble_eq_true rfl) w328 rfl rfl rfl (Nat.le_of_ble_eq_true rfl) (fun M hN => ?_)
  have hN : nB b M0 M i cs (.inr (6, [.ref (b + (cs.length + 0)), .long 1, .int 0])) [.inl (1, 36, .inr (.inl (fun _ => 0)))] := hN
  refine aj.aload_n dX6_init_17 rfl ?_
  refine aj.iconst (v := (-1)) dX6_init_18 rfl ?_
  refine nB.put (f := 2) (cq := (RX6, TX6, 3)) hN dX6_init_19 rfl (Nat.le_of_ble_eq_true rfl) w330 rfl rfl rfl (Nat.le_of_ble_eq_true rfl) (fun M hN => ?_)
  have hN : nB b M0 M i cs (.inr (6, [.ref (b + (cs.length + 0)), .long 1, .int (-1)])) [.inl (1, 36, .inr (.inl (fun _ => 0)))] := hN
  exact aj.vret rfl dX6_init_22 ⟨rfl, hN⟩
theorem k_initX0 {G : zG} {l : Launch} {b i : Nat} {M0 M : zM} {cs : List zC} (hN : nB b M0 M i cs (.inr (0, [.int 0, .int 0, .int 0, .int 0, .int 0, .int 0, .int 0, .int 0, .null, .null, .null])) []) : am G l kX0_init 1 [.ref (b + i)] M 1 4 (zv (fun M' => nB b M0 M' i cs (.inr (0, [.int 10, .int 10, .int 10, .int 1, .int 10, .int 0, .int 0, .int 0, .ref (b + (cs.length + 0)), .null, .null])) [.inl (0, 4, .inl (fun _ => 0))])) := by
  refine am.of (by decide) (Nat.le_of_ble_eq_true rfl) ?_
  refine aj.aload_n dX0_init_0 rfl ?_
  refine aj.objInit dX0_init_1 w202 w147 w148 (Nat.le_of_ble_eq_true rfl) (Nat.le_of_ble_eq_true rfl) ?_
  refine aj.aload_n dX0_init_4 rfl ?_
  refine aj.bipush (v := 10) dX0_init_5 rfl ?_
  refine nB.put (f := 0) (cq := (RX0, TX0, 11)) hN dX0_init_7 rfl (Nat.le_of_ble_eq_true rfl) w203 rfl rfl rfl (Nat.le_of_ble_eq_true rfl) (fun M hN => ?_)
  have hN : nB b M0 M i cs (.inr (0, [.int 10, .int 0, .int 0, .int 0, .int 0, .int 0, .int 0, .int 0, .null, .null, .null])) [] := hN
  refine aj.aload_n dX0_init_10 rfl ?_
  refine aj.bipush (v := 10) dX0_init_11 rfl ?_
  refine nB.put (f := 1) (cq := (RX0, TX0, 11)) hN dX0_init_13 rfl (Nat.le_of_ble_eq_true rfl) w206 rfl rfl rfl (Nat.le_of_ble_eq_true rfl) (fun M hN => ?_)
  have hN : nB b M0 M i cs (.inr (0, [.int 10, .int 10, .int 0, .int 0, .int 0, .int 0, .int 0, .int 0, .null, .null, .null])) [] := hN
  refine aj.aload_n dX0_init_16 rfl ?_
  refine aj.bipush (v := 10) dX0_init_17 rfl ?_
  refine nB.put (f := 2) (cq := (RX0, TX0, 11)) hN dX0_init_19 rfl (Nat.le_of_ble_eq_true rfl) w209 rfl rfl rfl (Nat.le_of_ble_eq_true rfl) (fun M hN => ?_)
  have hN : nB b M0 M i cs (.inr (0, [.int 10, .int 10, .int 10, .int 0, .int 0, .int 0, .int 0, .int 0, .null, .null, .null])) [] := hN
  refine aj.aload_n dX0_init_22 rfl ?_
  refine aj.iconst (v := 1) dX0_init_23 rfl ?_
  refine nB.put (f := 3) (cq := (RX0, TX0, 11)) hN dX0_init_24 rfl (Nat.le_of_ble_eq_true rfl) w212 rfl rfl rfl (Nat.le_of_ble_eq_true rfl) (fun M hN => ?_)
  have hN : nB b M0 M i cs (.inr (0, [.int 10, .int 10, .int 10, .int 1, .int 0, .int 0, .int 0, .int 0, .null, .null, .null])) [] := hN
  refine aj.aload_n dX0_init_27 rfl ?_
  refine aj.bipush (v := 10) dX0_init_28 rfl ?_
  refine nB.put (f := 4) (cq := (RX0, TX0, 11)) hN dX0_init_30 rfl (Nat.le_of_ble_eq_true rfl) w215 rfl rfl rfl (Nat.le_of_ble_eq_true rfl) (fun M hN => ?_)
  have hN : nB b M0 M i cs (.inr (0, [.int 10, .int 10, .int 10, .int 1, .int 10, .int 0, .int 0, .int 0, .null, .null, .null])) [] := hN
  refine aj.aload_n dX0_init_33 rfl ?_
  refine aj.iconst (v := 0) dX0_init_34 rfl ?_
  refine nB.put (f := 5) (cq := (RX0, TX0, 11)) hN dX0_init_35 rfl (Nat.le_of_ble_eq_true rfl) w218 rfl rfl rfl (Nat.le_of_ble_eq_true rfl) (fun M hN => ?_)
  have hN : nB b M0 M i cs (.inr (0, [.int 10, .int 10, .int 10, .int 1, .int 10, .int 0, .int 0, .int 0, .null, .null, .null])) [] := hN
  refine aj.aload_n dX0_init_38 rfl ?_
  refine aj.iconst (v := 0) dX0_init_39 rfl ?_
  refine nB.put (f := 6) (cq := (RX0, TX0, 11)) hN dX0_init_40 rfl (Nat.le_of_ble_eq_true rfl) w221 rfl rfl rfl (Nat.le_of_ble_eq_true rfl) (fun M hN => ?_)
  have hN : nB b M0 M i cs (.inr (0, [.int 10, .int 10, .int 10, .int 1, .int 10, .int 0, .int 0, .int 0, .null, .null, .null])) [] := hN
  refine aj.aload_n dX0_init_43 rfl ?_
  refine aj.iconst (v := 0) dX0_init_44 rfl ?_
  refine nB.put (f := 7) (cq := (RX0, TX0, 11)) hN dX0_init_45 rfl (Nat.le_of_ble_eq_true rfl) w224 rfl rfl rfl (Nat.le_of_ble_eq_true rfl) (fun M hN => ?_)
  have hN : nB b M0 M i cs (.inr (0, [.int 10, .int 10, .int 10, .int 1, .int 10, .int 0, .int 0, .int 0, .null, .null, .null])) [] := hN
  refine aj.aload_n dX0_init_48 rfl ?_
  refine aj.iconst (v := 4) dX0_init_49 rfl ?_
  refine nB.newI (N := 4) hN dX0_init_50 (by decide) rfl (by decide) (fun M hN => ?_)
  have hN : nB b M0 M i cs (.inr (0, [.int 10, .int 10, .int 10, .int 1, .int 10, .int 0, .int 0, .int 0, .null, .null, .null])) [.inl (0, 4, .inl (fun _ => 0))] := hN
  refine nB.putF (f := 8) (cq := (RX0, TX0, 11)) hN dX0_init_52 rfl (Nat.le_of_ble_eq_true rfl) w227 rfl rfl rfl rfl rfl (Nat.le_of_ble_eq_true rfl) (fun M hN => ?_)
  have hN : nB b M0 M i cs (.inr (0, [.int 10, .int 10, .int 10, .int 1, .int 10, .int 0, .int 0, .int 0, .ref (b + (cs.length + 0)), .null, .null])) [.inl (0, 4, .inl (fun _ => 0))] := hN
  refine aj.aload_n dX0_init_55 rfl ?_
  refine aj.null dX0_init_56 ?_
  refine nB.put (f := 9) (cq := (RX0, TX0, 11)) hN dX0_init_57 rfl (Nat.le_of_ble_eq_true rfl) w228 rfl rfl rfl (Nat.le_of_ble_eq_true rfl) (fun M hN => ?_)
  have hN : nB b M0 M i cs (.inr (0, [.int 10, .int 10, .int 10, .int 1, .int 10, .int 0, .int 0, .int 0, .ref (b + (cs.length + 0)), .null, .null])) [.inl (0, 4, .inl (fun _ => 0))] := hN
  refine aj.aload_n dX0_init_60 rfl ?_
  refine aj.null dX0_init_61 ?_
  refine nB.put (f := 10) (cq := (RX0, TX0, 11)) hN dX0_init_62 rfl (Nat.le_of_ble_eq_true rfl) w232 rfl rfl rfl (Nat.le_of_ble_eq_true rfl) (fun M hN => ?_)
  have hN : nB b M0 M i cs (.inr (0, [.int 10, .int 10, .int 10, .int 1, .int 10, .int 0, .int 0, .int 0, .ref (b + (cs.length + 0)), .null, .null])) [.inl (0, 4, .inl (fun _ => 0))] := hN
  exact aj.vret rfl dX0_init_65 ⟨rfl, hN⟩
theorem k_initX5 {G : zG} {l : Launch} {b i : Nat} {M0 M : zM} {cs : List zC} (hN : nB b M0 M i cs (.inr (5, [.null, .int 0, .int 0, .null, .int 0, .int 0, .int 0, .int 0])) []) : am G l kX5_init 2 [.ref (b + i)] M 3 1803 (zv (fun M' => nB b M0 M' i cs (.inr (5, [.ref (b + (cs.length + 0)), .int 0, .int (-1), .ref (b + (cs.length + 2)), .int 0, .int 0, .int 0, .int (-1)])) [.inr (9, [.ref (b + (cs.length + 1)), .int 0]), .inl (0, 901, .inl (fun _ => 0)), .inl (0, 900, .inl (fun _ => 0))])) := by
  refine am.of (by decide) (Nat.le_of_ble_eq_true rfl) ?_
  refine aj.aload_n dX5_init_0 rfl ?_
  refine aj.objInit dX5_init_1 w154 w147 w148 (Nat.le_of_ble_eq_true rfl) (Nat.le_of_ble_eq_true rfl) ?_
  refine aj.aload_n dX5_init_4 rfl ?_
  obtain ⟨M1, hM1⟩ : ∃ z, z = M := ⟨_, rfl⟩
  have hM12 : M1.2 = b + (cs.length + 0) := by rw [hM1]; exact hN.2.1
  refine aj.new (ci := 9) (cq := (RX9, TX9, 2)) (fs := [.null, .int 0]) dX5_init_5 rfl w155 w156 w122 (by decide) ?_
  rw [← hM1] at hN ⊢
  refine aj.dup dX5_init_8 rfl ?_
  refine aj.callIN (d' := 1) (kc := 1) (ks := 901) (As := []) (rest := [.ref M1.2, .ref (b + i)]) dX5_init_9 v_X5_11 rfl w158 rfl rfl rfl (Nat.le_of_ble_eq_true rfl) (Nat.le_of_ble_eq_true rfl) (k_initX9 (b := M1.2) (i := 0) (nB_start (M0 := M1) (M := M1) rfl)) (fun r M hM => ?_)
  obtain ⟨rfl, hN2⟩ := hM
  have hN := hN.app hN2
  rw [hM12] at hN
  have hN : nB b M0 M i cs (.inr (5, [.null, .int 0, .int 0, .null, .int 0, .int 0, .int 0, .int 0])) [.inr (9, [.ref (b + (cs.length + 1)), .int 0]), .inl (0, 901, .inl (fun _ => 0))] := hN
  rw [hM12]
  refine nB.putF (f := 0) (cq := (RX5, TX5, 8)) hN dX5_init_12 rfl (Nat.le_of_ble_eq_true rfl) w170 rfl rfl rfl rfl rfl (Nat.le_of_ble_eq_true rfl) (fun M hN => ?_)
  have hN : nB b M0 M i cs (.inr (5, [.ref (b + (cs.length + 0)), .int 0, .int 0, .null, .int 0, .int 0, .int 0, .int 0])) [.inr (9, [.ref (b + (cs.length + 1)), .int 0]), .inl (0, 901, .inl (fun _ => 0))] := hN
  refine aj.aload_n dX5_init_15 rfl ?_
  refine aj.iconst (v := 0) dX5_init_16 rfl ?_
  refine nB.put (f := 1) (cq := (RX5, TX5, 8)) hN dX5_init_17 rfl (Nat.le_of_ble_eq_true rfl) w171 rfl rfl rfl (Nat.le_of_ble_eq_true rfl) (fun M hN => ?_)
  have hN : nB b M0 M i cs (.inr (5, [.ref (b + (cs.length + 0)), .int 0, .int 0, .null, .int 0, .int 0, .int 0, .int 0])) [.inr (9, [.ref (b + (cs.length + 1)), .int 0]), .inl (0, 901, .inl (fun _ => 0))] := hN
  refine aj.aload_n dX5_init_20 rfl ?_
  refine aj.iconst (v := (-1)) dX5_init_21 rfl ?_
  refine nB.put (f := 2) (cq := (RX5, TX5, 8)) hN dX5_init_22 rfl (Nat.le_of_ble_eq_true rfl) w172 rfl rfl rfl (Nat.le_of_ble_eq_true rfl) (fun M hN => ?_)
  have hN : nB b M0 M i cs (.inr (5, [.ref (b + (cs.length + 0)), .int 0, .int (-1), .null, .int 0, .int 0, .int 0, .int 0])) [.inr (9, [.ref (b + (cs.length + 1)), .int 0]), .inl (0, 901, .inl (fun _ => 0))] := hN
  refine aj.aload_n dX5_init_25 rfl ?_
  refine aj.sipush (v := 900) dX5_init_26 rfl ?_
  refine nB.newI (N := 900) hN dX5_init_29 (by decide) rfl (by decide) (fun M hN => ?_)
  have hN : nB b M0 M i cs (.inr (5, [.ref (b + (cs.length + 0)), .int 0, .int (-1), .null, .int 0, .int 0, .int 0, .int 0])) [.inr (9, [.ref (b + (cs.length + 1)), .int 0]), .inl (0, 901, .inl (fun _ => 0)), .inl (0, 900, .inl (fun _ => 0))] := hN
  refine nB.putF (f := 3) (cq := (RX5, TX5, 8)) hN dX5_init_31 rfl (Nat.le_of_ble_eq_true rfl) w173 rfl rfl rfl rfl rfl (Nat.le_of_ble_eq_true rfl) (fun M hN => ?_)
  have hN : nB b M0 M i cs (.inr (5, [.ref (b + (cs.length + 0)), .int 0, .int (-1), .ref (b + (cs.length + 2)), .int 0, .int 0, .int 0, .int 0])) [.inr (9, [.ref (b + (cs.length + 1)), .int 0]), .inl (0, 901, .inl (fun _ => 0)), .inl (0, 900, .inl (fun _ => 0))] := hN
  refine aj.aload_n dX5_init_34 rfl ?_
  refine aj.iconst (v := 0) dX5_init_35 rfl ?_
  refine nB.put (f := 4) (cq := (RX5, TX5, 8)) hN dX5_init_36 rfl (Nat.le_of_ble_eq_true rfl) w174 rfl rfl rfl (Nat.le_of_ble_eq_true rfl) (fun M hN => ?_)
  have hN : nB b M0 M i cs (.inr (5, [.ref (b + (cs.length + 0)), .int 0, .int (-1), .ref (b + (cs.length + 2)), .int 0, .int 0, .int 0, .int 0])) [.inr (9, [.ref (b + (cs.length + 1)), .int 0]), .inl (0, 901, .inl (fun _ => 0)), .inl (0, 900, .inl (fun _ => 0))] := hN
  refine aj.aload_n dX5_init_39 rfl ?_
  refine aj.iconst (v := 0) dX5_init_40 rfl ?_
  refine nB.put (f := 5) (cq := (RX5, TX5, 8)) hN dX5_init_41 rfl (Nat.le_of_ble_eq_true rfl) w175 rfl rfl rfl (Nat.le_of_ble_eq_true rfl) (fun M hN => ?_)
  have hN : nB b M0 M i cs (.inr (5, [.ref (b + (cs.length + 0)), .int 0, .int (-1), .ref (b + (cs.length + 2)), .int 0, .int 0, .int 0, .int 0])) [.inr (9, [.ref (b + (cs.length + 1)), .int 0]), .inl (0, 901, .inl (fun _ => 0)), .inl (0, 900, .inl (fun _ => 0))] := hN
  refine aj.aload_n dX5_init_44 rfl ?_
  refine aj.iconst (v := 0) dX5_init_45 rfl ?_
  refine nB.put (f := 6) (cq := (RX5, TX5, 8)) hN dX5_init_46 rfl (Nat.le_of_ble_eq_true rfl) w176 rfl rfl rfl (Nat.le_of_ble_eq_true rfl) (fun M hN => ?_)
  have hN : nB b M0 M i cs (.inr (5, [.ref (b + (cs.length + 0)), .int 0, .int (-1), .ref (b + (cs.length + 2)), .int 0, .int 0, .int 0, .int 0])) [.inr (9, [.ref (b + (cs.length + 1)), .int 0]), .inl (0, 901, .inl (fun _ => 0)), .inl (0, 900, .inl (fun _ => 0))] := hN
  refine aj.aload_n dX5_init_49 rfl ?_
  refine aj.iconst (v := (-1)) dX5_init_50 rfl ?_
  refine nB.put (f := 7) (cq := (RX5, TX5, 8)) hN dX5_init_51 rfl (Nat.le_of_ble_eq_true rfl) w178 rfl rfl rfl (Nat.le_of_ble_eq_true rfl) (fun M hN => ?_)
  have hN : nB b M0 M i cs (.inr (5, [.ref (b + (cs.length + 0)), .int 0, .int (-1), .ref (b + (cs.length + 2)), .int 0, .int 0, .int 0, .int (-1)])) [.inr (9, [.ref (b + (cs.length + 1)), .int 0]), .inl (0, 901, .inl (fun _ => 0)), .inl (0, 900, .inl (fun _ => 0))] := hN
  exact aj.vret rfl dX5_init_54 ⟨rfl, hN⟩
theorem k_initX1 {G : zG} {l : Launch} {b i : Nat} {M0 M : zM} {cs : List zC} (hN : nB b M0 M i cs (.inr (1, [.null, .int 0, .int 0])) []) : am G l kX1_init 2 [.ref (b + i)] M 31 140 (zv (fun M' => nB b M0 M' i cs (.inr (1, [.ref (b + (cs.length + 0)), .int 0, .int 0])) [.inl (4, 10, .inr (.inr (.inr (.inr (va_up (va_up (va_up (va_up (va_up (va_up (va_up (va_up (va_up (va_up (fun _ => none) 0 (some (b + (cs.length + 1)))) 1 (some (b + (cs.length + 4)))) 2 (some (b + (cs.length + 7)))) 3 (some (b + (cs.length + 10)))) 4 (some (b + (cs.length + 13)))) 5 (some (b + (cs.length + 16)))) 6 (some (b + (cs.length + 19)))) 7 (some (b + (cs.length + 22)))) 8 (some (b + (cs.length + 25)))) 9 (some (b + (cs.length + 28)))))))), .inr (7, [.ref (b + (cs.length + 2)), .ref (b + (cs.length + 3)), .int 0, .int 0, .int 0]), .inl (0, 4, .inl (fun _ => 0)), .inl (0, 4, .inl (fun _ => 0)), .inr (7, [.ref (b + (cs.length + 5)), .ref (b + (cs.length + 6)), .int 0, .int 0, .int 0]), .inl (0, 4, .inl (fun _ => 0)), .inl (0, 4, .inl (fun _ => 0)), .inr (7, [.ref (b + (cs.length + 8)), .ref (b + (cs.length + 9)), .int 0, .int 0, .int 0]), .inl (0, 4, .inl (fun _ => 0)), .inl (0, 4, .inl (fun _ => 0)), .inr (7, [.ref (b + (cs.length + 11)), .ref (b + (cs.length + 12)), .int 0, .int 0, .int 0]), .inl (0, 4, .inl (fun _ => 0)), .inl (0, 4, .inl (fun _ => 0)), .inr (7, [.ref (b + (cs.length + 14)), .ref (b + (cs.length + 15)), .int 0, .int 0, .int 0]), .inl (0, 4, .inl (fun _ => 0)), .inl (0, 4, .inl (fun _ => 0)), .inr (7, [.ref (b + (cs.length + 17)), .ref (b + (cs.length + 18)), .int 0, .int 0, .int 0]), .inl (0, 4, .inl (fun _ => 0)), .inl (0, 4, .inl (fun _ => 0)), .inr (7, [.ref (b + (cs.length + 20)), .ref (b + (cs.length + 21)), .int 0, .int 0, .int 0]), .inl (0, 4, .inl (fun _ => 0)), .inl (0, 4, .inl (fun _ => 0)), .inr (7, [.ref (b + (cs.length + 23)), .ref (b + (cs.length + 24)), .int 0, .int 0, .int 0]), .inl (0, 4, .inl (fun _ => 0)), .inl (0, 4, .inl (fun _ => 0)), .inr (7, [.ref (b + (cs.length + 26)), .ref (b + (cs.length + 27)), .int 0, .int 0, .int 0]), .inl (0, 4, .inl (fun _ => 0)), .inl (0, 4, .inl (fun _ => 0)), .inr (7, [.ref (b + (cs.length + 29)), .ref (b + (cs.length + 30)), .int 0, .int 0, .int 0]), .inl (0, 4, .inl (fun _ => 0)), .inl (0, 4, .inl (fun _ => 0))])) := by
  refine am.of (by decide) (Nat.le_of_ble_eq_true rfl) ?_
  refine aj.aload_n dX1_init_0 rfl ?_
  refine aj.objInit dX1_init_1 w288 w147 w148 (Nat.le_of_ble_eq_true rfl) (Nat.le_of_ble_eq_true rfl) ?_
  refine aj.aload_n dX1_init_4 rfl ?_
  refine aj.bipush (v := 10) dX1_init_5 rfl ?_
  refine nB.anew4 (N := 10) hN dX1_init_7 w289 (by decide) rfl (by decide) (fun M hN => ?_)
  have hN : nB b M0 M i cs (.inr (1, [.null, .int 0, .int 0])) [.inl (4, 10, .inr (.inr (.inr (.inr (fun _ => none)))))] := hN
  refine nB.putF (f := 0) (cq := (RX1, TX1, 3)) hN dX1_init_10 rfl (Nat.le_of_ble_eq_true rfl) w292 rfl rfl rfl rfl rfl (Nat.le_of_ble_eq_true rfl) (fun M hN => ?_)
  have hN : nB b M0 M i cs (.inr (1, [.ref (b + (cs.length + 0)), .int 0, .int 0])) [.inl (4, 10, .inr (.inr (.inr (.inr (fun _ => none)))))] := hN
  refine aj.aload_n dX1_init_13 rfl ?_
  refine aj.iconst (v := 0) dX1_init_14 rfl ?_
  refine nB.put (f := 1) (cq := (RX1, TX1, 3)) hN dX1_init_15 rfl (Nat.le_of_ble_eq_true rfl) w293 rfl rfl rfl (Nat.le_of_ble_eq_true rfl) (fun M hN => ?_)
  have hN : nB b M0 M i cs (.inr (1, [.ref (b + (cs.length + 0)), .int 0, .int 0])) [.inl (4, 10, .inr (.inr (.inr (.inr (fun _ => none)))))] := hN
  refine aj.aload_n dX1_init_18 rfl ?_
  refine aj.iconst (v := 0) dX1_init_19 rfl ?_
  refine nB.put (f := 2) (cq := (RX1, TX1, 3)) hN dX1_init_20 rfl (Nat.le_of_ble_eq_true rfl) w294 rfl rfl rfl (Nat.le_of_ble_eq_true rfl) (fun M hN => ?_)
  have hN : nB b M0 M i cs (.inr (1, [.ref (b + (cs.length + 0)), .int 0, .int 0])) [.inl (4, 10, .inr (.inr (.inr (.inr (fun _ => none)))))] := hN
  refine aj.iconst (v := 0) dX1_init_23 rfl ?_
  refine aj.istore_n (lv' := [(1, .int 0), (0, .ref (b + i))]) dX1_init_24 (Nat.le_of_ble_eq_true rfl) rfl ?_
  refine aj.iload_n dX1_init_25 rfl ?_
  refine aj.aload_n dX1_init_26 rfl ?_
  refine aj.get (i := 0) (cq := (RX1, TX1, 3)) dX1_init_27 hN.2.2.2.1 rfl (Nat.le_of_ble_eq_true rfl) w292 rfl ?_
  refine aj.alen (v := 10) dX1_init_30 (hN.2.2.2.2.2 0 (Nat.le_of_ble_eq_true rfl)) (by decide) rfl ?_
  refine aj.icmp_geN (a := 0) (b := 10) (tgt := 53) dX1_init_31 rfl rfl (by omega) (by omega) rfl (fun c31 => ?_) (fun c31 => ?_)
  · exact absurd c31 (by decide)
  · refine aj.aload_n dX1_init_34 rfl ?_
    refine aj.get (i := 0) (cq := (RX1, TX1, 3)) dX1_init_35 hN.2.2.2.1 rfl (Nat.le_of_ble_eq_true rfl) w292 rfl ?_
    refine aj.iload_n dX1_init_38 rfl ?_
    obtain ⟨M1, hM1⟩ : ∃ z, z = M := ⟨_, rfl⟩
    have hM12 : M1.2 = b + (cs.length + 1) := by rw [hM1]; exact hN.2.1
    refine aj.new (ci := 7) (cq := (RX7, TX7, 5)) (fs := [.null, .null, .int 0, .int 0, .int 0]) dX1_init_39 rfl w289 w259 w124 (by decide) ?_
    rw [← hM1] at hN ⊢
    refine aj.dup dX1_init_42 rfl ?_
    refine aj.callIN (d' := 1) (kc := 2) (ks := 8) (As := []) (rest := [.ref M1.2, .int 0, .ref (b + (cs.length + 0))]) dX1_init_43 v_X1_24 rfl w261 rfl rfl rfl (Nat.le_of_ble_eq_true rfl) (Nat.le_of_ble_eq_true rfl) (k_initX7 (b := M1.2) (i := 0) (nB_start (M0 := M1) (M := M1) rfl)) (fun r M hM => ?_)
    obtain ⟨rfl, hN2⟩ := hM
    have hN := hN.app hN2
    rw [hM12] at hN
    have hN : nB b M0 M i cs (.inr (1, [.ref (b + (cs.length + 0)), .int 0, .int 0])) [.inl (4, 10, .inr (.inr (.inr (.inr (fun _ => none))))), .inr (7, [.ref (b + (cs.length + 2)), .ref (b + (cs.length + 3)), .int 0, .int 0, .int 0]), .inl (0, 4, .inl (fun _ => 0)), .inl (0, 4, .inl (fun _ => 0))] := hN
    rw [hM12]
    refine nB.aast4 (kk := 0) (j := 0) (kv := 1) hN dX1_init_46 rfl rfl (by decide) rfl (Nat.le_of_ble_eq_true rfl) (fun M hN => ?_)
    have hN : nB b M0 M i cs (.inr (1, [.ref (b + (cs.length + 0)), .int 0, .int 0])) [.inl (4, 10, .inr (.inr (.inr (.inr (va_up (fun _ => none) 0 (some (b + (cs.length + 1)))))))), .inr (7, [.ref (b + (cs.length + 2)), .ref (b + (cs.length + 3)), .int 0, .int 0, .int 0]), .inl (0, 4, .inl (fun _ => 0)), .inl (0, 4, .inl (fun _ => 0))] := hN
    refine aj.iinc (v := 1) (lv' := [(1, .int 1), (0, .ref (b + i))]) dX1_init_47 rfl (Nat.le_of_ble_eq_true rfl) (by decide) rfl ?_
    refine aj.goto (tgt := 25) dX1_init_50 rfl ?_
    refine aj.iload_n dX1_init_25 rfl ?_
    refine aj.aload_n dX1_init_26 rfl ?_
    refine aj.get (i := 0) (cq := (RX1, TX1, 3)) dX1_init_27 hN.2.2.2.1 rfl (Nat.le_of_ble_eq_true rfl) w292 rfl ?_
    refine aj.alen (v := 10) dX1_init_30 (hN.2.2.2.2.2 0 (Nat.le_of_ble_eq_true rfl)) (by decide) rfl ?_
    refine aj.icmp_geN (a := 1) (b := 10) (tgt := 53) dX1_init_31 rfl rfl (by omega) (by omega) rfl (fun c31 => ?_) (fun c31 => ?_)
    · exact absurd c31 (by decide)
    · refine aj.aload_n dX1_init_34 rfl ?_
      refine aj.get (i := 0) (cq := (RX1, TX1, 3)) dX1_init_35 hN.2.2.2.1 rfl (Nat.le_of_ble_eq_true rfl) w292 rfl ?_
      refine aj.iload_n dX1_init_38 rfl ?_
      obtain ⟨M1, hM1⟩ : ∃ z, z = M := ⟨_, rfl⟩
      have hM12 : M1.2 = b + (cs.length + 4) := by rw [hM1]; exact hN.2.1
      refine aj.new (ci := 7) (cq := (RX7, TX7, 5)) (fs := [.null, .null, .int 0, .int 0, .int 0]) dX1_init_39 rfl w289 w259 w124 (by decide) ?_
      rw [← hM1] at hN ⊢
      refine aj.dup dX1_init_42 rfl ?_
      refine aj.callIN (d' := 1) (kc := 2) (ks := 8) (As := []) (rest := [.ref M1.2, .int 1, .ref (b + (cs.length + 0))]) dX1_init_43 v_X1_24 rfl w261 rfl rfl rfl (Nat.le_of_ble_eq_true rfl) (Nat.le_of_ble_eq_true rfl) (k_initX7 (b := M1.2) (i := 0) (nB_start (M0 := M1) (M := M1) rfl)) (fun r M hM => ?_)
      obtain ⟨rfl, hN2⟩ := hM
      have hN := hN.app hN2
      rw [hM12] at hN
      have hN : nB b M0 M i cs (.inr (1, [.ref (b + (cs.length + 0)), .int 0, .int 0])) [.inl (4, 10, .inr (.inr (.inr (.inr (va_up (fun _ => none) 0 (some (b + (cs.length + 1)))))))), .inr (7, [.ref (b + (cs.length + 2)), .ref (b + (cs.length + 3)), .int 0, .int 0, .int 0]), .inl (0, 4, .inl (fun _ => 0)), .inl (0, 4, .inl (fun _ => 0)), .inr (7, [.ref (b + (cs.length + 5)), .ref (b + (cs.length + 6)), .int 0, .int 0, .int 0]), .inl (0, 4, .inl (fun _ => 0)), .inl (0, 4, .inl (fun _ => 0))] := hN
      rw [hM12]
      refine nB.aast4 (kk := 0) (j := 1) (kv := 4) hN dX1_init_46 rfl rfl (by decide) rfl (Nat.le_of_ble_eq_true rfl) (fun M hN => ?_)
      have hN : nB b M0 M i cs (.inr (1, [.ref (b + (cs.length + 0)), .int 0, .int 0])) [.inl (4, 10, .inr (.inr (.inr (.inr (va_up (va_up (fun _ => none) 0 (some (b + (cs.length + 1)))) 1 (some (b + (cs.length + 4)))))))), .inr (7, [.ref (b + (cs.length + 2)), .ref (b + (cs.length + 3)), .int 0, .int 0, .int 0]), .inl (0, 4, .inl (fun _ => 0)), .inl (0, 4, .inl (fun _ => 0)), .inr (7, [.ref (b + (cs.length + 5)), .ref (b + (cs.length + 6)), .int 0, .int 0, .int 0]), .inl (0, 4, .inl (fun _ => 0)), .inl (0, 4, .inl (fun _ => 0))] := hN
      refine aj.iinc (v := 2) (lv' := [(1, .int 2), (0, .ref (b + i))]) dX1_init_47 rfl (Nat.le_of_ble_eq_true rfl) (by decide) rfl ?_
      refine aj.goto (tgt := 25) dX1_init_50 rfl ?_
      refine aj.iload_n dX1_init_25 rfl ?_
      refine aj.aload_n dX1_init_26 rfl ?_
      refine aj.get (i := 0) (cq := (RX1, TX1, 3)) dX1_init_27 hN.2.2.2.1 rfl (Nat.le_of_ble_eq_true rfl) w292 rfl ?_
      refine aj.alen (v := 10) dX1_init_30 (hN.2.2.2.2.2 0 (Nat.le_of_ble_eq_true rfl)) (by decide) rfl ?_
      refine aj.icmp_geN (a := 2) (b := 10) (tgt := 53) dX1_init_31 rfl rfl (by omega) (by omega) rfl (fun c31 => ?_) (fun c31 => ?_)
      · exact absurd c31 (by decide)
      · refine aj.aload_n dX1_init_34 rfl ?_
        refine aj.get (i := 0) (cq := (RX1, TX1, 3)) dX1_init_35 hN.2.2.2.1 rfl (Nat.le_of_ble_eq_true rfl) w292 rfl ?_
        refine aj.iload_n dX1_init_38 rfl ?_
        obtain ⟨M1, hM1⟩ : ∃ z, z = M := ⟨_, rfl⟩
        have hM12 : M1.2 = b + (cs.length + 7) := by rw [hM1]; exact hN.2.1
        refine aj.new (ci := 7) (cq := (RX7, TX7, 5)) (fs := [.null, .null, .int 0, .int 0, .int 0]) dX1_init_39 rfl w289 w259 w124 (by decide) ?_
        rw [← hM1] at hN ⊢
        refine aj.dup dX1_init_42 rfl ?_
        refine aj.callIN (d' := 1) (kc := 2) (ks := 8) (As := []) (rest := [.ref M1.2, .int 2, .ref (b + (cs.length + 0))]) dX1_init_43 v_X1_24 rfl w261 rfl rfl rfl (Nat.le_of_ble_eq_true rfl) (Nat.le_of_ble_eq_true rfl) (k_initX7 (b := M1.2) (i := 0) (nB_start (M0 := M1) (M := M1) rfl)) (fun r M hM => ?_)
        obtain ⟨rfl, hN2⟩ := hM
        have hN := hN.app hN2
        rw [hM12] at hN
        have hN : nB b M0 M i cs (.inr (1, [.ref (b + (cs.length + 0)), .int 0, .int 0])) [.inl (4, 10, .inr (.inr (.inr (.inr (va_up (va_up (fun _ => none) 0 (some (b + (cs.length + 1)))) 1 (some (b + (cs.length + 4)))))))), .inr (7, [.ref (b + (cs.length + 2)), .ref (b + (cs.length + 3)), .int 0, .int 0, .int 0]), .inl (0, 4, .inl (fun _ => 0)), .inl (0, 4, .inl (fun _ => 0)), .inr (7, [.ref (b + (cs.length + 5)), .ref (b + (cs.length + 6)), .int 0, .int 0, .int 0]), .inl (0, 4, .inl (fun _ => 0)), .inl (0, 4, .inl (fun _ => 0)), .inr (7, [.ref (b + (cs.length + 8)), .ref (b + (cs.length + 9)), .int 0, .int 0, .int 0]), .inl (0, 4, .inl (fun _ => 0)), .inl (0, 4, .inl (fun _ => 0))] := hN
        rw [hM12]
        refine nB.aast4 (kk := 0) (j := 2) (kv := 7) hN dX1_init_46 rfl rfl (by decide) rfl (Nat.le_of_ble_eq_true rfl) (fun M hN => ?_)
        have hN : nB b M0 M i cs (.inr (1, [.ref (b + (cs.length + 0)), .int 0, .int 0])) [.inl (4, 10, .inr (.inr (.inr (.inr (va_up (va_up (va_up (fun _ => none) 0 (some (b + (cs.length + 1)))) 1 (some (b + (cs.length + 4)))) 2 (some (b + (cs.length + 7)))))))), .inr (7, [.ref (b + (cs.length + 2)), .ref (b + (cs.length + 3)), .int 0, .int 0, .int 0]), .inl (0, 4, .inl (fun _ => 0)), .inl (0, 4, .inl (fun _ => 0)), .inr (7, [.ref (b + (cs.length + 5)), .ref (b + (cs.length + 6)), .int 0, .int 0, .int 0]), .inl (0, 4, .inl (fun _ => 0)), .inl (0, 4, .inl (fun _ => 0)), .inr (7, [.ref (b + (cs.length + 8)), .ref (b + (cs.length + 9)), .int 0, .int 0, .int 0]), .inl (0, 4, .inl (fun _ => 0)), .inl (0, 4, .inl (fun _ => 0))] := hN
        refine aj.iinc (v := 3) (lv' := [(1, .int 3), (0, .ref (b + i))]) dX1_init_47 rfl (Nat.le_of_ble_eq_true rfl) (by decide) rfl ?_
        refine aj.goto (tgt := 25) dX1_init_50 rfl ?_
        refine aj.iload_n dX1_init_25 rfl ?_
        refine aj.aload_n dX1_init_26 rfl ?_
        refine aj.get (i := 0) (cq := (RX1, TX1, 3)) dX1_init_27 hN.2.2.2.1 rfl (Nat.le_of_ble_eq_true rfl) w292 rfl ?_
        refine aj.alen (v := 10) dX1_init_30 (hN.2.2.2.2.2 0 (Nat.le_of_ble_eq_true rfl)) (by decide) rfl ?_
        refine aj.icmp_geN (a := 3) (b := 10) (tgt := 53) dX1_init_31 rfl rfl (by omega) (by omega) rfl (fun c31 => ?_) (fun c31 => ?_)
        · exact absurd c31 (by decide)
        · refine aj.aload_n dX1_init_34 rfl ?_
          refine aj.get (i := 0) (cq := (RX1, TX1, 3)) dX1_init_35 hN.2.2.2.1 rfl (Nat.le_of_ble_eq_true rfl) w292 rfl ?_
          refine aj.iload_n dX1_init_38 rfl ?_
          obtain ⟨M1, hM1⟩ : ∃ z, z = M := ⟨_, rfl⟩
          have hM12 : M1.2 = b + (cs.length + 10) := by rw [hM1]; exact hN.2.1
          refine aj.new (ci := 7) (cq := (RX7, TX7, 5)) (fs := [.null, .null, .int 0, .int 0, .int 0]) dX1_init_39 rfl w289 w259 w124 (by decide) ?_
          rw [← hM1] at hN ⊢
          refine aj.dup dX1_init_42 rfl ?_
          refine aj.callIN (d' := 1) (kc := 2) (ks := 8) (As := []) (rest := [.ref M1.2, .int 3, .ref (b + (cs.length + 0))]) dX1_init_43 v_X1_24 rfl w261 rfl rfl rfl (Nat.le_of_ble_eq_true rfl) (Nat.le_of_ble_eq_true rfl) (k_initX7 (b := M1.2) (i := 0) (nB_start (M0 := M1) (M := M1) rfl)) (fun r M hM => ?_)
          obtain ⟨rfl, hN2⟩ := hM
          have hN := hN.app hN2
          rw [hM12] at hN
          have hN : nB b M0 M i cs (.inr (1, [.ref (b + (cs.length + 0)), .int 0, .int 0])) [.inl (4, 10, .inr (.inr (.inr (.inr (va_up (va_up (va_up (fun _ => none) 0 (some (b + (cs.length + 1)))) 1 (some (b + (cs.length + 4)))) 2 (some (b + (cs.length + 7)))))))), .inr (7, [.ref (b + (cs.length + 2)), .ref (b + (cs.length + 3)), .int 0, .int 0, .int 0]), .inl (0, 4, .inl (fun _ => 0)), .inl (0, 4, .inl (fun _ => 0)), .inr (7, [.ref (b + (cs.length + 5)), .ref (b + (cs.length + 6)), .int 0, .int 0, .int 0]), .inl (0, 4, .inl (fun _ => 0)), .inl (0, 4, .inl (fun _ => 0)), .inr (7, [.ref (b + (cs.length + 8)), .ref (b + (cs.length + 9)), .int 0, .int 0, .int 0]), .inl (0, 4, .inl (fun _ => 0)), .inl (0, 4, .inl (fun _ => 0)), .inr (7, [.ref (b + (cs.length + 11)), .ref (b + (cs.length + 12)), .int 0, .int 0, .int 0]), .inl (0, 4, .inl (fun _ => 0)), .inl (0, 4, .inl (fun _ => 0))] := hN
          rw [hM12]
          refine nB.aast4 (kk := 0) (j := 3) (kv := 10) hN dX1_init_46 rfl rfl (by decide) rfl (Nat.le_of_ble_eq_true rfl) (fun M hN => ?_)
          have hN : nB b M0 M i cs (.inr (1, [.ref (b + (cs.length + 0)), .int 0, .int 0])) [.inl (4, 10, .inr (.inr (.inr (.inr (va_up (va_up (va_up (va_up (fun _ => none) 0 (some (b + (cs.length + 1)))) 1 (some (b + (cs.length + 4)))) 2 (some (b + (cs.length + 7)))) 3 (some (b + (cs.length + 10)))))))), .inr (7, [.ref (b + (cs.length + 2)), .ref (b + (cs.length + 3)), .int 0, .int 0, .int 0]), .inl (0, 4, .inl (fun _ => 0)), .inl (0, 4, .inl (fun _ => 0)), .inr (7, [.ref (b + (cs.length + 5)), .ref (b + (cs.length + 6)), .int 0, .int 0, .int 0]), .inl (0, 4, .inl (fun _ => 0)), .inl (0, 4, .inl (fun _ => 0)), .inr (7, [.ref (b + (cs.length + 8)), .ref (b + (cs.length + 9)), .int 0, .int 0, .int 0]), .inl (0, 4, .inl (fun _ => 0)), .inl (0, 4, .inl (fun _ => 0)), .inr (7, [.ref (b + (cs.length + 11)), .ref (b + (cs.length + 12)), .int 0, .int 0, .int 0]), .inl (0, 4, .inl (fun _ => 0)), .inl (0, 4, .inl (fun _ => 0))] := hN
          refine aj.iinc (v := 4) (lv' := [(1, .int 4), (0, .ref (b + i))]) dX1_init_47 rfl (Nat.le_of_ble_eq_true rfl) (by decide) rfl ?_
          refine aj.goto (tgt := 25) dX1_init_50 rfl ?_
          refine aj.iload_n dX1_init_25 rfl ?_
          refine aj.aload_n dX1_init_26 rfl ?_
          refine aj.get (i := 0) (cq := (RX1, TX1, 3)) dX1_init_27 hN.2.2.2.1 rfl (Nat.le_of_ble_eq_true rfl) w292 rfl ?_
          refine aj.alen (v := 10) dX1_init_30 (hN.2.2.2.2.2 0 (Nat.le_of_ble_eq_true rfl)) (by decide) rfl ?_
          refine aj.icmp_geN (a := 4) (b := 10) (tgt := 53) dX1_init_31 rfl rfl (by omega) (by omega) rfl (fun c31 => ?_) (fun c31 => ?_)
          · exact absurd c31 (by decide)
          · refine aj.aload_n dX1_init_34 rfl ?_
            refine aj.get (i := 0) (cq := (RX1, TX1, 3)) dX1_init_35 hN.2.2.2.1 rfl (Nat.le_of_ble_eq_true rfl) w292 rfl ?_
            refine aj.iload_n dX1_init_38 rfl ?_
            obtain ⟨M1, hM1⟩ : ∃ z, z = M := ⟨_, rfl⟩
            have hM12 : M1.2 = b + (cs.length + 13) := by rw [hM1]; exact hN.2.1
            refine aj.new (ci := 7) (cq := (RX7, TX7, 5)) (fs := [.null, .null, .int 0, .int 0, .int 0]) dX1_init_39 rfl w289 w259 w124 (by decide) ?_
            rw [← hM1] at hN ⊢
            refine aj.dup dX1_init_42 rfl ?_
            refine aj.callIN (d' := 1) (kc := 2) (ks := 8) (As := []) (rest := [.ref M1.2, .int 4, .ref (b + (cs.length + 0))]) dX1_init_43 v_X1_24 rfl w261 rfl rfl rfl (Nat.le_of_ble_eq_true rfl) (Nat.le_of_ble_eq_true rfl) (k_initX7 (b := M1.2) (i := 0) (nB_start (M0 := M1) (M := M1) rfl)) (fun r M hM => ?_)
            obtain ⟨rfl, hN2⟩ := hM
            have hN := hN.app hN2
            rw [hM12] at hN
            have hN : nB b M0 M i cs (.inr (1, [.ref (b + (cs.length + 0)), .int 0, .int 0])) [.inl (4, 10, .inr (.inr (.inr (.inr (va_up (va_up (va_up (va_up (fun _ => none) 0 (some (b + (cs.length + 1)))) 1 (some (b + (cs.length + 4)))) 2 (some (b + (cs.length + 7)))) 3 (some (b + (cs.length + 10)))))))), .inr (7, [.ref (b + (cs.length + 2)), .ref (b + (cs.length + 3)), .int 0, .int 0, .int 0]), .inl (0, 4, .inl (fun _ => 0)), .inl (0, 4, .inl (fun _ => 0)), .inr (7, [.ref (b + (cs.length + 5)), .ref (b + (cs.length + 6)), .int 0, .int 0, .int 0]), .inl (0, 4, .inl (fun _ => 0)), .inl (0, 4, .inl (fun _ => 0)), .inr (7, [.ref (b + (cs.length + 8)), .ref (b + (cs.length + 9)), .int 0, .int 0, .int 0]), .inl (0, 4, .inl (fun _ => 0)), .inl (0, 4, .inl (fun _ => 0)), .inr (7, [.ref (b + (cs.length + 11)), .ref (b + (cs.length + 12)), .int 0, .int 0, .int 0]), .inl (0, 4, .inl (fun _ => 0)), .inl (0, 4, .inl (fun _ => 0)), .inr (7, [.ref (b + (cs.length + 14)), .ref (b + (cs.length + 15)), .int 0, .int 0, .int 0]), .inl (0, 4, .inl (fun _ => 0)), .inl (0, 4, .inl (fun _ => 0))] := hN
            rw [hM12]
            refine nB.aast4 (kk := 0) (j := 4) (kv := 13) hN dX1_init_46 rfl rfl (by decide) rfl (Nat.le_of_ble_eq_true rfl) (fun M hN => ?_)
            have hN : nB b M0 M i cs (.inr (1, [.ref (b + (cs.length + 0)), .int 0, .int 0])) [.inl (4, 10, .inr (.inr (.inr (.inr (va_up (va_up (va_up (va_up (va_up (fun _ => none) 0 (some (b + (cs.length + 1)))) 1 (some (b + (cs.length + 4)))) 2 (some (b + (cs.length + 7)))) 3 (some (b + (cs.length + 10)))) 4 (some (b + (cs.length + 13)))))))), .inr (7, [.ref (b + (cs.length + 2)), .ref (b + (cs.length + 3)), .int 0, .int 0, .int 0]), .inl (0, 4, .inl (fun _ => 0)), .inl (0, 4, .inl (fun _ => 0)), .inr (7, [.ref (b + (cs.length + 5)), .ref (b + (cs.length + 6)), .int 0, .int 0, .int 0]), .inl (0, 4, .inl (fun _ => 0)), .inl (0, 4, .inl (fun _ => 0)), .inr (7, [.ref (b + (cs.length + 8)), .ref (b + (cs.length + 9)), .int 0, .int 0, .int 0]), .inl (0, 4, .inl (fun _ => 0)), .inl (0, 4, .inl (fun _ => 0)), .inr (7, [.ref (b + (cs.length + 11)), .ref (b + (cs.length + 12)), .int 0, .int 0, .int 0]), .inl (0, 4, .inl (fun _ => 0)), .inl (0, 4, .inl (fun _ => 0)), .inr (7, [.ref (b + (cs.length + 14)), .ref (b + (cs.length + 15)), .int 0, .int 0, .int 0]), .inl (0, 4, .inl (fun _ => 0)), .inl (0, 4, .inl (fun _ => 0))] := hN
            refine aj.iinc (v := 5) (lv' := [(1, .int 5), (0, .ref (b + i))]) dX1_init_47 rfl (Nat.le_of_ble_eq_true rfl) (by decide) rfl ?_
            refine aj.goto (tgt := 25) dX1_init_50 rfl ?_
            refine aj.iload_n dX1_init_25 rfl ?_
            refine aj.aload_n dX1_init_26 rfl ?_
            refine aj.get (i := 0) (cq := (RX1, TX1, 3)) dX1_init_27 hN.2.2.2.1 rfl (Nat.le_of_ble_eq_true rfl) w292 rfl ?_
            refine aj.alen (v := 10) dX1_init_30 (hN.2.2.2.2.2 0 (Nat.le_of_ble_eq_true rfl)) (by decide) rfl ?_
            refine aj.icmp_geN (a := 5) (b := 10) (tgt := 53) dX1_init_31 rfl rfl (by omega) (by omega) rfl (fun c31 => ?_) (fun c31 => ?_)
            · exact absurd c31 (by decide)
            · refine aj.aload_n dX1_init_34 rfl ?_
              refine aj.get (i := 0) (cq := (RX1, TX1, 3)) dX1_init_35 hN.2.2.2.1 rfl (Nat.le_of_ble_eq_true rfl) w292 rfl ?_
              refine aj.iload_n dX1_init_38 rfl ?_
              obtain ⟨M1, hM1⟩ : ∃ z, z = M := ⟨_, rfl⟩
              have hM12 : M1.2 = b + (cs.length + 16) := by rw [hM1]; exact hN.2.1
              refine aj.new (ci := 7) (cq := (RX7, TX7, 5)) (fs := [.null, .null, .int 0, .int 0, .int 0]) dX1_init_39 rfl w289 w259 w124 (by decide) ?_
              rw [← hM1] at hN ⊢
              refine aj.dup dX1_init_42 rfl ?_
              refine aj.callIN (d' := 1) (kc := 2) (ks := 8) (As := []) (rest := [.ref M1.2, .int 5, .ref (b + (cs.length + 0))]) dX1_init_43 v_X1_24 rfl w261 rfl rfl rfl (Nat.le_of_ble_eq_true rfl) (Nat.le_of_ble_eq_true rfl) (k_initX7 (b := M1.2) (i := 0) (nB_start (M0 := M1) (M := M1) rfl)) (fun r M hM => ?_)
              obtain ⟨rfl, hN2⟩ := hM
              have hN := hN.app hN2
              rw [hM12] at hN
              have hN : nB b M0 M i cs (.inr (1, [.ref (b + (cs.length + 0)), .int 0, .int 0])) [.inl (4, 10, .inr (.inr (.inr (.inr (va_up (va_up (va_up (va_up (va_up (fun _ => none) 0 (some (b + (cs.length + 1)))) 1 (some (b + (cs.length + 4)))) 2 (some (b + (cs.length + 7)))) 3 (some (b + (cs.length + 10)))) 4 (some (b + (cs.length + 13)))))))), .inr (7, [.ref (b + (cs.length + 2)), .ref (b + (cs.length + 3)), .int 0, .int 0, .int 0]), .inl (0, 4, .inl (fun _ => 0)), .inl (0, 4, .inl (fun _ => 0)), .inr (7, [.ref (b + (cs.length + 5)), .ref (b + (cs.length + 6)), .int 0, .int 0, .int 0]), .inl (0, 4, .inl (fun _ => 0)), .inl (0, 4, .inl (fun _ => 0)), .inr (7, [.ref (b + (cs.length + 8)), .ref (b + (cs.length + 9)), .int 0, .int 0, .int 0]), .inl (0, 4, .inl (fun _ => 0)), .inl (0, 4, .inl (fun _ => 0)), .inr (7, [.ref (b + (cs.length + 11)), .ref (b + (cs.length + 12)), .int 0, .int 0, .int 0]), .inl (0, 4, .inl (fun _ => 0)), .inl (0, 4, .inl (fun _ => 0)), .inr (7, [.ref (b + (cs.length + 14)), .ref (b + (cs.length + 15)), .int 0, .int 0, .int 0]), .inl (0, 4, .inl (fun _ => 0)), .inl (0, 4, .inl (fun _ => 0)), .inr (7, [.ref (b + (cs.length + 17)), .ref (b + (cs.length + 18)), .int 0, .int 0, .int 0]), .inl (0, 4, .inl (fun _ => 0)), .inl (0, 4, .inl (fun _ => 0))] := hN
              rw [hM12]
              refine nB.aast4 (kk := 0) (j := 5) (kv := 16) hN dX1_init_46 rfl rfl (by decide) rfl (Nat.le_of_ble_eq_true rfl) (fun M hN => ?_)
              have hN : nB b M0 M i cs (.inr (1, [.ref (b + (cs.length + 0)), .int 0, .int 0])) [.inl (4, 10, .inr (.inr (.inr (.inr (va_up (va_up (va_up (va_up (va_up (va_up (fun _ => none) 0 (some (b + (cs.length + 1)))) 1 (some (b + (cs.length + 4)))) 2 (some (b + (cs.length + 7)))) 3 (some (b + (cs.length + 10)))) 4 (some (b + (cs.length + 13)))) 5 (some (b + (cs.length + 16)))))))), .inr (7, [.ref (b + (cs.length + 2)), .ref (b + (cs.length + 3)), .int 0, .int 0, .int 0]), .inl (0, 4, .inl (fun _ => 0)), .inl (0, 4, .inl (fun _ => 0)), .inr (7, [.ref (b + (cs.length + 5)), .ref (b + (cs.length + 6)), .int 0, .int 0, .int 0]), .inl (0, 4, .inl (fun _ => 0)), .inl (0, 4, .inl (fun _ => 0)), .inr (7, [.ref (b + (cs.length + 8)), .ref (b + (cs.length + 9)), .int 0, .int 0, .int 0]), .inl (0, 4, .inl (fun _ => 0)), .inl (0, 4, .inl (fun _ => 0)), .inr (7, [.ref (b + (cs.length + 11)), .ref (b + (cs.length + 12)), .int 0, .int 0, .int 0]), .inl (0, 4, .inl (fun _ => 0)), .inl (0, 4, .inl (fun _ => 0)), .inr (7, [.ref (b + (cs.length + 14)), .ref (b + (cs.length + 15)), .int 0, .int 0, .int 0]), .inl (0, 4, .inl (fun _ => 0)), .inl (0, 4, .inl (fun _ => 0)), .inr (7, [.ref (b + (cs.length + 17)), .ref (b + (cs.length + 18)), .int 0, .int 0, .int 0]), .inl (0, 4, .inl (fun _ => 0)), .inl (0, 4, .inl (fun _ => 0))] := hN
              refine aj.iinc (v := 6) (lv' := [(1, .int 6), (0, .ref (b + i))]) dX1_init_47 rfl (Nat.le_of_ble_eq_true rfl) (by decide) rfl ?_
              refine aj.goto (tgt := 25) dX1_init_50 rfl ?_
              refine aj.iload_n dX1_init_25 rfl ?_
              refine aj.aload_n dX1_init_26 rfl ?_
              refine aj.get (i := 0) (cq := (RX1, TX1, 3)) dX1_init_27 hN.2.2.2.1 rfl (Nat.le_of_ble_eq_true rfl) w292 rfl ?_
              refine aj.alen (v := 10) dX1_init_30 (hN.2.2.2.2.2 0 (Nat.le_of_ble_eq_true rfl)) (by decide) rfl ?_
              refine aj.icmp_geN (a := 6) (b := 10) (tgt := 53) dX1_init_31 rfl rfl (by omega) (by omega) rfl (fun c31 => ?_) (fun c31 => ?_)
              · exact absurd c31 (by decide)
              · refine aj.aload_n dX1_init_34 rfl ?_
                refine aj.get (i := 0) (cq := (RX1, TX1, 3)) dX1_init_35 hN.2.2.2.1 rfl (Nat.le_of_ble_eq_true rfl) w292 rfl ?_
                refine aj.iload_n dX1_init_38 rfl ?_
                obtain ⟨M1, hM1⟩ : ∃ z, z = M := ⟨_, rfl⟩
                have hM12 : M1.2 = b + (cs.length + 19) := by rw [hM1]; exact hN.2.1
                refine aj.new (ci := 7) (cq := (RX7, TX7, 5)) (fs := [.null, .null, .int 0, .int 0, .int 0]) dX1_init_39 rfl w289 w259 w124 (by decide) ?_
                rw [← hM1] at hN ⊢
                refine aj.dup dX1_init_42 rfl ?_
                refine aj.callIN (d' := 1) (kc := 2) (ks := 8) (As := []) (rest := [.ref M1.2, .int 6, .ref (b + (cs.length + 0))]) dX1_init_43 v_X1_24 rfl w261 rfl rfl rfl (Nat.le_of_ble_eq_true rfl) (Nat.le_of_ble_eq_true rfl) (k_initX7 (b := M1.2) (i := 0) (nB_start (M0 := M1) (M := M1) rfl)) (fun r M hM => ?_)
                obtain ⟨rfl, hN2⟩ := hM
                have hN := hN.app hN2
                rw [hM12] at hN
                have hN : nB b M0 M i cs (.inr (1, [.ref (b + (cs.length + 0)), .int 0, .int 0])) [.inl (4, 10, .inr (.inr (.inr (.inr (va_up (va_up (va_up (va_up (va_up (va_up (fun _ => none) 0 (some (b + (cs.length + 1)))) 1 (some (b + (cs.length + 4)))) 2 (some (b + (cs.length + 7)))) 3 (some (b + (cs.length + 10)))) 4 (some (b + (cs.length + 13)))) 5 (some (b + (cs.length + 16)))))))), .inr (7, [.ref (b + (cs.length + 2)), .ref (b + (cs.length + 3)), .int 0, .int 0, .int 0]), .inl (0, 4, .inl (fun _ => 0)), .inl (0, 4, .inl (fun _ => 0)), .inr (7, [.ref (b + (cs.length + 5)), .ref (b + (cs.length + 6)), .int 0, .int 0, .int 0]), .inl (0, 4, .inl (fun _ => 0)), .inl (0, 4, .inl (fun _ => 0)), .inr (7, [.ref (b + (cs.length + 8)), .ref (b + (cs.length + 9)), .int 0, .int 0, .int 0]), .inl (0, 4, .inl (fun _ => 0)), .inl (0, 4, .inl (fun _ => 0)), .inr (7, [.ref (b + (cs.length + 11)), .ref (b + (cs.length + 12)), .int 0, .int 0, .int 0]), .inl (0, 4, .inl (fun _ => 0)), .inl (0, 4, .inl (fun _ => 0)), .inr (7, [.ref (b + (cs.length + 14)), .ref (b + (cs.length + 15)), .int 0, .int 0, .int 0]), .inl (0, 4, .inl (fun _ => 0)), .inl (0, 4, .inl (fun _ => 0)), .inr (7, [.ref (b + (cs.length + 17)), .ref (b + (cs.length + 18)), .int 0, .int 0, .int 0]), .inl (0, 4, .inl (fun _ => 0)), .inl (0, 4, .inl (fun _ => 0)), .inr (7, [.ref (b + (cs.length + 20)), .ref (b + (cs.length + 21)), .int 0, .int 0, .int 0]), .inl (0, 4, .inl (fun _ => 0)), .inl (0, 4, .inl (fun _ => 0))] := hN
                rw [hM12]
                refine nB.aast4 (kk := 0) (j := 6) (kv := 19) hN dX1_init_46 rfl rfl (by decide) rfl (Nat.le_of_ble_eq_true rfl) (fun M hN => ?_)
                have hN : nB b M0 M i cs (.inr (1, [.ref (b + (cs.length + 0)), .int 0, .int 0])) [.inl (4, 10, .inr (.inr (.inr (.inr (va_up (va_up (va_up (va_up (va_up (va_up (va_up (fun _ => none) 0 (some (b + (cs.length + 1)))) 1 (some (b + (cs.length + 4)))) 2 (some (b + (cs.length + 7)))) 3 (some (b + (cs.length + 10)))) 4 (some (b + (cs.length + 13)))) 5 (some (b + (cs.length + 16)))) 6 (some (b + (cs.length + 19)))))))), .inr (7, [.ref (b + (cs.length + 2)), .ref (b + (cs.length + 3)), .int 0, .int 0, .int 0]), .inl (0, 4, .inl (fun _ => 0)), .inl (0, 4, .inl (fun _ => 0)), .inr (7, [.ref (b + (cs.length + 5)), .ref (b + (cs.length + 6)), .int 0, .int 0, .int 0]), .inl (0, 4, .inl (fun _ => 0)), .inl (0, 4, .inl (fun _ => 0)), .inr (7, [.ref (b + (cs.length + 8)), .ref (b + (cs.length + 9)), .int 0, .int 0, .int 0]), .inl (0, 4, .inl (fun _ => 0)), .inl (0, 4, .inl (fun _ => 0)), .inr (7, [.ref (b + (cs.length + 11)), .ref (b + (cs.length + 12)), .int 0, .int 0, .int 0]), .inl (0, 4, .inl (fun _ => 0)), .inl (0, 4, .inl (fun _ => 0)), .inr (7, [.ref (b + (cs.length + 14)), .ref (b + (cs.length + 15)), .int 0, .int 0, .int 0]), .inl (0, 4, .inl (fun _ => 0)), .inl (0, 4, .inl (fun _ => 0)), .inr (7, [.ref (b + (cs.length + 17)), .ref (b + (cs.length + 18)), .int 0, .int 0, .int 0]), .inl (0, 4, .inl (fun _ => 0)), .inl (0, 4, .inl (fun _ => 0)), .inr (7, [.ref (b + (cs.length + 20)), .ref (b + (cs.length + 21)), .int 0, .int 0, .int 0]), .inl (0, 4, .inl (fun _ => 0)), .inl (0, 4, .inl (fun _ => 0))] := hN
                refine aj.iinc (v := 7) (lv' := [(1, .int 7), (0, .ref (b + i))]) dX1_init_47 rfl (Nat.le_of_ble_eq_true rfl) (by decide) rfl ?_
                refine aj.goto (tgt := 25) dX1_init_50 rfl ?_
                refine aj.iload_n dX1_init_25 rfl ?_
                refine aj.aload_n dX1_init_26 rfl ?_
                refine aj.get (i := 0) (cq := (RX1, TX1, 3)) dX1_init_27 hN.2.2.2.1 rfl (Nat.le_of_ble_eq_true rfl) w292 rfl ?_
                refine aj.alen (v := 10) dX1_init_30 (hN.2.2.2.2.2 0 (Nat.le_of_ble_eq_true rfl)) (by decide) rfl ?_
                refine aj.icmp_geN (a := 7) (b := 10) (tgt := 53) dX1_init_31 rfl rfl (by omega) (by omega) rfl (fun c31 => ?_) (fun c31 => ?_)
                · exact absurd c31 (by decide)
                · refine aj.aload_n dX1_init_34 rfl ?_
                  refine aj.get (i := 0) (cq := (RX1, TX1, 3)) dX1_init_35 hN.2.2.2.1 rfl (Nat.le_of_ble_eq_true rfl) w292 rfl ?_
                  refine aj.iload_n dX1_init_38 rfl ?_
                  obtain ⟨M1, hM1⟩ : ∃ z, z = M := ⟨_, rfl⟩
                  have hM12 : M1.2 = b + (cs.length + 22) := by rw [hM1]; exact hN.2.1
                  refine aj.new (ci := 7) (cq := (RX7, TX7, 5)) (fs := [.null, .null, .int 0, .int 0, .int 0]) dX1_init_39 rfl w289 w259 w124 (by decide) ?_
                  rw [← hM1] at hN ⊢
                  refine aj.dup dX1_init_42 rfl ?_
                  refine aj.callIN (d' := 1) (kc := 2) (ks := 8) (As := []) (rest := [.ref M1.2, .int 7, .ref (b + (cs.length + 0))]) dX1_init_43 v_X1_24 rfl w261 rfl rfl rfl (Nat.le_of_ble_eq_true rfl) (Nat.le_of_ble_eq_true rfl) (k_initX7 (b := M1.2) (i := 0) (nB_start (M0 := M1) (M := M1) rfl)) (fun r M hM => ?_)
                  obtain ⟨rfl, hN2⟩ := hM
                  have hN := hN.app hN2
                  rw [hM12] at hN
                  have hN : nB b M0 M i cs (.inr (1, [.ref (b + (cs.length + 0)), .int 0, .int 0])) [.inl (4, 10, .inr (.inr (.inr (.inr (va_up (va_up (va_up (va_up (va_up (va_up (va_up (fun _ => none) 0 (some (b + (cs.length + 1)))) 1 (some (b + (cs.length + 4)))) 2 (some (b + (cs.length + 7)))) 3 (some (b + (cs.length + 10)))) 4 (some (b + (cs.length + 13)))) 5 (some (b + (cs.length + 16)))) 6 (some (b + (cs.length + 19)))))))), .inr (7, [.ref (b + (cs.length + 2)), .ref (b + (cs.length + 3)), .int 0, .int 0, .int 0]), .inl (0, 4, .inl (fun _ => 0)), .inl (0, 4, .inl (fun _ => 0)), .inr (7, [.ref (b + (cs.length + 5)), .ref (b + (cs.length + 6)), .int 0, .int 0, .int 0]), .inl (0, 4, .inl (fun _ => 0)), .inl (0, 4, .inl (fun _ => 0)), .inr (7, [.ref (b + (cs.length + 8)), .ref (b + (cs.length + 9)), .int 0, .int 0, .int 0]), .inl (0, 4, .inl (fun _ => 0)), .inl (0, 4, .inl (fun _ => 0)), .inr (7, [.ref (b + (cs.length + 11)), .ref (b + (cs.length + 12)), .int 0, .int 0, .int 0]), .inl (0, 4, .inl (fun _ => 0)), .inl (0, 4, .inl (fun _ => 0)), .inr (7, [.ref (b + (cs.length + 14)), .ref (b + (cs.length + 15)), .int 0, .int 0, .int 0]), .inl (0, 4, .inl (fun _ => 0)), .inl (0, 4, .inl (fun _ => 0)), .inr (7, [.ref (b + (cs.length + 17)), .ref (b + (cs.length + 18)), .int 0, .int 0, .int 0]), .inl (0, 4, .inl (fun _ => 0)), .inl (0, 4, .inl (fun _ => 0)), .inr (7, [.ref (b + (cs.length + 20)), .ref (b + (cs.length + 21)), .int 0, .int 0, .int 0]), .inl (0, 4, .inl (fun _ => 0)), .inl (0, 4, .inl (fun _ => 0)), .inr (7, [.ref (b + (cs.length + 23)), .ref (b + (cs.length + 24)), .int 0, .int 0, .int 0]), .inl (0, 4, .inl (fun _ => 0)), .inl (0, 4, .inl (fun _ => 0))] := hN
                  rw [hM12]
                  refine nB.aast4 (kk := 0) (j := 7) (kv := 22) hN dX1_init_46 rfl rfl (by decide) rfl (Nat.le_of_ble_eq_true rfl) (fun M hN => ?_)
                  have hN : nB b M0 M i cs (.inr (1, [.ref (b + (cs.length + 0)), .int 0, .int 0])) [.inl (4, 10, .inr (.inr (.inr (.inr (va_up (va_up (va_up (va_up (va_up (va_up (va_up (va_up (fun _ => none) 0 (some (b + (cs.length + 1)))) 1 (some (b + (cs.length + 4)))) 2 (some (b + (cs.length + 7)))) 3 (some (b + (cs.length + 10)))) 4 (some (b + (cs.length + 13)))) 5 (some (b + (cs.length + 16)))) 6 (some (b + (cs.length + 19)))) 7 (some (b + (cs.length + 22)))))))), .inr (7, [.ref (b + (cs.length + 2)), .ref (b + (cs.length + 3)), .int 0, .int 0, .int 0]), .inl (0, 4, .inl (fun _ => 0)), .inl (0, 4, .inl (fun _ => 0)), .inr (7, [.ref (b + (cs.length + 5)), .ref (b + (cs.length + 6)), .int 0, .int 0, .int 0]), .inl (0, 4, .inl (fun _ => 0)), .inl (0, 4, .inl (fun _ => 0)), .inr (7, [.ref (b + (cs.length + 8)), .ref (b + (cs.length + 9)), .int 0, .int 0, .int 0]), .inl (0, 4, .inl (fun _ => 0)), .inl (0, 4, .inl (fun _ => 0)), .inr (7, [.ref (b + (cs.length + 11)), .ref (b + (cs.length + 12)), .int 0, .int 0, .int 0]), .inl (0, 4, .inl (fun _ => 0)), .inl (0, 4, .inl (fun _ => 0)), .inr (7, [.ref (b + (cs.length + 14)), .ref (b + (cs.length + 15)), .int 0, .int 0, .int 0]), .inl (0, 4, .inl (fun _ => 0)), .inl (0, 4, .inl (fun _ => 0)), .inr (7, [.ref (b + (cs.length + 17)), .ref (b + (cs.length + 18)), .int 0, .int 0, .int 0]), .inl (0, 4, .inl (fun _ => 0)), .inl (0, 4, .inl (fun _ => 0)), .inr (7, [.ref (b + (cs.length + 20)), .ref (b + (cs.length + 21)), .int 0, .int 0, .int 0]), .inl (0, 4, .inl (fun _ => 0)), .inl (0, 4, .inl (fun _ => 0)), .inr (7, [.ref (b + (cs.length + 23)), .ref (b + (cs.length + 24)), .int 0, .int 0, .int 0]), .inl (0, 4, .inl (fun _ => 0)), .inl (0, 4, .inl (fun _ => 0))] := hN
                  refine aj.iinc (v := 8) (lv' := [(1, .int 8), (0, .ref (b + i))]) dX1_init_47 rfl (Nat.le_of_ble_eq_true rfl) (by decide) rfl ?_
                  refine aj.goto (tgt := 25) dX1_init_50 rfl ?_
                  refine aj.iload_n dX1_init_25 rfl ?_
                  refine aj.aload_n dX1_init_26 rfl ?_
                  refine aj.get (i := 0) (cq := (RX1, TX1, 3)) dX1_init_27 hN.2.2.2.1 rfl (Nat.le_of_ble_eq_true rfl) w292 rfl ?_
                  refine aj.alen (v := 10) dX1_init_30 (hN.2.2.2.2.2 0 (Nat.le_of_ble_eq_true rfl)) (by decide) rfl ?_
                  refine aj.icmp_geN (a := 8) (b := 10) (tgt := 53) dX1_init_31 rfl rfl (by omega) (by omega) rfl (fun c31 => ?_) (fun c31 => ?_)
                  · exact absurd c31 (by decide)
                  · refine aj.aload_n dX1_init_34 rfl ?_
                    refine aj.get (i := 0) (cq := (RX1, TX1, 3)) dX1_init_35 hN.2.2.2.1 rfl (Nat.le_of_ble_eq_true rfl) w292 rfl ?_
                    refine aj.iload_n dX1_init_38 rfl ?_
                    obtain ⟨M1, hM1⟩ : ∃ z, z = M := ⟨_, rfl⟩
                    have hM12 : M1.2 = b + (cs.length + 25) := by rw [hM1]; exact hN.2.1
                    refine aj.new (ci := 7) (cq := (RX7, TX7, 5)) (fs := [.null, .null, .int 0, .int 0, .int 0]) dX1_init_39 rfl w289 w259 w124 (by decide) ?_
                    rw [← hM1] at hN ⊢
                    refine aj.dup dX1_init_42 rfl ?_
                    refine aj.callIN (d' := 1) (kc := 2) (ks := 8) (As := []) (rest := [.ref M1.2, .int 8, .ref (b + (cs.length + 0))]) dX1_init_43 v_X1_24 rfl w261 rfl rfl rfl (Nat.le_of_ble_eq_true rfl) (Nat.le_of_ble_eq_true rfl) (k_initX7 (b := M1.2) (i := 0) (nB_start (M0 := M1) (M := M1) rfl)) (fun r M hM => ?_)
                    obtain ⟨rfl, hN2⟩ := hM
                    have hN := hN.app hN2
                    rw [hM12] at hN
                    have hN : nB b M0 M i cs (.inr (1, [.ref (b + (cs.length + 0)), .int 0, .int 0])) [.inl (4, 10, .inr (.inr (.inr (.inr (va_up (va_up (va_up (va_up (va_up (va_up (va_up (va_up (fun _ => none) 0 (some (b + (cs.length + 1)))) 1 (some (b + (cs.length + 4)))) 2 (some (b + (cs.length + 7)))) 3 (some (b + (cs.length + 10)))) 4 (some (b + (cs.length + 13)))) 5 (some (b + (cs.length + 16)))) 6 (some (b + (cs.length + 19)))) 7 (some (b + (cs.length + 22)))))))), .inr (7, [.ref (b + (cs.length + 2)), .ref (b + (cs.length + 3)), .int 0, .int 0, .int 0]), .inl (0, 4, .inl (fun _ => 0)), .inl (0, 4, .inl (fun _ => 0)), .inr (7, [.ref (b + (cs.length + 5)), .ref (b + (cs.length + 6)), .int 0, .int 0, .int 0]), .inl (0, 4, .inl (fun _ => 0)), .inl (0, 4, .inl (fun _ => 0)), .inr (7, [.ref (b + (cs.length + 8)), .ref (b + (cs.length + 9)), .int 0, .int 0, .int 0]), .inl (0, 4, .inl (fun _ => 0)), .inl (0, 4, .inl (fun _ => 0)), .inr (7, [.ref (b + (cs.length + 11)), .ref (b + (cs.length + 12)), .int 0, .int 0, .int 0]), .inl (0, 4, .inl (fun _ => 0)), .inl (0, 4, .inl (fun _ => 0)), .inr (7, [.ref (b + (cs.length + 14)), .ref (b + (cs.length + 15)), .int 0, .int 0, .int 0]), .inl (0, 4, .inl (fun _ => 0)), .inl (0, 4, .inl (fun _ => 0)), .inr (7, [.ref (b + (cs.length + 17)), .ref (b + (cs.length + 18)), .int 0, .int 0, .int 0]), .inl (0, 4, .inl (fun _ => 0)), .inl (0, 4, .inl (fun _ => 0)), .inr (7, [.ref (b + (cs.length + 20)), .ref (b + (cs.length + 21)), .int 0, .int 0, .int 0]), .inl (0, 4, .inl (fun _ => 0)), .inl (0, 4, .inl (fun _ => 0)), .inr (7, [.ref (b + (cs.length + 23)), .ref (b + (cs.length + 24)), .int 0, .int 0, .int 0]), .inl (0, 4, .inl (fun _ => 0)), .inl (0, 4, .inl (fun _ => 0)), .inr (7, [.ref (b + (cs.length + 26)), .ref (b + (cs.length + 27)), .int 0, .int 0, .int 0]), .inl (0, 4, .inl (fun _ => 0)), .inl (0, 4, .inl (fun _ => 0))] := hN
                    rw [hM12]
                    refine nB.aast4 (kk := 0) (j := 8) (kv := 25) hN dX1_init_46 rfl rfl (by decide) rfl (Nat.le_of_ble_eq_true rfl) (fun M hN => ?_)
                    have hN : nB b M0 M i cs (.inr (1, [.ref (b + (cs.length + 0)), .int 0, .int 0])) [.inl (4, 10, .inr (.inr (.inr (.inr (va_up (va_up (va_up (va_up (va_up (va_up (va_up (va_up (va_up (fun _ => none) 0 (some (b + (cs.length + 1)))) 1 (some (b + (cs.length + 4)))) 2 (some (b + (cs.length + 7)))) 3 (some (b + (cs.length + 10)))) 4 (some (b + (cs.length + 13)))) 5 (some (b + (cs.length + 16)))) 6 (some (b + (cs.length + 19)))) 7 (some (b + (cs.length + 22)))) 8 (some (b + (cs.length + 25)))))))), .inr (7, [.ref (b + (cs.length + 2)), .ref (b + (cs.length + 3)), .int 0, .int 0, .int 0]), .inl (0, 4, .inl (fun _ => 0)), .inl (0, 4, .inl (fun _ => 0)), .inr (7, [.ref (b + (cs.length + 5)), .ref (b + (cs.length + 6)), .int 0, .int 0, .int 0]), .inl (0, 4, .inl (fun _ => 0)), .inl (0, 4, .inl (fun _ => 0)), .inr (7, [.ref (b + (cs.length + 8)), .ref (b + (cs.length + 9)), .int 0, .int 0, .int 0]), .inl (0, 4, .inl (fun _ => 0)), .inl (0, 4, .inl (fun _ => 0)), .inr (7, [.ref (b + (cs.length + 11)), .ref (b + (cs.length + 12)), .int 0, .int 0, .int 0]), .inl (0, 4, .inl (fun _ => 0)), .inl (0, 4, .inl (fun _ => 0)), .inr (7, [.ref (b + (cs.length + 14)), .ref (b + (cs.length + 15)), .int 0, .int 0, .int 0]), .inl (0, 4, .inl (fun _ => 0)), .inl (0, 4, .inl (fun _ => 0)), .inr (7, [.ref (b + (cs.length + 17)), .ref (b + (cs.length + 18)), .int 0, .int 0, .int 0]), .inl (0, 4, .inl (fun _ => 0)), .inl (0, 4, .inl (fun _ => 0)), .inr (7, [.ref (b + (cs.length + 20)), .ref (b + (cs.length + 21)), .int 0, .int 0, .int 0]), .inl (0, 4, .inl (fun _ => 0)), .inl (0, 4, .inl (fun _ => 0)), .inr (7, [.ref (b + (cs.length + 23)), .ref (b + (cs.length + 24)), .int 0, .int 0, .int 0]), .inl (0, 4, .inl (fun _ => 0)), .inl (0, 4, .inl (fun _ => 0)), .inr (7, [.ref (b + (cs.length + 26)), .ref (b + (cs.length + 27)), .int 0, .int 0, .int 0]), .inl (0, 4, .inl (fun _ => 0)), .inl (0, 4, .inl (fun _ => 0))] := hN
                    refine aj.iinc (v := 9) (lv' := [(1, .int 9), (0, .ref (b + i))]) dX1_init_47 rfl (Nat.le_of_ble_eq_true rfl) (by decide) rfl ?_
                    refine aj.goto (tgt := 25) dX1_init_50 rfl ?_
                    refine aj.iload_n dX1_init_25 rfl ?_
                    refine aj.aload_n dX1_init_26 rfl ?_
                    refine aj.get (i := 0) (cq := (RX1, TX1, 3)) dX1_init_27 hN.2.2.2.1 rfl (Nat.le_of_ble_eq_true rfl) w292 rfl ?_
                    refine aj.alen (v := 10) dX1_init_30 (hN.2.2.2.2.2 0 (Nat.le_of_ble_eq_true rfl)) (by decide) rfl ?_
                    refine aj.icmp_geN (a := 9) (b := 10) (tgt := 53) dX1_init_31 rfl rfl (by omega) (by omega) rfl (fun c31 => ?_) (fun c31 => ?_)
                    · exact absurd c31 (by decide)
                    · refine aj.aload_n dX1_init_34 rfl ?_
                      refine aj.get (i := 0) (cq := (RX1, TX1, 3)) dX1_init_35 hN.2.2.2.1 rfl (Nat.le_of_ble_eq_true rfl) w292 rfl ?_
                      refine aj.iload_n dX1_init_38 rfl ?_
                      obtain ⟨M1, hM1⟩ : ∃ z, z = M := ⟨_, rfl⟩
                      have hM12 : M1.2 = b + (cs.length + 28) := by rw [hM1]; exact hN.2.1
                      refine aj.new (ci := 7) (cq := (RX7, TX7, 5)) (fs := [.null, .null, .int 0, .int 0, .int 0]) dX1_init_39 rfl w289 w259 w124 (by decide) ?_
                      rw [← hM1] at hN ⊢
                      refine aj.dup dX1_init_42 rfl ?_
                      refine aj.callIN (d' := 1) (kc := 2) (ks := 8) (As := []) (rest := [.ref M1.2, .int 9, .ref (b + (cs.length + 0))]) dX1_init_43 v_X1_24 rfl w261 rfl rfl rfl (Nat.le_of_ble_eq_true rfl) (Nat.le_of_ble_eq_true rfl) (k_initX7 (b := M1.2) (i := 0) (nB_start (M0 := M1) (M := M1) rfl)) (fun r M hM => ?_)
                      obtain ⟨rfl, hN2⟩ := hM
                      have hN := hN.app hN2
                      rw [hM12] at hN
                      have hN : nB b M0 M i cs (.inr (1, [.ref (b + (cs.length + 0)), .int 0, .int 0])) [.inl (4, 10, .inr (.inr (.inr (.inr (va_up (va_up (va_up (va_up (va_up (va_up (va_up (va_up (va_up (fun _ => none) 0 (some (b + (cs.length + 1)))) 1 (some (b + (cs.length + 4)))) 2 (some (b + (cs.length + 7)))) 3 (some (b + (cs.length + 10)))) 4 (some (b + (cs.length + 13)))) 5 (some (b + (cs.length + 16)))) 6 (some (b + (cs.length + 19)))) 7 (some (b + (cs.length + 22)))) 8 (some (b + (cs.length + 25)))))))), .inr (7, [.ref (b + (cs.length + 2)), .ref (b + (cs.length + 3)), .int 0, .int 0, .int 0]), .inl (0, 4, .inl (fun _ => 0)), .inl (0, 4, .inl (fun _ => 0)), .inr (7, [.ref (b + (cs.length + 5)), .ref (b + (cs.length + 6)), .int 0, .int 0, .int 0]), .inl (0, 4, .inl (fun _ => 0)), .inl (0, 4, .inl (fun _ => 0)), .inr (7, [.ref (b + (cs.length + 8)), .ref (b + (cs.length + 9)), .int 0, .int 0, .int 0]), .inl (0, 4, .inl (fun _ => 0)), .inl (0, 4, .inl (fun _ => 0)), .inr (7, [.ref (b + (cs.length + 11)), .ref (b + (cs.length + 12)), .int 0, .int 0, .int 0]), .inl (0, 4, .inl (fun _ => 0)), .inl (0, 4, .inl (fun _ => 0)), .inr (7, [.ref (b + (cs.length + 14)), .ref (b + (cs.length + 15)), .int 0, .int 0, .int 0]), .inl (0, 4, .inl (fun _ => 0)), .inl (0, 4, .inl (fun _ => 0)), .inr (7, [.ref (b + (cs.length + 17)), .ref (b + (cs.length + 18)), .int 0, .int 0, .int 0]), .inl (0, 4, .inl (fun _ => 0)), .inl (0, 4, .inl (fun _ => 0)), .inr (7, [.ref (b + (cs.length + 20)), .ref (b + (cs.length + 21)), .int 0, .int 0, .int 0]), .inl (0, 4, .inl (fun _ => 0)), .inl (0, 4, .inl (fun _ => 0)), .inr (7, [.ref (b + (cs.length + 23)), .ref (b + (cs.length + 24)), .int 0, .int 0, .int 0]), .inl (0, 4, .inl (fun _ => 0)), .inl (0, 4, .inl (fun _ => 0)), .inr (7, [.ref (b + (cs.length + 26)), .ref (b + (cs.length + 27)), .int 0, .int 0, .int 0]), .inl (0, 4, .inl (fun _ => 0)), .inl (0, 4, .inl (fun _ => 0)), .inr (7, [.ref (b + (cs.length + 29)), .ref (b + (cs.length + 30)), .int 0, .int 0, .int 0]), .inl (0, 4, .inl (fun _ => 0)), .inl (0, 4, .inl (fun _ => 0))] := hN
                      rw [hM12]
                      refine nB.aast4 (kk := 0) (j := 9) (kv := 28) hN dX1_init_46 rfl rfl (by decide) rfl (Nat.le_of_ble_eq_true rfl) (fun M hN => ?_)
                      have hN : nB b M0 M i cs (.inr (1, [.ref (b + (cs.length + 0)), .int 0, .int 0])) [.inl (4, 10, .inr (.inr (.inr (.inr (va_up (va_up (va_up (va_up (va_up (va_up (va_up (va_up (va_up (va_up (fun _ => none) 0 (some (b + (cs.length + 1)))) 1 (some (b + (cs.length + 4)))) 2 (some (b + (cs.length + 7)))) 3 (some (b + (cs.length + 10)))) 4 (some (b + (cs.length + 13)))) 5 (some (b + (cs.length + 16)))) 6 (some (b + (cs.length + 19)))) 7 (some (b + (cs.length + 22)))) 8 (some (b + (cs.length + 25)))) 9 (some (b + (cs.length + 28)))))))), .inr (7, [.ref (b + (cs.length + 2)), .ref (b + (cs.length + 3)), .int 0, .int 0, .int 0]), .inl (0, 4, .inl (fun _ => 0)), .inl (0, 4, .inl (fun _ => 0)), .inr (7, [.ref (b + (cs.length + 5)), .ref (b + (cs.length + 6)), .int 0, .int 0, .int 0]), .inl (0, 4, .inl (fun _ => 0)), .inl (0, 4, .inl (fun _ => 0)), .inr (7, [.ref (b + (cs.length + 8)), .ref (b + (cs.length + 9)), .int 0, .int 0, .int 0]), .inl (0, 4, .inl (fun _ => 0)), .inl (0, 4, .inl (fun _ => 0)), .inr (7, [.ref (b + (cs.length + 11)), .ref (b + (cs.length + 12)), .int 0, .int 0, .int 0]), .inl (0, 4, .inl (fun _ => 0)), .inl (0, 4, .inl (fun _ => 0)), .inr (7, [.ref (b + (cs.length + 14)), .ref (b + (cs.length + 15)), .int 0, .int 0, .int 0]), .inl (0, 4, .inl (fun _ => 0)), .inl (0, 4, .inl (fun _ => 0)), .inr (7, [.ref (b + (cs.length + 17)), .ref (b + (cs.length + 18)), .int 0, .int 0, .int 0]), .inl (0, 4, .inl (fun _ => 0)), .inl (0, 4, .inl (fun _ => 0)), .inr (7, [.ref (b + (cs.length + 20)), .ref (b + (cs.length + 21)), .int 0, .int 0, .int 0]), .inl (0, 4, .inl (fun _ => 0)), .inl (0, 4, .inl (fun _ => 0)), .inr (7, [.ref (b + (cs.length + 23)), .ref (b + (cs.length + 24)), .int 0, .int 0, .int 0]), .inl (0, 4, .inl (fun _ => 0)), .inl (0, 4, .inl (fun _ => 0)), .inr (7, [.ref (b + (cs.length + 26)), .ref (b + (cs.length + 27)), .int 0, .int 0, .int 0]), .inl (0, 4, .inl (fun _ => 0)), .inl (0, 4, .inl (fun _ => 0)), .inr (7, [.ref (b + (cs.length + 29)), .ref (b + (cs.length + 30)), .int 0, .int 0, .int 0]), .inl (0, 4, .inl (fun _ => 0)), .inl (0, 4, .inl (fun _ => 0))] := hN
                      refine aj.iinc (v := 10) (lv' := [(1, .int 10), (0, .ref (b + i))]) dX1_init_47 rfl (Nat.le_of_ble_eq_true rfl) (by decide) rfl ?_
                      refine aj.goto (tgt := 25) dX1_init_50 rfl ?_
                      refine aj.iload_n dX1_init_25 rfl ?_
                      refine aj.aload_n dX1_init_26 rfl ?_
                      refine aj.get (i := 0) (cq := (RX1, TX1, 3)) dX1_init_27 hN.2.2.2.1 rfl (Nat.le_of_ble_eq_true rfl) w292 rfl ?_
                      refine aj.alen (v := 10) dX1_init_30 (hN.2.2.2.2.2 0 (Nat.le_of_ble_eq_true rfl)) (by decide) rfl ?_
                      refine aj.icmp_geN (a := 10) (b := 10) (tgt := 53) dX1_init_31 rfl rfl (by omega) (by omega) rfl (fun c31 => ?_) (fun c31 => ?_)
                      · exact aj.vret rfl dX1_init_53 ⟨rfl, hN⟩
                      · exact absurd c31 (by decide)
