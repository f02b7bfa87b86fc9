/-- fresh cells from b on: those of cs, one of them (the i-th) being built, and those that it brings -/
def nB (b : Nat) (M0 M : zM) (i : Nat) (cs : List zC) (c : zC) (xs : List zC) : Prop := i < cs.length ∧ M.2 = b + (cs.length + xs.length) ∧ (∀ x, x < b → M.1 x = M0.1 x) ∧ M.1 (b + i) = some c ∧ (∀ j, j < cs.length → j ≠ i → M.1 (b + j) = cs[j]?) ∧ ∀ j, j < xs.length → M.1 (b + (cs.length + j)) = xs[j]?
section N89d
variable {b i : Nat} {M0 M : zM} {cs xs : List zC} {c c' : zC}
theorem nB.new (h : nB b M0 M i cs c xs) : nB b M0 (z_nw M c') i cs c (xs ++ [c']) := by
  obtain ⟨h1, h2, h3, h4, h5, h6⟩ := h
  have hn : ∀ x, x < M.2 → (z_nw M c').1 x = M.1 x := fun x hx => if_neg (by omega)
  refine ⟨h1, ?_, fun x hx => (hn x (by omega)).trans (h3 x hx), (hn _ (by omega)).trans h4, fun j hj he => (hn _ (by omega)).trans (h5 j hj he), fun j hj => ?_⟩
  · show M.2 + 1 = _
    rw [List.length_append, List.length_singleton]
    omega
  · rw [List.length_append, List.length_singleton] at hj
    by_cases e : j = xs.length
    · rw [e, List.getElem?_concat_length, ← h2]
      exact if_pos rfl
    · rw [List.getElem?_append_left (by omega)]
      exact (hn _ (by omega)).trans (h6 j (by omega))
theorem nB.set (h : nB b M0 M i cs c xs) : nB b M0 (z_up M (b + i) c') i cs c' xs := by
  obtain ⟨h1, h2, h3, h4, h5, h6⟩ := h
  exact ⟨h1, h2, fun x hx => (z_up_n _ _ (by omega)).trans (h3 x hx), z_up_s _ _ _, fun j hj he => (z_up_n _ _ (by omega)).trans (h5 j hj he), fun j hj => (z_up_n _ _ (by omega)).trans (h6 j hj)⟩
end N89d
section R89d
variable {G : zG} {l : Launch} {k : zY} {d pc bc bs : Nat} {lv : List (Nat × Value)} {st : List Value} {Q : Option Value → zM → Prop}
variable {b i : Nat} {M0 M : zM} {cs xs : List zC} {c : zC}
theorem nB.newI {n : Int32} {N : Nat} (h : nB b M0 M i cs c xs) (hd : decode k.2.1 pc = .ok (.newarray .int, 2)) (hn : ¬ n < 0) (hN : n.toNatClampNeg = N) (hby : N * componentBytes (newarray.typeOf .int) ≤ 536870912) (hk : ∀ M : zM, nB b M0 M i cs c (xs ++ [.inl (0, N, .inl (fun _ => 0))]) → aj G l k d (pc + 2) lv (.ref (b + (cs.length + xs.length)) :: st) M bc bs Q) : aj G l k d pc lv (.int n :: st) M (bc + 1) (bs + N) Q := by
  refine aj.newa0 hd w169 hn hN hby ?_
  rw [h.2.1]
  exact hk _ h.new
theorem nB.put {idx f ci : Nat} {fs : List Value} {v : Value} {cq : vw_C} (h : nB b M0 M i cs (.inr (ci, fs)) xs) (hd : decode k.2.1 pc = .ok (.putfield idx, 3)) (hc : classes[ci]? = some cq) (hi : f < cq.2.2) (hl : Cond.fieldLink k.1.cls idx (cq.2.1 f).1 (cq.2.1 f).2.1 (cq.2.1 f).2.2.1 ∈ z_W) (hf : (cq.2.1 f).2.2.2 = false) (hn : narrow (z_fty ci f) v = v) (hfit : fits (z_fty ci f) v = true) (hlen : f < fs.length) (hk : ∀ M : zM, nB b M0 M i cs (.inr (ci, fs.set f v)) xs → aj G l k d (pc + 3) lv st M bc bs Q) : aj G l k d pc lv (v :: .ref (b + i) :: st) M bc bs Q := aj.put hd h.2.2.2.1 hc hi hl hf hn hfit hlen (hk _ h.set)
theorem nB.putF {idx f ci : Nat} {fs : List Value} {v : Value} {cq : vw_C} (h : nB b M0 M i cs (.inr (ci, fs)) xs) (hd : decode k.2.1 pc = .ok (.putfield idx, 3)) (hc : classes[ci]? = some cq) (hi : f < cq.2.2) (hl : Cond.fieldLink k.1.cls idx (cq.2.1 f).1 (cq.2.1 f).2.1 (cq.2.1 f).2.2.1 ∈ z_W) (hf : (cq.2.1 f).2.2.2 = true) (hin : k.1.name = "<init>") (hdc : (cq.2.1 f).1 = k.1.cls) (hn : narrow (z_fty ci f) v = v) (hfit : fits (z_fty ci f) v = true) (hlen : f < fs.length) (hk : ∀ M : zM, nB b M0 M i cs (.inr (ci, fs.set f v)) xs → aj G l k d (pc + 3) lv st M bc bs Q) : aj G l k d pc lv (v :: .ref (b + i) :: st) M bc bs Q := aj.putF hd h.2.2.2.1 hc hi hl hf hin hdc hn hfit hlen (hk _ h.set)
end R89d
theorem k_mtInit {G : zG} {l : Launch} {b i : Nat} {M0 M : zM} {cs : List zC} (hN : nB b M0 M i cs (.inr (3, [.null, .null, .null, .long 0])) []) : am G l kX3_init 1 [.ref (b + i)] M 3 2388 (zv (fun M' => nB b M0 M' i cs (.inr (3, [.ref (b + cs.length), .ref (b + (cs.length + 1)), .ref (b + (cs.length + 2)), .long 1])) [.inl (0, 1189, .inl (fun _ => 0)), .inl (0, 1189, .inl (fun _ => 0)), .inl (0, 10, .inl (fun _ => 0))])) := by
  refine am.of (by decide) (Nat.le_of_ble_eq_true rfl) ?_
  refine aj.aload_n dX3_init_0 rfl ?_
  refine aj.objInit dX3_init_1 w1011 w147 w148 (Nat.le_of_ble_eq_true rfl) (Nat.le_of_ble_eq_true rfl) ?_
  refine aj.aload_n dX3_init_4 rfl ?_
  refine aj.sipush (v := 1189) dX3_init_5 rfl ?_
  refine nB.newI (N := 1189) hN dX3_init_8 (by decide) rfl (by decide) (fun M hN => ?_)
  refine nB.put (f := 0) (cq := (RX3, TX3, 4)) hN dX3_init_10 rfl (Nat.le_of_ble_eq_true rfl) w1012 rfl rfl rfl (Nat.le_of_ble_eq_true rfl) (fun M hN => ?_)
  refine aj.aload_n dX3_init_13 rfl ?_
  refine aj.sipush (v := 1189) dX3_init_14 rfl ?_
  refine nB.newI (N := 1189) hN dX3_init_17 (by decide) rfl (by decide) (fun M hN => ?_)
  refine nB.put (f := 1) (cq := (RX3, TX3, 4)) hN dX3_init_19 rfl (Nat.le_of_ble_eq_true rfl) w1013 rfl rfl rfl (Nat.le_of_ble_eq_true rfl) (fun M hN => ?_)
  refine aj.aload_n dX3_init_22 rfl ?_
  refine aj.bipush (v := 10) dX3_init_23 rfl ?_
  refine nB.newI (N := 10) hN dX3_init_25 (by decide) rfl (by decide) (fun M hN => ?_)
  refine nB.putF (f := 2) (cq := (RX3, TX3, 4)) hN dX3_init_27 rfl (Nat.le_of_ble_eq_true rfl) w1014 rfl rfl rfl rfl rfl (Nat.le_of_ble_eq_true rfl) (fun M hN => ?_)
  refine aj.aload_n dX3_init_30 rfl ?_
  refine aj.lconst (v := 1) dX3_init_31 rfl ?_
  refine nB.put (f := 3) (cq := (RX3, TX3, 4)) hN dX3_init_32 rfl (Nat.le_of_ble_eq_true rfl) w1015 rfl rfl rfl (Nat.le_of_ble_eq_true rfl) (fun M hN => ?_)
  exact aj.vret rfl dX3_init_35 ⟨rfl, hN⟩
