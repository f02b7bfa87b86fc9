/-- the law's method, its script, its state -/
abbrev kL (nm : String) : zY := (⟨RL, nm, "([I)Z"⟩, code, 4, some .boolean)
def zX (G : zG) (bS Ls : Nat) (xs : Nat → Int32) : Prop := bS < z_B G ∧ ∀ U : State, G.2.2.2.2.2 U → va_X bS Ls xs U G.2.2.2.1
def lS (a b : Nat) (M : zM) (k : Nat) : Prop := ∃ t n V0 W0 R I A L, gM a b t n M V0 W0 R I A L ∧ gS a (hm b t n M) V0 W0 R I A L (100 * k)
section R93
variable {G : zG} {l : Launch} {k : zY} {d pc bc bs : Nat} {lv : List (Nat × Value)} {st : List Value} {M : zM} {Q : Option Value → zM → Prop} {bS Ls : Nat} {xs : Nat → Int32}
theorem aj.sci {i : Int32} {j : Nat} (hX : zX G bS Ls xs) (hi : i = nI j) (hj : j < Ls) (hL : Ls < 2 ^ 31) (hd : decode k.2.1 pc = .ok (.iaload, 1)) (h : aj G l k d (pc + 1) lv (.int (xs j) :: st) M bc bs Q) : aj G l k d pc lv (.int i :: .ref bS :: st) M bc bs Q := by
  subst hi
  intro p e R s m args below meth c H locs cells slots LS C hS hV hL1 h1 h2 h3 h4
  obtain ⟨scr, g1, g2, g3, g4, g5⟩ := hX.2 s (C.2.2.2.2.2.2.2.1.2.2.2.2 s (Vm.Alike.refl _))
  have hc : (nI j).toNatClampNeg = j := nI_clamp (by omega)
  exact W.iald (v := .int (xs j)) C.1 C.2.1 (by rw [hS.2.2.1 bS hX.1]; exact g1) g2 g3 (by rw [g4]; exact vp_in_nI hj hL) (by rw [hc]; exact g5 j hj) rfl rfl hd (h p e R s m args below meth c H locs cells slots LS C hS hV hL1 h1 h2 h3 h4)
theorem aj.scl (hX : zX G bS Ls xs) (hd : decode k.2.1 pc = .ok (.arraylength, 1)) (h : aj G l k d (pc + 1) lv (.int (nI Ls) :: st) M bc bs Q) : aj G l k d pc lv (.ref bS :: st) M bc bs Q := by
  intro p e R s m args below meth c H locs cells slots LS C hS hV hL1 h1 h2 h3 h4
  obtain ⟨scr, g1, g2, g3, g4, g5⟩ := hX.2 s (C.2.2.2.2.2.2.2.1.2.2.2.2 s (Vm.Alike.refl _))
  exact W.alen (n := Int32.ofNat Ls) C.1 C.2.1 (by rw [hS.2.2.1 bS hX.1]; exact g1) g2 (by rw [g4] <;> rfl) rfl rfl hd (h p e R s m args below meth c H locs cells slots LS C hS hV hL1 h1 h2 h3 h4)
end R93
section O93
variable {a b t n : Nat} {M : zM} {V0 : Nat → Nat → Int32} {W0 : Nat → Nat → Int64} {R : Nat → Nat → Option Nat} {I : Nat → Int32} {A : Nat → Nat → Int32} {L : Nat → Nat → Int64}
theorem gM.obC (h : gM a b t n M V0 W0 R I A L) : ∃ fs, M.1 a = some (.inr (11, fs)) := by
  obtain ⟨-, -, -, ⟨V, W, hA, -⟩, -⟩ := h
  exact ⟨_, hA.ob (i := 0) rfl (by decide)⟩
theorem gM.obR (h : gM a b t n M V0 W0 R I A L) : ∃ fs, M.1 b = some (.inr (12, fs)) := by
  obtain ⟨-, -, -, -, ⟨u, v, w, hA⟩, -⟩ := h
  exact ⟨_, hA.1⟩
theorem cnt_eq {H : zM} {Tm : Nat} (h : gS a H V0 W0 R I A L Tm) {j : Nat} (hj : j ≤ 11) : cCount V0 (A 1) j = mCount I A j := by
  have h7 := h.2.2.2.2.1.1
  obtain ⟨nx, -, -, -, h4, -⟩ := h.2.1.2.1
  rcases (show j = 0 ∨ j = 1 ∨ j = 2 ∨ j = 3 ∨ j = 4 ∨ j = 5 ∨ j = 6 ∨ j = 7 ∨ j = 8 ∨ j = 9 ∨ j = 10 ∨ j = 11 by omega) with rfl | rfl | rfl | rfl | rfl | rfl | rfl | rfl | rfl | rfl | rfl | rfl
  all_goals first | rfl | exact h4 | exact h7
end O93
theorem lc_far {G : zG} {l : Launch} {nm : String} {a b bS Ls k : Nat} {xs : Nat → Int32} {M : zM} {Q : Option Value → zM → Prop} {bc bs : Nat}  (hX : zX G bS Ls xs) (hL : Ls < 2 ^ 31) (hk6 : 6 * k + 6 ≤ Ls) (hkT : 100 * (k + 1) < 2 ^ 24) (hSt : lS a b M k) (hn : ∀ M', lS a b M' (k + 1) → aj G l (kL nm) 84 1694 [(3, .int (nI (6 * k))), (0, .ref bS), (1, .ref a), (2, .ref b)] [] M' bc bs Q) : aj G l (kL nm) 84 440 [(3, .int (nI (6 * k))), (0, .ref bS), (1, .ref a), (2, .ref b)] [] M bc bs Q := by
  obtain ⟨t, n, V0, W0, R, I, A, L, hg, hs⟩ := hSt
  obtain ⟨T, sl, ol, hH⟩ := hs.cH
  have hB := hH.2.2.2
  have hTr := hs.2.2.1
  have h33 : ∀ j, j < 4 → bd (A 33 j) 40 := fun j hj => (hTr j hj).1
  have hI := hs.2.1.2.1
  have h28 := hisR_b hI
  have hkW := hg.2.2.2.1
  refine aj.aload_n dL_law_440 rfl ?_
  refine aj.aload_n dL_law_441 rfl ?_
  refine aj.iload_n dL_law_442 rfl ?_
  refine aj.iconst (v := 1) dL_law_443 rfl ?_
  refine aj.iaddN (a := 6 * k) (b := 1) dL_law_444 rfl rfl ?_
  refine aj.sci hX (j := (6 * k) + 1) rfl (by omega) hL dL_law_445 ?_
  refine aj.callE1 (d' := 1) (bc := bc) (bs := bs) (kc := 0) (ks := 0) (As := [.int (xs ((6 * k) + 1))]) (rest := []) dL_law_446 v_L_41 li_X11_far hg.obC rfl rfl rfl (Nat.le_of_ble_eq_true rfl) (Nat.le_of_ble_eq_true rfl) (p_far ((xs ((6 * k) + 1))) hkW hH ) (fun M1 hM => ?_)
  obtain ⟨hg1, hk1⟩ := hg.c hM rfl
  refine aj.aload_n dL_law_449 rfl ?_
  refine aj.aload_n dL_law_450 rfl ?_
  refine aj.iload_n dL_law_451 rfl ?_
  refine aj.iconst (v := 1) dL_law_452 rfl ?_
  refine aj.iaddN (a := 6 * k) (b := 1) dL_law_453 rfl rfl ?_
  refine aj.sci hX (j := (6 * k) + 1) rfl (by omega) hL dL_law_454 ?_
  refine aj.callE1 (d' := 2) (bc := bc) (bs := bs) (kc := 0) (ks := 0) (As := [.int (xs ((6 * k) + 1))]) (rest := [.int _]) dL_law_455 v_L_44 li_X12_far hg1.obR rfl rfl rfl (Nat.le_of_ble_eq_true rfl) (Nat.le_of_ble_eq_true rfl) (q_far ((xs ((6 * k) + 1))) hg1.2.2.2.2.1 hB) (fun M2 hM => ?_)
  obtain ⟨hg2, hk2⟩ := hg1.r hM
  refine aj.icmp_eq (tgt := 1694) dL_law_458 rfl (fun c458 => ?_) (fun c458 => ?_)
  · refine aj.pick [0, 1, 2, 3] rfl ?_
    exact hn M2 ⟨t, n, V0, W0, R, I, A, L, hg2, (hs.kp (hk1.trans hk2)).more (by omega) hkT⟩
  · exact absurd (rfl) c458
theorem lc_points {G : zG} {l : Launch} {nm : String} {a b bS Ls k : Nat} {xs : Nat → Int32} {M : zM} {Q : Option Value → zM → Prop} {bc bs : Nat}  (hX : zX G bS Ls xs) (hL : Ls < 2 ^ 31) (hk6 : 6 * k + 6 ≤ Ls) (hkT : 100 * (k + 1) < 2 ^ 24) (hSt : lS a b M k) (hn : ∀ M', lS a b M' (k + 1) → aj G l (kL nm) 84 1694 [(3, .int (nI (6 * k))), (0, .ref bS), (1, .ref a), (2, .ref b)] [] M' bc bs Q) : aj G l (kL nm) 84 374 [(3, .int (nI (6 * k))), (0, .ref bS), (1, .ref a), (2, .ref b)] [] M bc bs Q := by
  obtain ⟨t, n, V0, W0, R, I, A, L, hg, hs⟩ := hSt
  obtain ⟨T, sl, ol, hH⟩ := hs.cH
  have hB := hH.2.2.2
  have hTr := hs.2.2.1
  have h33 : ∀ j, j < 4 → bd (A 33 j) 40 := fun j hj => (hTr j hj).1
  have hI := hs.2.1.2.1
  have h28 := hisR_b hI
  have hkW := hg.2.2.2.1
  refine aj.aload_n dL_law_374 rfl ?_
  refine aj.aload_n dL_law_375 rfl ?_
  refine aj.iload_n dL_law_376 rfl ?_
  refine aj.iconst (v := 1) dL_law_377 rfl ?_
  refine aj.iaddN (a := 6 * k) (b := 1) dL_law_378 rfl rfl ?_
  refine aj.sci hX (j := (6 * k) + 1) rfl (by omega) hL dL_law_379 ?_
  refine aj.callE1 (d' := 1) (bc := bc) (bs := bs) (kc := 0) (ks := 0) (As := [.int (xs ((6 * k) + 1))]) (rest := []) dL_law_380 v_L_32 li_X11_points hg.obC rfl rfl rfl (Nat.le_of_ble_eq_true rfl) (Nat.le_of_ble_eq_true rfl) (p_points ((xs ((6 * k) + 1))) hkW hH ) (fun M1 hM => ?_)
  obtain ⟨hg1, hk1⟩ := hg.c hM rfl
  refine aj.aload_n dL_law_383 rfl ?_
  refine aj.aload_n dL_law_384 rfl ?_
  refine aj.iload_n dL_law_385 rfl ?_
  refine aj.iconst (v := 1) dL_law_386 rfl ?_
  refine aj.iaddN (a := 6 * k) (b := 1) dL_law_387 rfl rfl ?_
  refine aj.sci hX (j := (6 * k) + 1) rfl (by omega) hL dL_law_388 ?_
  refine aj.callE1 (d' := 2) (bc := bc) (bs := bs) (kc := 0) (ks := 0) (As := [.int (xs ((6 * k) + 1))]) (rest := [.int _]) dL_law_389 v_L_35 li_X12_points hg1.obR rfl rfl rfl (Nat.le_of_ble_eq_true rfl) (Nat.le_of_ble_eq_true rfl) (q_points ((xs ((6 * k) + 1))) hg1.2.2.2.2.1 hB) (fun M2 hM => ?_)
  obtain ⟨hg2, hk2⟩ := hg1.r hM
  refine aj.icmp_eq (tgt := 1694) dL_law_392 rfl (fun c392 => ?_) (fun c392 => ?_)
  · refine aj.pick [0, 1, 2, 3] rfl ?_
    exact hn M2 ⟨t, n, V0, W0, R, I, A, L, hg2, (hs.kp (hk1.trans hk2)).more (by omega) hkT⟩
  · exact absurd (rfl) c392
theorem lc_shooter {G : zG} {l : Launch} {nm : String} {a b bS Ls k : Nat} {xs : Nat → Int32} {M : zM} {Q : Option Value → zM → Prop} {bc bs : Nat}  (hX : zX G bS Ls xs) (hL : Ls < 2 ^ 31) (hk6 : 6 * k + 6 ≤ Ls) (hkT : 100 * (k + 1) < 2 ^ 24) (hSt : lS a b M k) (hn : ∀ M', lS a b M' (k + 1) → aj G l (kL nm) 84 1694 [(3, .int (nI (6 * k))), (0, .ref bS), (1, .ref a), (2, .ref b)] [] M' bc bs Q) : aj G l (kL nm) 84 341 [(3, .int (nI (6 * k))), (0, .ref bS), (1, .ref a), (2, .ref b)] [] M bc bs Q := by
  obtain ⟨t, n, V0, W0, R, I, A, L, hg, hs⟩ := hSt
  obtain ⟨T, sl, ol, hH⟩ := hs.cH
  have hB := hH.2.2.2
  have hTr := hs.2.2.1
  have h33 : ∀ j, j < 4 → bd (A 33 j) 40 := fun j hj => (hTr j hj).1
  have hI := hs.2.1.2.1
  have h28 := hisR_b hI
  have hkW := hg.2.2.2.1
  refine aj.aload_n dL_law_341 rfl ?_
  refine aj.aload_n dL_law_342 rfl ?_
  refine aj.iload_n dL_law_343 rfl ?_
  refine aj.iconst (v := 1) dL_law_344 rfl ?_
  refine aj.iaddN (a := 6 * k) (b := 1) dL_law_345 rfl rfl ?_
  refine aj.sci hX (j := (6 * k) + 1) rfl (by omega) hL dL_law_346 ?_
  refine aj.aload_n dL_law_347 rfl ?_
  refine aj.iload_n dL_law_348 rfl ?_
  refine aj.iconst (v := 2) dL_law_349 rfl ?_
  refine aj.iaddN (a := 6 * k) (b := 2) dL_law_350 rfl rfl ?_
  refine aj.sci hX (j := (6 * k) + 2) rfl (by omega) hL dL_law_351 ?_
  refine aj.callE1 (d' := 1) (bc := bc) (bs := bs) (kc := 0) (ks := 0) (As := [.int (xs ((6 * k) + 1)), .int (xs ((6 * k) + 2))]) (rest := []) dL_law_352 v_L_27 li_X11_shooter hg.obC rfl rfl rfl (Nat.le_of_ble_eq_true rfl) (Nat.le_of_ble_eq_true rfl) (p_shooter ((xs ((6 * k) + 1))) ((xs ((6 * k) + 2))) hkW hH ) (fun M1 hM => ?_)
  obtain ⟨hg1, hk1⟩ := hg.c hM rfl
  refine aj.aload_n dL_law_355 rfl ?_
  refine aj.aload_n dL_law_356 rfl ?_
  refine aj.iload_n dL_law_357 rfl ?_
  refine aj.iconst (v := 1) dL_law_358 rfl ?_
  refine aj.iaddN (a := 6 * k) (b := 1) dL_law_359 rfl rfl ?_
  refine aj.sci hX (j := (6 * k) + 1) rfl (by omega) hL dL_law_360 ?_
  refine aj.aload_n dL_law_361 rfl ?_
  refine aj.iload_n dL_law_362 rfl ?_
  refine aj.iconst (v := 2) dL_law_363 rfl ?_
  refine aj.iaddN (a := 6 * k) (b := 2) dL_law_364 rfl rfl ?_
  refine aj.sci hX (j := (6 * k) + 2) rfl (by omega) hL dL_law_365 ?_
  refine aj.callE1 (d' := 2) (bc := bc) (bs := bs) (kc := 0) (ks := 0) (As := [.int (xs ((6 * k) + 1)), .int (xs ((6 * k) + 2))]) (rest := [.int _]) dL_law_366 v_L_31 li_X12_shooter hg1.obR rfl rfl rfl (Nat.le_of_ble_eq_true rfl) (Nat.le_of_ble_eq_true rfl) (q_shooter ((xs ((6 * k) + 1))) ((xs ((6 * k) + 2))) hg1.2.2.2.2.1 hB) (fun M2 hM => ?_)
  obtain ⟨hg2, hk2⟩ := hg1.r hM
  refine aj.icmp_eq (tgt := 1694) dL_law_369 rfl (fun c369 => ?_) (fun c369 => ?_)
  · refine aj.pick [0, 1, 2, 3] rfl ?_
    exact hn M2 ⟨t, n, V0, W0, R, I, A, L, hg2, (hs.kp (hk1.trans hk2)).more (by omega) hkT⟩
  · exact absurd (rfl) c369
theorem lc_lands {G : zG} {l : Launch} {nm : String} {a b bS Ls k : Nat} {xs : Nat → Int32} {M : zM} {Q : Option Value → zM → Prop} {bc bs : Nat}  (hX : zX G bS Ls xs) (hL : Ls < 2 ^ 31) (hk6 : 6 * k + 6 ≤ Ls) (hkT : 100 * (k + 1) < 2 ^ 24) (hSt : lS a b M k) (hn : ∀ M', lS a b M' (k + 1) → aj G l (kL nm) 84 1694 [(3, .int (nI (6 * k))), (0, .ref bS), (1, .ref a), (2, .ref b)] [] M' bc bs Q) : aj G l (kL nm) 84 397 [(3, .int (nI (6 * k))), (0, .ref bS), (1, .ref a), (2, .ref b)] [] M bc bs Q := by
  obtain ⟨t, n, V0, W0, R, I, A, L, hg, hs⟩ := hSt
  obtain ⟨T, sl, ol, hH⟩ := hs.cH
  have hB := hH.2.2.2
  have hTr := hs.2.2.1
  have h33 : ∀ j, j < 4 → bd (A 33 j) 40 := fun j hj => (hTr j hj).1
  have hI := hs.2.1.2.1
  have h28 := hisR_b hI
  have hkW := hg.2.2.2.1
  refine aj.aload_n dL_law_397 rfl ?_
  refine aj.aload_n dL_law_398 rfl ?_
  refine aj.iload_n dL_law_399 rfl ?_
  refine aj.iconst (v := 1) dL_law_400 rfl ?_
  refine aj.iaddN (a := 6 * k) (b := 1) dL_law_401 rfl rfl ?_
  refine aj.sci hX (j := (6 * k) + 1) rfl (by omega) hL dL_law_402 ?_
  refine aj.aload_n dL_law_403 rfl ?_
  refine aj.iload_n dL_law_404 rfl ?_
  refine aj.iconst (v := 2) dL_law_405 rfl ?_
  refine aj.iaddN (a := 6 * k) (b := 2) dL_law_406 rfl rfl ?_
  refine aj.sci hX (j := (6 * k) + 2) rfl (by omega) hL dL_law_407 ?_
  refine aj.aload_n dL_law_408 rfl ?_
  refine aj.iload_n dL_law_409 rfl ?_
  refine aj.iconst (v := 3) dL_law_410 rfl ?_
  refine aj.iaddN (a := 6 * k) (b := 3) dL_law_411 rfl rfl ?_
  refine aj.sci hX (j := (6 * k) + 3) rfl (by omega) hL dL_law_412 ?_
  refine aj.callE1 (d' := 6) (bc := bc) (bs := bs) (kc := 0) (ks := 0) (As := [.int (xs ((6 * k) + 1)), .int (xs ((6 * k) + 2)), .int (xs ((6 * k) + 3))]) (rest := []) dL_law_413 v_L_36 li_X11_lands hg.obC rfl rfl rfl (Nat.le_of_ble_eq_true rfl) (Nat.le_of_ble_eq_true rfl) (p_lands ((xs ((6 * k) + 1))) ((xs ((6 * k) + 2))) ((xs ((6 * k) + 3))) hkW hH ) (fun M1 hM => ?_)
  obtain ⟨hg1, hk1⟩ := hg.c hM rfl
  refine aj.aload_n dL_law_416 rfl ?_
  refine aj.aload_n dL_law_417 rfl ?_
  refine aj.iload_n dL_law_418 rfl ?_
  refine aj.iconst (v := 1) dL_law_419 rfl ?_
  refine aj.iaddN (a := 6 * k) (b := 1) dL_law_420 rfl rfl ?_
  refine aj.sci hX (j := (6 * k) + 1) rfl (by omega) hL dL_law_421 ?_
  refine aj.aload_n dL_law_422 rfl ?_
  refine aj.iload_n dL_law_423 rfl ?_
  refine aj.iconst (v := 2) dL_law_424 rfl ?_
  refine aj.iaddN (a := 6 * k) (b := 2) dL_law_425 rfl rfl ?_
  refine aj.sci hX (j := (6 * k) + 2) rfl (by omega) hL dL_law_426 ?_
  refine aj.aload_n dL_law_427 rfl ?_
  refine aj.iload_n dL_law_428 rfl ?_
  refine aj.iconst (v := 3) dL_law_429 rfl ?_
  refine aj.iaddN (a := 6 * k) (b := 3) dL_law_430 rfl rfl ?_
  refine aj.sci hX (j := (6 * k) + 3) rfl (by omega) hL dL_law_431 ?_
  refine aj.callE1 (d' := 4) (bc := bc) (bs := bs) (kc := 0) (ks := 0) (As := [.int (xs ((6 * k) + 1)), .int (xs ((6 * k) + 2)), .int (xs ((6 * k) + 3))]) (rest := [.int _]) dL_law_432 v_L_40 li_X12_lands hg1.obR rfl rfl rfl (Nat.le_of_ble_eq_true rfl) (Nat.le_of_ble_eq_true rfl) (q_lands ((xs ((6 * k) + 1))) ((xs ((6 * k) + 2))) ((xs ((6 * k) + 3))) hg1.2.2.2.2.1 hB) (fun M2 hM => ?_)
  obtain ⟨hg2, hk2⟩ := hg1.r hM
  refine aj.icmp_eq (tgt := 1694) dL_law_435 rfl (fun c435 => ?_) (fun c435 => ?_)
  · refine aj.pick [0, 1, 2, 3] rfl ?_
    exact hn M2 ⟨t, n, V0, W0, R, I, A, L, hg2, (hs.kp (hk1.trans hk2)).more (by omega) hkT⟩
  · exact absurd (rfl) c435
theorem lc_scores {G : zG} {l : Launch} {nm : String} {a b bS Ls k : Nat} {xs : Nat → Int32} {M : zM} {Q : Option Value → zM → Prop} {bc bs : Nat}  (hX : zX G bS Ls xs) (hL : Ls < 2 ^ 31) (hk6 : 6 * k + 6 ≤ Ls) (hkT : 100 * (k + 1) < 2 ^ 24) (hSt : lS a b M k) (hn : ∀ M', lS a b M' (k + 1) → aj G l (kL nm) 84 1694 [(3, .int (nI (6 * k))), (0, .ref bS), (1, .ref a), (2, .ref b)] [] M' bc bs Q) : aj G l (kL nm) 84 463 [(3, .int (nI (6 * k))), (0, .ref bS), (1, .ref a), (2, .ref b)] [] M bc bs Q := by
  obtain ⟨t, n, V0, W0, R, I, A, L, hg, hs⟩ := hSt
  obtain ⟨T, sl, ol, hH⟩ := hs.cH
  have hB := hH.2.2.2
  have hTr := hs.2.2.1
  have h33 : ∀ j, j < 4 → bd (A 33 j) 40 := fun j hj => (hTr j hj).1
  have hI := hs.2.1.2.1
  have h28 := hisR_b hI
  have hkW := hg.2.2.2.1
  refine aj.aload_n dL_law_463 rfl ?_
  refine aj.aload_n dL_law_464 rfl ?_
  refine aj.iload_n dL_law_465 rfl ?_
  refine aj.iconst (v := 1) dL_law_466 rfl ?_
  refine aj.iaddN (a := 6 * k) (b := 1) dL_law_467 rfl rfl ?_
  refine aj.sci hX (j := (6 * k) + 1) rfl (by omega) hL dL_law_468 ?_
  refine aj.callE1 (d' := 5) (bc := bc) (bs := bs) (kc := 0) (ks := 0) (As := [.int (xs ((6 * k) + 1))]) (rest := []) dL_law_469 v_L_45 li_X11_scores hg.obC rfl rfl rfl (Nat.le_of_ble_eq_true rfl) (Nat.le_of_ble_eq_true rfl) (p_scores ((xs ((6 * k) + 1))) hkW hH ) (fun M1 hM => ?_)
  obtain ⟨hg1, hk1⟩ := hg.c hM rfl
  refine aj.aload_n dL_law_472 rfl ?_
  refine aj.aload_n dL_law_473 rfl ?_
  refine aj.iload_n dL_law_474 rfl ?_
  refine aj.iconst (v := 1) dL_law_475 rfl ?_
  refine aj.iaddN (a := 6 * k) (b := 1) dL_law_476 rfl rfl ?_
  refine aj.sci hX (j := (6 * k) + 1) rfl (by omega) hL dL_law_477 ?_
  refine aj.callE1 (d' := 4) (bc := bc) (bs := bs) (kc := 0) (ks := 0) (As := [.int (xs ((6 * k) + 1))]) (rest := [.int _]) dL_law_478 v_L_48 li_X12_scores hg1.obR rfl rfl rfl (Nat.le_of_ble_eq_true rfl) (Nat.le_of_ble_eq_true rfl) (q_scores ((xs ((6 * k) + 1))) hg1.2.2.2.2.1 hB) (fun M2 hM => ?_)
  obtain ⟨hg2, hk2⟩ := hg1.r hM
  refine aj.icmp_eq (tgt := 1694) dL_law_481 rfl (fun c481 => ?_) (fun c481 => ?_)
  · refine aj.pick [0, 1, 2, 3] rfl ?_
    exact hn M2 ⟨t, n, V0, W0, R, I, A, L, hg2, (hs.kp (hk1.trans hk2)).more (by omega) hkT⟩
  · exact absurd (rfl) c481
theorem lc_open {G : zG} {l : Launch} {nm : String} {a b bS Ls k : Nat} {xs : Nat → Int32} {M : zM} {Q : Option Value → zM → Prop} {bc bs : Nat}  (hX : zX G bS Ls xs) (hL : Ls < 2 ^ 31) (hk6 : 6 * k + 6 ≤ Ls) (hkT : 100 * (k + 1) < 2 ^ 24) (hSt : lS a b M k) (hn : ∀ M', lS a b M' (k + 1) → aj G l (kL nm) 84 1694 [(3, .int (nI (6 * k))), (0, .ref bS), (1, .ref a), (2, .ref b)] [] M' bc bs Q) : aj G l (kL nm) 84 486 [(3, .int (nI (6 * k))), (0, .ref bS), (1, .ref a), (2, .ref b)] [] M bc bs Q := by
  obtain ⟨t, n, V0, W0, R, I, A, L, hg, hs⟩ := hSt
  obtain ⟨T, sl, ol, hH⟩ := hs.cH
  have hB := hH.2.2.2
  have hTr := hs.2.2.1
  have h33 : ∀ j, j < 4 → bd (A 33 j) 40 := fun j hj => (hTr j hj).1
  have hI := hs.2.1.2.1
  have h28 := hisR_b hI
  have hkW := hg.2.2.2.1
  refine aj.aload_n dL_law_486 rfl ?_
  refine aj.aload_n dL_law_487 rfl ?_
  refine aj.iload_n dL_law_488 rfl ?_
  refine aj.iconst (v := 1) dL_law_489 rfl ?_
  refine aj.iaddN (a := 6 * k) (b := 1) dL_law_490 rfl rfl ?_
  refine aj.sci hX (j := (6 * k) + 1) rfl (by omega) hL dL_law_491 ?_
  refine aj.callE1 (d' := 4) (bc := bc) (bs := bs) (kc := 0) (ks := 0) (As := [.int (xs ((6 * k) + 1))]) (rest := []) dL_law_492 v_L_49 li_X11_open hg.obC rfl rfl rfl (Nat.le_of_ble_eq_true rfl) (Nat.le_of_ble_eq_true rfl) (p_open ((xs ((6 * k) + 1))) hkW hH ) (fun M1 hM => ?_)
  obtain ⟨hg1, hk1⟩ := hg.c hM rfl
  refine aj.aload_n dL_law_495 rfl ?_
  refine aj.aload_n dL_law_496 rfl ?_
  refine aj.iload_n dL_law_497 rfl ?_
  refine aj.iconst (v := 1) dL_law_498 rfl ?_
  refine aj.iaddN (a := 6 * k) (b := 1) dL_law_499 rfl rfl ?_
  refine aj.sci hX (j := (6 * k) + 1) rfl (by omega) hL dL_law_500 ?_
  refine aj.callE1 (d' := 3) (bc := bc) (bs := bs) (kc := 0) (ks := 0) (As := [.int (xs ((6 * k) + 1))]) (rest := [.int _]) dL_law_501 v_L_52 li_X12_open hg1.obR rfl rfl rfl (Nat.le_of_ble_eq_true rfl) (Nat.le_of_ble_eq_true rfl) (q_open ((xs ((6 * k) + 1))) hg1.2.2.2.2.1 hB) (fun M2 hM => ?_)
  obtain ⟨hg2, hk2⟩ := hg1.r hM
  refine aj.icmp_eq (tgt := 1694) dL_law_504 rfl (fun c504 => ?_) (fun c504 => ?_)
  · refine aj.pick [0, 1, 2, 3] rfl ?_
    exact hn M2 ⟨t, n, V0, W0, R, I, A, L, hg2, (hs.kp (hk1.trans hk2)).more (by omega) hkT⟩
  · exact absurd (rfl) c504
theorem lc_opens {G : zG} {l : Launch} {nm : String} {a b bS Ls k : Nat} {xs : Nat → Int32} {M : zM} {Q : Option Value → zM → Prop} {bc bs : Nat}  (hX : zX G bS Ls xs) (hL : Ls < 2 ^ 31) (hk6 : 6 * k + 6 ≤ Ls) (hkT : 100 * (k + 1) < 2 ^ 24) (hSt : lS a b M k) (hn : ∀ M', lS a b M' (k + 1) → aj G l (kL nm) 84 1694 [(3, .int (nI (6 * k))), (0, .ref bS), (1, .ref a), (2, .ref b)] [] M' bc bs Q) : aj G l (kL nm) 84 509 [(3, .int (nI (6 * k))), (0, .ref bS), (1, .ref a), (2, .ref b)] [] M bc bs Q := by
  obtain ⟨t, n, V0, W0, R, I, A, L, hg, hs⟩ := hSt
  obtain ⟨T, sl, ol, hH⟩ := hs.cH
  have hB := hH.2.2.2
  have hTr := hs.2.2.1
  have h33 : ∀ j, j < 4 → bd (A 33 j) 40 := fun j hj => (hTr j hj).1
  have hI := hs.2.1.2.1
  have h28 := hisR_b hI
  have hkW := hg.2.2.2.1
  refine aj.aload_n dL_law_509 rfl ?_
  refine aj.aload_n dL_law_510 rfl ?_
  refine aj.iload_n dL_law_511 rfl ?_
  refine aj.iconst (v := 1) dL_law_512 rfl ?_
  refine aj.iaddN (a := 6 * k) (b := 1) dL_law_513 rfl rfl ?_
  refine aj.sci hX (j := (6 * k) + 1) rfl (by omega) hL dL_law_514 ?_
  refine aj.callE1 (d' := 5) (bc := bc) (bs := bs) (kc := 0) (ks := 0) (As := [.int (xs ((6 * k) + 1))]) (rest := []) dL_law_515 v_L_53 li_X11_opens hg.obC rfl rfl rfl (Nat.le_of_ble_eq_true rfl) (Nat.le_of_ble_eq_true rfl) (p_opens ((xs ((6 * k) + 1))) hkW hH ) (fun M1 hM => ?_)
  obtain ⟨hg1, hk1⟩ := hg.c hM rfl
  refine aj.aload_n dL_law_518 rfl ?_
  refine aj.aload_n dL_law_519 rfl ?_
  refine aj.iload_n dL_law_520 rfl ?_
  refine aj.iconst (v := 1) dL_law_521 rfl ?_
  refine aj.iaddN (a := 6 * k) (b := 1) dL_law_522 rfl rfl ?_
  refine aj.sci hX (j := (6 * k) + 1) rfl (by omega) hL dL_law_523 ?_
  refine aj.callE1 (d' := 3) (bc := bc) (bs := bs) (kc := 0) (ks := 0) (As := [.int (xs ((6 * k) + 1))]) (rest := [.int _]) dL_law_524 v_L_56 li_X12_opens hg1.obR rfl rfl rfl (Nat.le_of_ble_eq_true rfl) (Nat.le_of_ble_eq_true rfl) (q_opens ((xs ((6 * k) + 1))) hg1.2.2.2.2.1 hB) (fun M2 hM => ?_)
  obtain ⟨hg2, hk2⟩ := hg1.r hM
  refine aj.icmp_eq (tgt := 1694) dL_law_527 rfl (fun c527 => ?_) (fun c527 => ?_)
  · refine aj.pick [0, 1, 2, 3] rfl ?_
    exact hn M2 ⟨t, n, V0, W0, R, I, A, L, hg2, (hs.kp (hk1.trans hk2)).more (by omega) hkT⟩
  · exact absurd (rfl) c527
theorem lc_touches {G : zG} {l : Launch} {nm : String} {a b bS Ls k : Nat} {xs : Nat → Int32} {M : zM} {Q : Option Value → zM → Prop} {bc bs : Nat}  (hX : zX G bS Ls xs) (hL : Ls < 2 ^ 31) (hk6 : 6 * k + 6 ≤ Ls) (hkT : 100 * (k + 1) < 2 ^ 24) (hSt : lS a b M k) (hn : ∀ M', lS a b M' (k + 1) → aj G l (kL nm) 84 1694 [(3, .int (nI (6 * k))), (0, .ref bS), (1, .ref a), (2, .ref b)] [] M' bc bs Q) : aj G l (kL nm) 84 759 [(3, .int (nI (6 * k))), (0, .ref bS), (1, .ref a), (2, .ref b)] [] M bc bs Q := by
  obtain ⟨t, n, V0, W0, R, I, A, L, hg, hs⟩ := hSt
  obtain ⟨T, sl, ol, hH⟩ := hs.cH
  have hB := hH.2.2.2
  have hTr := hs.2.2.1
  have h33 : ∀ j, j < 4 → bd (A 33 j) 40 := fun j hj => (hTr j hj).1
  have hI := hs.2.1.2.1
  have h28 := hisR_b hI
  have hkW := hg.2.2.2.1
  refine aj.aload_n dL_law_759 rfl ?_
  refine aj.aload_n dL_law_760 rfl ?_
  refine aj.iload_n dL_law_761 rfl ?_
  refine aj.iconst (v := 1) dL_law_762 rfl ?_
  refine aj.iaddN (a := 6 * k) (b := 1) dL_law_763 rfl rfl ?_
  refine aj.sci hX (j := (6 * k) + 1) rfl (by omega) hL dL_law_764 ?_
  refine aj.aload_n dL_law_765 rfl ?_
  refine aj.iload_n dL_law_766 rfl ?_
  refine aj.iconst (v := 2) dL_law_767 rfl ?_
  refine aj.iaddN (a := 6 * k) (b := 2) dL_law_768 rfl rfl ?_
  refine aj.sci hX (j := (6 * k) + 2) rfl (by omega) hL dL_law_769 ?_
  refine aj.callE1 (d' := 6) (bc := bc) (bs := bs) (kc := 0) (ks := 0) (As := [.int (xs ((6 * k) + 1)), .int (xs ((6 * k) + 2))]) (rest := []) dL_law_770 v_L_94 li_X11_touches hg.obC rfl rfl rfl (Nat.le_of_ble_eq_true rfl) (Nat.le_of_ble_eq_true rfl) (p_touches ((xs ((6 * k) + 1))) ((xs ((6 * k) + 2))) hkW hH ) (fun M1 hM => ?_)
  obtain ⟨hg1, hk1⟩ := hg.c hM rfl
  refine aj.aload_n dL_law_773 rfl ?_
  refine aj.aload_n dL_law_774 rfl ?_
  refine aj.iload_n dL_law_775 rfl ?_
  refine aj.iconst (v := 1) dL_law_776 rfl ?_
  refine aj.iaddN (a := 6 * k) (b := 1) dL_law_777 rfl rfl ?_
  refine aj.sci hX (j := (6 * k) + 1) rfl (by omega) hL dL_law_778 ?_
  refine aj.aload_n dL_law_779 rfl ?_
  refine aj.iload_n dL_law_780 rfl ?_
  refine aj.iconst (v := 2) dL_law_781 rfl ?_
  refine aj.iaddN (a := 6 * k) (b := 2) dL_law_782 rfl rfl ?_
  refine aj.sci hX (j := (6 * k) + 2) rfl (by omega) hL dL_law_783 ?_
  refine aj.callE1 (d' := 5) (bc := bc) (bs := bs) (kc := 0) (ks := 0) (As := [.int (xs ((6 * k) + 1)), .int (xs ((6 * k) + 2))]) (rest := [.int _]) dL_law_784 v_L_97 li_X12_touches hg1.obR rfl rfl rfl (Nat.le_of_ble_eq_true rfl) (Nat.le_of_ble_eq_true rfl) (q_touches ((xs ((6 * k) + 1))) ((xs ((6 * k) + 2))) hg1.2.2.2.2.1 hB) (fun M2 hM => ?_)
  obtain ⟨hg2, hk2⟩ := hg1.r hM
  refine aj.icmp_eq (tgt := 1694) dL_law_787 rfl (fun c787 => ?_) (fun c787 => ?_)
  · refine aj.pick [0, 1, 2, 3] rfl ?_
    exact hn M2 ⟨t, n, V0, W0, R, I, A, L, hg2, (hs.kp (hk1.trans hk2)).more (by omega) hkT⟩
  · exact absurd (rfl) c787
theorem lc_mean {G : zG} {l : Launch} {nm : String} {a b bS Ls k : Nat} {xs : Nat → Int32} {M : zM} {Q : Option Value → zM → Prop} {bc bs : Nat}  (hX : zX G bS Ls xs) (hL : Ls < 2 ^ 31) (hk6 : 6 * k + 6 ≤ Ls) (hkT : 100 * (k + 1) < 2 ^ 24) (hSt : lS a b M k) (hn : ∀ M', lS a b M' (k + 1) → aj G l (kL nm) 84 1694 [(3, .int (nI (6 * k))), (0, .ref bS), (1, .ref a), (2, .ref b)] [] M' bc bs Q) : aj G l (kL nm) 84 792 [(3, .int (nI (6 * k))), (0, .ref bS), (1, .ref a), (2, .ref b)] [] M bc bs Q := by
  obtain ⟨t, n, V0, W0, R, I, A, L, hg, hs⟩ := hSt
  obtain ⟨T, sl, ol, hH⟩ := hs.cH
  have hB := hH.2.2.2
  have hTr := hs.2.2.1
  have h33 : ∀ j, j < 4 → bd (A 33 j) 40 := fun j hj => (hTr j hj).1
  have hI := hs.2.1.2.1
  have h28 := hisR_b hI
  have hkW := hg.2.2.2.1
  refine aj.aload_n dL_law_792 rfl ?_
  refine aj.aload_n dL_law_793 rfl ?_
  refine aj.iload_n dL_law_794 rfl ?_
  refine aj.iconst (v := 1) dL_law_795 rfl ?_
  refine aj.iaddN (a := 6 * k) (b := 1) dL_law_796 rfl rfl ?_
  refine aj.sci hX (j := (6 * k) + 1) rfl (by omega) hL dL_law_797 ?_
  refine aj.aload_n dL_law_798 rfl ?_
  refine aj.iload_n dL_law_799 rfl ?_
  refine aj.iconst (v := 2) dL_law_800 rfl ?_
  refine aj.iaddN (a := 6 * k) (b := 2) dL_law_801 rfl rfl ?_
  refine aj.sci hX (j := (6 * k) + 2) rfl (by omega) hL dL_law_802 ?_
  refine aj.aload_n dL_law_803 rfl ?_
  refine aj.iload_n dL_law_804 rfl ?_
  refine aj.iconst (v := 3) dL_law_805 rfl ?_
  refine aj.iaddN (a := 6 * k) (b := 3) dL_law_806 rfl rfl ?_
  refine aj.sci hX (j := (6 * k) + 3) rfl (by omega) hL dL_law_807 ?_
  refine aj.callE1 (d' := 6) (bc := bc) (bs := bs) (kc := 0) (ks := 0) (As := [.int (xs ((6 * k) + 1)), .int (xs ((6 * k) + 2)), .int (xs ((6 * k) + 3))]) (rest := []) dL_law_808 v_L_98 li_X11_mean hg.obC rfl rfl rfl (Nat.le_of_ble_eq_true rfl) (Nat.le_of_ble_eq_true rfl) (p_mean ((xs ((6 * k) + 1))) ((xs ((6 * k) + 2))) ((xs ((6 * k) + 3))) hkW hH ) (fun M1 hM => ?_)
  obtain ⟨hg1, hk1⟩ := hg.c hM rfl
  refine aj.aload_n dL_law_811 rfl ?_
  refine aj.aload_n dL_law_812 rfl ?_
  refine aj.iload_n dL_law_813 rfl ?_
  refine aj.iconst (v := 1) dL_law_814 rfl ?_
  refine aj.iaddN (a := 6 * k) (b := 1) dL_law_815 rfl rfl ?_
  refine aj.sci hX (j := (6 * k) + 1) rfl (by omega) hL dL_law_816 ?_
  refine aj.aload_n dL_law_817 rfl ?_
  refine aj.iload_n dL_law_818 rfl ?_
  refine aj.iconst (v := 2) dL_law_819 rfl ?_
  refine aj.iaddN (a := 6 * k) (b := 2) dL_law_820 rfl rfl ?_
  refine aj.sci hX (j := (6 * k) + 2) rfl (by omega) hL dL_law_821 ?_
  refine aj.aload_n dL_law_822 rfl ?_
  refine aj.iload_n dL_law_823 rfl ?_
  refine aj.iconst (v := 3) dL_law_824 rfl ?_
  refine aj.iaddN (a := 6 * k) (b := 3) dL_law_825 rfl rfl ?_
  refine aj.sci hX (j := (6 * k) + 3) rfl (by omega) hL dL_law_826 ?_
  refine aj.callE1 (d' := 10) (bc := bc) (bs := bs) (kc := 0) (ks := 0) (As := [.int (xs ((6 * k) + 1)), .int (xs ((6 * k) + 2)), .int (xs ((6 * k) + 3))]) (rest := [.int _]) dL_law_827 v_L_101 li_X12_mean hg1.obR rfl rfl rfl (Nat.le_of_ble_eq_true rfl) (Nat.le_of_ble_eq_true rfl) (q_mean ((xs ((6 * k) + 1))) ((xs ((6 * k) + 2))) ((xs ((6 * k) + 3))) hg1.2.2.2.2.1 hB) (fun M2 hM => ?_)
  obtain ⟨hg2, hk2⟩ := hg1.r hM
  refine aj.icmp_eq (tgt := 1694) dL_law_830 rfl (fun c830 => ?_) (fun c830 => ?_)
  · refine aj.pick [0, 1, 2, 3] rfl ?_
    exact hn M2 ⟨t, n, V0, W0, R, I, A, L, hg2, (hs.kp (hk1.trans hk2)).more (by omega) hkT⟩
  · exact absurd (rfl) c830
theorem lc_bestAim {G : zG} {l : Launch} {nm : String} {a b bS Ls k : Nat} {xs : Nat → Int32} {M : zM} {Q : Option Value → zM → Prop} {bc bs : Nat}  (hX : zX G bS Ls xs) (hL : Ls < 2 ^ 31) (hk6 : 6 * k + 6 ≤ Ls) (hkT : 100 * (k + 1) < 2 ^ 24) (hSt : lS a b M k) (hn : ∀ M', lS a b M' (k + 1) → aj G l (kL nm) 84 1694 [(3, .int (nI (6 * k))), (0, .ref bS), (1, .ref a), (2, .ref b)] [] M' bc bs Q) : aj G l (kL nm) 84 835 [(3, .int (nI (6 * k))), (0, .ref bS), (1, .ref a), (2, .ref b)] [] M bc bs Q := by
  obtain ⟨t, n, V0, W0, R, I, A, L, hg, hs⟩ := hSt
  obtain ⟨T, sl, ol, hH⟩ := hs.cH
  have hB := hH.2.2.2
  have hTr := hs.2.2.1
  have h33 : ∀ j, j < 4 → bd (A 33 j) 40 := fun j hj => (hTr j hj).1
  have hI := hs.2.1.2.1
  have h28 := hisR_b hI
  have hkW := hg.2.2.2.1
  refine aj.aload_n dL_law_835 rfl ?_
  refine aj.aload_n dL_law_836 rfl ?_
  refine aj.iload_n dL_law_837 rfl ?_
  refine aj.iconst (v := 1) dL_law_838 rfl ?_
  refine aj.iaddN (a := 6 * k) (b := 1) dL_law_839 rfl rfl ?_
  refine aj.sci hX (j := (6 * k) + 1) rfl (by omega) hL dL_law_840 ?_
  refine aj.callE1 (d' := 6) (bc := bc) (bs := bs) (kc := 0) (ks := 0) (As := [.int (xs ((6 * k) + 1))]) (rest := []) dL_law_841 v_L_102 li_X11_bestAim hg.obC rfl rfl rfl (Nat.le_of_ble_eq_true rfl) (Nat.le_of_ble_eq_true rfl) (p_bestAim ((xs ((6 * k) + 1))) hkW hH ) (fun M1 hM => ?_)
  obtain ⟨hg1, hk1⟩ := hg.c hM rfl
  refine aj.aload_n dL_law_844 rfl ?_
  refine aj.aload_n dL_law_845 rfl ?_
  refine aj.iload_n dL_law_846 rfl ?_
  refine aj.iconst (v := 1) dL_law_847 rfl ?_
  refine aj.iaddN (a := 6 * k) (b := 1) dL_law_848 rfl rfl ?_
  refine aj.sci hX (j := (6 * k) + 1) rfl (by omega) hL dL_law_849 ?_
  refine aj.callE1 (d' := 6) (bc := bc) (bs := bs) (kc := 0) (ks := 0) (As := [.int (xs ((6 * k) + 1))]) (rest := [.int _]) dL_law_850 v_L_105 li_X12_bestAim hg1.obR rfl rfl rfl (Nat.le_of_ble_eq_true rfl) (Nat.le_of_ble_eq_true rfl) (q_bestAim ((xs ((6 * k) + 1))) hg1.2.2.2.2.1 hB) (fun M2 hM => ?_)
  obtain ⟨hg2, hk2⟩ := hg1.r hM
  refine aj.icmp_eq (tgt := 1694) dL_law_853 rfl (fun c853 => ?_) (fun c853 => ?_)
  · refine aj.pick [0, 1, 2, 3] rfl ?_
    exact hn M2 ⟨t, n, V0, W0, R, I, A, L, hg2, (hs.kp (hk1.trans hk2)).more (by omega) hkT⟩
  · exact absurd (rfl) c853
theorem lc_careful {G : zG} {l : Launch} {nm : String} {a b bS Ls k : Nat} {xs : Nat → Int32} {M : zM} {Q : Option Value → zM → Prop} {bc bs : Nat}  (hX : zX G bS Ls xs) (hL : Ls < 2 ^ 31) (hk6 : 6 * k + 6 ≤ Ls) (hkT : 100 * (k + 1) < 2 ^ 24) (hSt : lS a b M k) (hn : ∀ M', lS a b M' (k + 1) → aj G l (kL nm) 84 1694 [(3, .int (nI (6 * k))), (0, .ref bS), (1, .ref a), (2, .ref b)] [] M' bc bs Q) : aj G l (kL nm) 84 858 [(3, .int (nI (6 * k))), (0, .ref bS), (1, .ref a), (2, .ref b)] [] M bc bs Q := by
  obtain ⟨t, n, V0, W0, R, I, A, L, hg, hs⟩ := hSt
  obtain ⟨T, sl, ol, hH⟩ := hs.cH
  have hB := hH.2.2.2
  have hTr := hs.2.2.1
  have h33 : ∀ j, j < 4 → bd (A 33 j) 40 := fun j hj => (hTr j hj).1
  have hI := hs.2.1.2.1
  have h28 := hisR_b hI
  have hkW := hg.2.2.2.1
  refine aj.aload_n dL_law_858 rfl ?_
  refine aj.aload_n dL_law_859 rfl ?_
  refine aj.iload_n dL_law_860 rfl ?_
  refine aj.iconst (v := 1) dL_law_861 rfl ?_
  refine aj.iaddN (a := 6 * k) (b := 1) dL_law_862 rfl rfl ?_
  refine aj.sci hX (j := (6 * k) + 1) rfl (by omega) hL dL_law_863 ?_
  refine aj.callE1 (d' := 6) (bc := bc) (bs := bs) (kc := 0) (ks := 0) (As := [.int (xs ((6 * k) + 1))]) (rest := []) dL_law_864 v_L_106 li_X11_careful hg.obC rfl rfl rfl (Nat.le_of_ble_eq_true rfl) (Nat.le_of_ble_eq_true rfl) (p_careful ((xs ((6 * k) + 1))) hkW hH ) (fun M1 hM => ?_)
  obtain ⟨hg1, hk1⟩ := hg.c hM rfl
  refine aj.aload_n dL_law_867 rfl ?_
  refine aj.aload_n dL_law_868 rfl ?_
  refine aj.iload_n dL_law_869 rfl ?_
  refine aj.iconst (v := 1) dL_law_870 rfl ?_
  refine aj.iaddN (a := 6 * k) (b := 1) dL_law_871 rfl rfl ?_
  refine aj.sci hX (j := (6 * k) + 1) rfl (by omega) hL dL_law_872 ?_
  refine aj.callE1 (d' := 5) (bc := bc) (bs := bs) (kc := 0) (ks := 0) (As := [.int (xs ((6 * k) + 1))]) (rest := [.int _]) dL_law_873 v_L_109 li_X12_careful hg1.obR rfl rfl rfl (Nat.le_of_ble_eq_true rfl) (Nat.le_of_ble_eq_true rfl) (q_careful ((xs ((6 * k) + 1))) hg1.2.2.2.2.1 hB) (fun M2 hM => ?_)
  obtain ⟨hg2, hk2⟩ := hg1.r hM
  refine aj.icmp_eq (tgt := 1694) dL_law_876 rfl (fun c876 => ?_) (fun c876 => ?_)
  · refine aj.pick [0, 1, 2, 3] rfl ?_
    exact hn M2 ⟨t, n, V0, W0, R, I, A, L, hg2, (hs.kp (hk1.trans hk2)).more (by omega) hkT⟩
  · exact absurd (rfl) c876
theorem lc_edge {G : zG} {l : Launch} {nm : String} {a b bS Ls k : Nat} {xs : Nat → Int32} {M : zM} {Q : Option Value → zM → Prop} {bc bs : Nat}  (hX : zX G bS Ls xs) (hL : Ls < 2 ^ 31) (hk6 : 6 * k + 6 ≤ Ls) (hkT : 100 * (k + 1) < 2 ^ 24) (hSt : lS a b M k) (hn : ∀ M', lS a b M' (k + 1) → aj G l (kL nm) 84 1694 [(3, .int (nI (6 * k))), (0, .ref bS), (1, .ref a), (2, .ref b)] [] M' bc bs Q) : aj G l (kL nm) 84 881 [(3, .int (nI (6 * k))), (0, .ref bS), (1, .ref a), (2, .ref b)] [] M bc bs Q := by
  obtain ⟨t, n, V0, W0, R, I, A, L, hg, hs⟩ := hSt
  obtain ⟨T, sl, ol, hH⟩ := hs.cH
  have hB := hH.2.2.2
  have hTr := hs.2.2.1
  have h33 : ∀ j, j < 4 → bd (A 33 j) 40 := fun j hj => (hTr j hj).1
  have hI := hs.2.1.2.1
  have h28 := hisR_b hI
  have hkW := hg.2.2.2.1
  refine aj.aload_n dL_law_881 rfl ?_
  refine aj.aload_n dL_law_882 rfl ?_
  refine aj.iload_n dL_law_883 rfl ?_
  refine aj.iconst (v := 1) dL_law_884 rfl ?_
  refine aj.iaddN (a := 6 * k) (b := 1) dL_law_885 rfl rfl ?_
  refine aj.sci hX (j := (6 * k) + 1) rfl (by omega) hL dL_law_886 ?_
  refine aj.callE1 (d' := 6) (bc := bc) (bs := bs) (kc := 0) (ks := 0) (As := [.int (xs ((6 * k) + 1))]) (rest := []) dL_law_887 v_L_110 li_X11_edge hg.obC rfl rfl rfl (Nat.le_of_ble_eq_true rfl) (Nat.le_of_ble_eq_true rfl) (p_edge ((xs ((6 * k) + 1))) hkW hH ) (fun M1 hM => ?_)
  obtain ⟨hg1, hk1⟩ := hg.c hM rfl
  refine aj.aload_n dL_law_890 rfl ?_
  refine aj.aload_n dL_law_891 rfl ?_
  refine aj.iload_n dL_law_892 rfl ?_
  refine aj.iconst (v := 1) dL_law_893 rfl ?_
  refine aj.iaddN (a := 6 * k) (b := 1) dL_law_894 rfl rfl ?_
  refine aj.sci hX (j := (6 * k) + 1) rfl (by omega) hL dL_law_895 ?_
  refine aj.callE1 (d' := 5) (bc := bc) (bs := bs) (kc := 0) (ks := 0) (As := [.int (xs ((6 * k) + 1))]) (rest := [.int _]) dL_law_896 v_L_113 li_X12_edge hg1.obR rfl rfl rfl (Nat.le_of_ble_eq_true rfl) (Nat.le_of_ble_eq_true rfl) (q_edge ((xs ((6 * k) + 1))) hg1.2.2.2.2.1 hB) (fun M2 hM => ?_)
  obtain ⟨hg2, hk2⟩ := hg1.r hM
  refine aj.icmp_eq (tgt := 1694) dL_law_899 rfl (fun c899 => ?_) (fun c899 => ?_)
  · refine aj.pick [0, 1, 2, 3] rfl ?_
    exact hn M2 ⟨t, n, V0, W0, R, I, A, L, hg2, (hs.kp (hk1.trans hk2)).more (by omega) hkT⟩
  · exact absurd (rfl) c899
theorem lc_dares {G : zG} {l : Launch} {nm : String} {a b bS Ls k : Nat} {xs : Nat → Int32} {M : zM} {Q : Option Value → zM → Prop} {bc bs : Nat}  (hX : zX G bS Ls xs) (hL : Ls < 2 ^ 31) (hk6 : 6 * k + 6 ≤ Ls) (hkT : 100 * (k + 1) < 2 ^ 24) (hSt : lS a b M k) (hn : ∀ M', lS a b M' (k + 1) → aj G l (kL nm) 84 1694 [(3, .int (nI (6 * k))), (0, .ref bS), (1, .ref a), (2, .ref b)] [] M' bc bs Q) : aj G l (kL nm) 84 904 [(3, .int (nI (6 * k))), (0, .ref bS), (1, .ref a), (2, .ref b)] [] M bc bs Q := by
  obtain ⟨t, n, V0, W0, R, I, A, L, hg, hs⟩ := hSt
  obtain ⟨T, sl, ol, hH⟩ := hs.cH
  have hB := hH.2.2.2
  have hTr := hs.2.2.1
  have h33 : ∀ j, j < 4 → bd (A 33 j) 40 := fun j hj => (hTr j hj).1
  have hI := hs.2.1.2.1
  have h28 := hisR_b hI
  have hkW := hg.2.2.2.1
  refine aj.aload_n dL_law_904 rfl ?_
  refine aj.aload_n dL_law_905 rfl ?_
  refine aj.iload_n dL_law_906 rfl ?_
  refine aj.iconst (v := 1) dL_law_907 rfl ?_
  refine aj.iaddN (a := 6 * k) (b := 1) dL_law_908 rfl rfl ?_
  refine aj.sci hX (j := (6 * k) + 1) rfl (by omega) hL dL_law_909 ?_
  refine aj.callE1 (d' := 6) (bc := bc) (bs := bs) (kc := 0) (ks := 0) (As := [.int (xs ((6 * k) + 1))]) (rest := []) dL_law_910 v_L_114 li_X11_dares hg.obC rfl rfl rfl (Nat.le_of_ble_eq_true rfl) (Nat.le_of_ble_eq_true rfl) (p_dares ((xs ((6 * k) + 1))) hkW hH ) (fun M1 hM => ?_)
  obtain ⟨hg1, hk1⟩ := hg.c hM rfl
  refine aj.aload_n dL_law_913 rfl ?_
  refine aj.aload_n dL_law_914 rfl ?_
  refine aj.iload_n dL_law_915 rfl ?_
  refine aj.iconst (v := 1) dL_law_916 rfl ?_
  refine aj.iaddN (a := 6 * k) (b := 1) dL_law_917 rfl rfl ?_
  refine aj.sci hX (j := (6 * k) + 1) rfl (by omega) hL dL_law_918 ?_
  refine aj.callE1 (d' := 6) (bc := bc) (bs := bs) (kc := 0) (ks := 0) (As := [.int (xs ((6 * k) + 1))]) (rest := [.int _]) dL_law_919 v_L_117 li_X12_dares hg1.obR rfl rfl rfl (Nat.le_of_ble_eq_true rfl) (Nat.le_of_ble_eq_true rfl) (q_dares ((xs ((6 * k) + 1))) hg1.2.2.2.2.1 hB) (fun M2 hM => ?_)
  obtain ⟨hg2, hk2⟩ := hg1.r hM
  refine aj.icmp_eq (tgt := 1694) dL_law_922 rfl (fun c922 => ?_) (fun c922 => ?_)
  · refine aj.pick [0, 1, 2, 3] rfl ?_
    exact hn M2 ⟨t, n, V0, W0, R, I, A, L, hg2, (hs.kp (hk1.trans hk2)).more (by omega) hkT⟩
  · exact absurd (rfl) c922
theorem lc_leaves {G : zG} {l : Launch} {nm : String} {a b bS Ls k : Nat} {xs : Nat → Int32} {M : zM} {Q : Option Value → zM → Prop} {bc bs : Nat}  (hX : zX G bS Ls xs) (hL : Ls < 2 ^ 31) (hk6 : 6 * k + 6 ≤ Ls) (hkT : 100 * (k + 1) < 2 ^ 24) (hSt : lS a b M k) (hn : ∀ M', lS a b M' (k + 1) → aj G l (kL nm) 84 1694 [(3, .int (nI (6 * k))), (0, .ref bS), (1, .ref a), (2, .ref b)] [] M' bc bs Q) : aj G l (kL nm) 84 960 [(3, .int (nI (6 * k))), (0, .ref bS), (1, .ref a), (2, .ref b)] [] M bc bs Q := by
  obtain ⟨t, n, V0, W0, R, I, A, L, hg, hs⟩ := hSt
  obtain ⟨T, sl, ol, hH⟩ := hs.cH
  have hB := hH.2.2.2
  have hTr := hs.2.2.1
  have h33 : ∀ j, j < 4 → bd (A 33 j) 40 := fun j hj => (hTr j hj).1
  have hI := hs.2.1.2.1
  have h28 := hisR_b hI
  have hkW := hg.2.2.2.1
  refine aj.aload_n dL_law_960 rfl ?_
  refine aj.aload_n dL_law_961 rfl ?_
  refine aj.iload_n dL_law_962 rfl ?_
  refine aj.iconst (v := 1) dL_law_963 rfl ?_
  refine aj.iaddN (a := 6 * k) (b := 1) dL_law_964 rfl rfl ?_
  refine aj.sci hX (j := (6 * k) + 1) rfl (by omega) hL dL_law_965 ?_
  refine aj.aload_n dL_law_966 rfl ?_
  refine aj.iload_n dL_law_967 rfl ?_
  refine aj.iconst (v := 2) dL_law_968 rfl ?_
  refine aj.iaddN (a := 6 * k) (b := 2) dL_law_969 rfl rfl ?_
  refine aj.sci hX (j := (6 * k) + 2) rfl (by omega) hL dL_law_970 ?_
  refine aj.callE1 (d' := 6) (bc := bc) (bs := bs) (kc := 0) (ks := 0) (As := [.int (xs ((6 * k) + 1)), .int (xs ((6 * k) + 2))]) (rest := []) dL_law_971 v_L_122 li_X11_leaves hg.obC rfl rfl rfl (Nat.le_of_ble_eq_true rfl) (Nat.le_of_ble_eq_true rfl) (p_leaves ((xs ((6 * k) + 1))) ((xs ((6 * k) + 2))) hkW hH ) (fun M1 hM => ?_)
  obtain ⟨hg1, hk1⟩ := hg.c hM rfl
  refine aj.aload_n dL_law_974 rfl ?_
  refine aj.aload_n dL_law_975 rfl ?_
  refine aj.iload_n dL_law_976 rfl ?_
  refine aj.iconst (v := 1) dL_law_977 rfl ?_
  refine aj.iaddN (a := 6 * k) (b := 1) dL_law_978 rfl rfl ?_
  refine aj.sci hX (j := (6 * k) + 1) rfl (by omega) hL dL_law_979 ?_
  refine aj.aload_n dL_law_980 rfl ?_
  refine aj.iload_n dL_law_981 rfl ?_
  refine aj.iconst (v := 2) dL_law_982 rfl ?_
  refine aj.iaddN (a := 6 * k) (b := 2) dL_law_983 rfl rfl ?_
  refine aj.sci hX (j := (6 * k) + 2) rfl (by omega) hL dL_law_984 ?_
  refine aj.callE1 (d' := 5) (bc := bc) (bs := bs) (kc := 0) (ks := 0) (As := [.int (xs ((6 * k) + 1)), .int (xs ((6 * k) + 2))]) (rest := [.int _]) dL_law_985 v_L_125 li_X12_leaves hg1.obR rfl rfl rfl (Nat.le_of_ble_eq_true rfl) (Nat.le_of_ble_eq_true rfl) (q_leaves ((xs ((6 * k) + 1))) ((xs ((6 * k) + 2))) hg1.2.2.2.2.1 hB) (fun M2 hM => ?_)
  obtain ⟨hg2, hk2⟩ := hg1.r hM
  refine aj.icmp_eq (tgt := 1694) dL_law_988 rfl (fun c988 => ?_) (fun c988 => ?_)
  · refine aj.pick [0, 1, 2, 3] rfl ?_
    exact hn M2 ⟨t, n, V0, W0, R, I, A, L, hg2, (hs.kp (hk1.trans hk2)).more (by omega) hkT⟩
  · exact absurd (rfl) c988
theorem lc_greedy {G : zG} {l : Launch} {nm : String} {a b bS Ls k : Nat} {xs : Nat → Int32} {M : zM} {Q : Option Value → zM → Prop} {bc bs : Nat}  (hX : zX G bS Ls xs) (hL : Ls < 2 ^ 31) (hk6 : 6 * k + 6 ≤ Ls) (hkT : 100 * (k + 1) < 2 ^ 24) (hSt : lS a b M k) (hn : ∀ M', lS a b M' (k + 1) → aj G l (kL nm) 84 1694 [(3, .int (nI (6 * k))), (0, .ref bS), (1, .ref a), (2, .ref b)] [] M' bc bs Q) : aj G l (kL nm) 84 993 [(3, .int (nI (6 * k))), (0, .ref bS), (1, .ref a), (2, .ref b)] [] M bc bs Q := by
  obtain ⟨t, n, V0, W0, R, I, A, L, hg, hs⟩ := hSt
  obtain ⟨T, sl, ol, hH⟩ := hs.cH
  have hB := hH.2.2.2
  have hTr := hs.2.2.1
  have h33 : ∀ j, j < 4 → bd (A 33 j) 40 := fun j hj => (hTr j hj).1
  have hI := hs.2.1.2.1
  have h28 := hisR_b hI
  have hkW := hg.2.2.2.1
  refine aj.aload_n dL_law_993 rfl ?_
  refine aj.callE1 (d' := 6) (bc := bc) (bs := bs) (kc := 0) (ks := 0) (As := []) (rest := []) dL_law_994 v_L_126 li_X11_greedy hg.obC rfl rfl rfl (Nat.le_of_ble_eq_true rfl) (Nat.le_of_ble_eq_true rfl) (p_greedy  hkW hH ) (fun M1 hM => ?_)
  obtain ⟨hg1, hk1⟩ := hg.c hM rfl
  refine aj.aload_n dL_law_997 rfl ?_
  refine aj.callE1 (d' := 6) (bc := bc) (bs := bs) (kc := 0) (ks := 0) (As := []) (rest := [.int _]) dL_law_998 v_L_129 li_X12_greedy hg1.obR rfl rfl rfl (Nat.le_of_ble_eq_true rfl) (Nat.le_of_ble_eq_true rfl) (q_greedy  hg1.2.2.2.2.1 hB) (fun M2 hM => ?_)
  obtain ⟨hg2, hk2⟩ := hg1.r hM
  refine aj.icmp_eq (tgt := 1694) dL_law_1001 rfl (fun c1001 => ?_) (fun c1001 => ?_)
  · refine aj.pick [0, 1, 2, 3] rfl ?_
    exact hn M2 ⟨t, n, V0, W0, R, I, A, L, hg2, (hs.kp (hk1.trans hk2)).more (by omega) hkT⟩
  · exact absurd (rfl) c1001
theorem lc_leads {G : zG} {l : Launch} {nm : String} {a b bS Ls k : Nat} {xs : Nat → Int32} {M : zM} {Q : Option Value → zM → Prop} {bc bs : Nat}  (hX : zX G bS Ls xs) (hL : Ls < 2 ^ 31) (hk6 : 6 * k + 6 ≤ Ls) (hkT : 100 * (k + 1) < 2 ^ 24) (hSt : lS a b M k) (hn : ∀ M', lS a b M' (k + 1) → aj G l (kL nm) 84 1694 [(3, .int (nI (6 * k))), (0, .ref bS), (1, .ref a), (2, .ref b)] [] M' bc bs Q) : aj G l (kL nm) 84 746 [(3, .int (nI (6 * k))), (0, .ref bS), (1, .ref a), (2, .ref b)] [] M bc bs Q := by
  obtain ⟨t, n, V0, W0, R, I, A, L, hg, hs⟩ := hSt
  obtain ⟨T, sl, ol, hH⟩ := hs.cH
  have hB := hH.2.2.2
  have hTr := hs.2.2.1
  have h33 : ∀ j, j < 4 → bd (A 33 j) 40 := fun j hj => (hTr j hj).1
  have hI := hs.2.1.2.1
  have h28 := hisR_b hI
  have hkW := hg.2.2.2.1
  refine aj.aload_n dL_law_746 rfl ?_
  refine aj.callE1 (d' := 1) (bc := bc) (bs := bs) (kc := 0) (ks := 0) (As := []) (rest := []) dL_law_747 v_L_90 li_X11_leads hg.obC rfl rfl rfl (Nat.le_of_ble_eq_true rfl) (Nat.le_of_ble_eq_true rfl) (p_leads  hkW hH ) (fun M1 hM => ?_)
  obtain ⟨hg1, hk1⟩ := hg.c hM rfl
  refine aj.aload_n dL_law_750 rfl ?_
  refine aj.callE1 (d' := 0) (bc := bc) (bs := bs) (kc := 0) (ks := 0) (As := []) (rest := [.int _]) dL_law_751 v_L_93 li_X12_leads hg1.obR rfl rfl rfl (Nat.le_of_ble_eq_true rfl) (Nat.le_of_ble_eq_true rfl) (q_leads  hg1.2.2.2.2.1 hB) (fun M2 hM => ?_)
  obtain ⟨hg2, hk2⟩ := hg1.r hM
  refine aj.icmp_eq (tgt := 1694) dL_law_754 rfl (fun c754 => ?_) (fun c754 => ?_)
  · refine aj.pick [0, 1, 2, 3] rfl ?_
    exact hn M2 ⟨t, n, V0, W0, R, I, A, L, hg2, (hs.kp (hk1.trans hk2)).more (by omega) hkT⟩
  · exact absurd (rfl) c754
theorem lc_guards {G : zG} {l : Launch} {nm : String} {a b bS Ls k : Nat} {xs : Nat → Int32} {M : zM} {Q : Option Value → zM → Prop} {bc bs : Nat}  (hX : zX G bS Ls xs) (hL : Ls < 2 ^ 31) (hk6 : 6 * k + 6 ≤ Ls) (hkT : 100 * (k + 1) < 2 ^ 24) (hSt : lS a b M k) (hn : ∀ M', lS a b M' (k + 1) → aj G l (kL nm) 84 1694 [(3, .int (nI (6 * k))), (0, .ref bS), (1, .ref a), (2, .ref b)] [] M' bc bs Q) : aj G l (kL nm) 84 1442 [(3, .int (nI (6 * k))), (0, .ref bS), (1, .ref a), (2, .ref b)] [] M bc bs Q := by
  obtain ⟨t, n, V0, W0, R, I, A, L, hg, hs⟩ := hSt
  obtain ⟨T, sl, ol, hH⟩ := hs.cH
  have hB := hH.2.2.2
  have hTr := hs.2.2.1
  have h33 : ∀ j, j < 4 → bd (A 33 j) 40 := fun j hj => (hTr j hj).1
  have hI := hs.2.1.2.1
  have h28 := hisR_b hI
  have hkW := hg.2.2.2.1
  refine aj.aload_n dL_law_1442 rfl ?_
  refine aj.aload_n dL_law_1443 rfl ?_
  refine aj.iload_n dL_law_1444 rfl ?_
  refine aj.iconst (v := 1) dL_law_1445 rfl ?_
  refine aj.iaddN (a := 6 * k) (b := 1) dL_law_1446 rfl rfl ?_
  refine aj.sci hX (j := (6 * k) + 1) rfl (by omega) hL dL_law_1447 ?_
  refine aj.callE1 (d' := 6) (bc := bc) (bs := bs) (kc := 0) (ks := 0) (As := [.int (xs ((6 * k) + 1))]) (rest := []) dL_law_1448 v_L_176 li_X11_guards hg.obC rfl rfl rfl (Nat.le_of_ble_eq_true rfl) (Nat.le_of_ble_eq_true rfl) (p_guards ((xs ((6 * k) + 1))) hkW hH ) (fun M1 hM => ?_)
  obtain ⟨hg1, hk1⟩ := hg.c hM rfl
  refine aj.aload_n dL_law_1451 rfl ?_
  refine aj.aload_n dL_law_1452 rfl ?_
  refine aj.iload_n dL_law_1453 rfl ?_
  refine aj.iconst (v := 1) dL_law_1454 rfl ?_
  refine aj.iaddN (a := 6 * k) (b := 1) dL_law_1455 rfl rfl ?_
  refine aj.sci hX (j := (6 * k) + 1) rfl (by omega) hL dL_law_1456 ?_
  refine aj.callE1 (d' := 5) (bc := bc) (bs := bs) (kc := 0) (ks := 0) (As := [.int (xs ((6 * k) + 1))]) (rest := [.int _]) dL_law_1457 v_L_179 li_X12_guards hg1.obR rfl rfl rfl (Nat.le_of_ble_eq_true rfl) (Nat.le_of_ble_eq_true rfl) (q_guards ((xs ((6 * k) + 1))) hg1.2.2.2.2.1 hB) (fun M2 hM => ?_)
  obtain ⟨hg2, hk2⟩ := hg1.r hM
  refine aj.icmp_eq (tgt := 1694) dL_law_1460 rfl (fun c1460 => ?_) (fun c1460 => ?_)
  · refine aj.pick [0, 1, 2, 3] rfl ?_
    exact hn M2 ⟨t, n, V0, W0, R, I, A, L, hg2, (hs.kp (hk1.trans hk2)).more (by omega) hkT⟩
  · exact absurd (rfl) c1460
theorem lc_rests {G : zG} {l : Launch} {nm : String} {a b bS Ls k : Nat} {xs : Nat → Int32} {M : zM} {Q : Option Value → zM → Prop} {bc bs : Nat}  (hX : zX G bS Ls xs) (hL : Ls < 2 ^ 31) (hk6 : 6 * k + 6 ≤ Ls) (hkT : 100 * (k + 1) < 2 ^ 24) (hSt : lS a b M k) (hn : ∀ M', lS a b M' (k + 1) → aj G l (kL nm) 84 1694 [(3, .int (nI (6 * k))), (0, .ref bS), (1, .ref a), (2, .ref b)] [] M' bc bs Q) : aj G l (kL nm) 84 1409 [(3, .int (nI (6 * k))), (0, .ref bS), (1, .ref a), (2, .ref b)] [] M bc bs Q := by
  obtain ⟨t, n, V0, W0, R, I, A, L, hg, hs⟩ := hSt
  obtain ⟨T, sl, ol, hH⟩ := hs.cH
  have hB := hH.2.2.2
  have hTr := hs.2.2.1
  have h33 : ∀ j, j < 4 → bd (A 33 j) 40 := fun j hj => (hTr j hj).1
  have hI := hs.2.1.2.1
  have h28 := hisR_b hI
  have hkW := hg.2.2.2.1
  refine aj.aload_n dL_law_1409 rfl ?_
  refine aj.aload_n dL_law_1410 rfl ?_
  refine aj.iload_n dL_law_1411 rfl ?_
  refine aj.iconst (v := 1) dL_law_1412 rfl ?_
  refine aj.iaddN (a := 6 * k) (b := 1) dL_law_1413 rfl rfl ?_
  refine aj.sci hX (j := (6 * k) + 1) rfl (by omega) hL dL_law_1414 ?_
  refine aj.aload_n dL_law_1415 rfl ?_
  refine aj.iload_n dL_law_1416 rfl ?_
  refine aj.iconst (v := 2) dL_law_1417 rfl ?_
  refine aj.iaddN (a := 6 * k) (b := 2) dL_law_1418 rfl rfl ?_
  refine aj.sci hX (j := (6 * k) + 2) rfl (by omega) hL dL_law_1419 ?_
  refine aj.callE1 (d' := 6) (bc := bc) (bs := bs) (kc := 0) (ks := 0) (As := [.int (xs ((6 * k) + 1)), .int (xs ((6 * k) + 2))]) (rest := []) dL_law_1420 v_L_172 li_X11_rests hg.obC rfl rfl rfl (Nat.le_of_ble_eq_true rfl) (Nat.le_of_ble_eq_true rfl) (p_rests ((xs ((6 * k) + 1))) ((xs ((6 * k) + 2))) hkW hH ) (fun M1 hM => ?_)
  obtain ⟨hg1, hk1⟩ := hg.c hM rfl
  refine aj.aload_n dL_law_1423 rfl ?_
  refine aj.aload_n dL_law_1424 rfl ?_
  refine aj.iload_n dL_law_1425 rfl ?_
  refine aj.iconst (v := 1) dL_law_1426 rfl ?_
  refine aj.iaddN (a := 6 * k) (b := 1) dL_law_1427 rfl rfl ?_
  refine aj.sci hX (j := (6 * k) + 1) rfl (by omega) hL dL_law_1428 ?_
  refine aj.aload_n dL_law_1429 rfl ?_
  refine aj.iload_n dL_law_1430 rfl ?_
  refine aj.iconst (v := 2) dL_law_1431 rfl ?_
  refine aj.iaddN (a := 6 * k) (b := 2) dL_law_1432 rfl rfl ?_
  refine aj.sci hX (j := (6 * k) + 2) rfl (by omega) hL dL_law_1433 ?_
  refine aj.callE1 (d' := 6) (bc := bc) (bs := bs) (kc := 0) (ks := 0) (As := [.int (xs ((6 * k) + 1)), .int (xs ((6 * k) + 2))]) (rest := [.int _]) dL_law_1434 v_L_175 li_X12_rests hg1.obR rfl rfl rfl (Nat.le_of_ble_eq_true rfl) (Nat.le_of_ble_eq_true rfl) (q_rests ((xs ((6 * k) + 1))) ((xs ((6 * k) + 2))) hg1.2.2.2.2.1 hB) (fun M2 hM => ?_)
  obtain ⟨hg2, hk2⟩ := hg1.r hM
  refine aj.icmp_eq (tgt := 1694) dL_law_1437 rfl (fun c1437 => ?_) (fun c1437 => ?_)
  · refine aj.pick [0, 1, 2, 3] rfl ?_
    exact hn M2 ⟨t, n, V0, W0, R, I, A, L, hg2, (hs.kp (hk1.trans hk2)).more (by omega) hkT⟩
  · exact absurd (rfl) c1437
theorem lc_expects {G : zG} {l : Launch} {nm : String} {a b bS Ls k : Nat} {xs : Nat → Int32} {M : zM} {Q : Option Value → zM → Prop} {bc bs : Nat}  (hX : zX G bS Ls xs) (hL : Ls < 2 ^ 31) (hk6 : 6 * k + 6 ≤ Ls) (hkT : 100 * (k + 1) < 2 ^ 24) (hSt : lS a b M k) (hn : ∀ M', lS a b M' (k + 1) → aj G l (kL nm) 84 1694 [(3, .int (nI (6 * k))), (0, .ref bS), (1, .ref a), (2, .ref b)] [] M' bc bs Q) : aj G l (kL nm) 84 1366 [(3, .int (nI (6 * k))), (0, .ref bS), (1, .ref a), (2, .ref b)] [] M bc bs Q := by
  obtain ⟨t, n, V0, W0, R, I, A, L, hg, hs⟩ := hSt
  obtain ⟨T, sl, ol, hH⟩ := hs.cH
  have hB := hH.2.2.2
  have hTr := hs.2.2.1
  have h33 : ∀ j, j < 4 → bd (A 33 j) 40 := fun j hj => (hTr j hj).1
  have hI := hs.2.1.2.1
  have h28 := hisR_b hI
  have hkW := hg.2.2.2.1
  refine aj.aload_n dL_law_1366 rfl ?_
  refine aj.aload_n dL_law_1367 rfl ?_
  refine aj.iload_n dL_law_1368 rfl ?_
  refine aj.iconst (v := 1) dL_law_1369 rfl ?_
  refine aj.iaddN (a := 6 * k) (b := 1) dL_law_1370 rfl rfl ?_
  refine aj.sci hX (j := (6 * k) + 1) rfl (by omega) hL dL_law_1371 ?_
  refine aj.aload_n dL_law_1372 rfl ?_
  refine aj.iload_n dL_law_1373 rfl ?_
  refine aj.iconst (v := 2) dL_law_1374 rfl ?_
  refine aj.iaddN (a := 6 * k) (b := 2) dL_law_1375 rfl rfl ?_
  refine aj.sci hX (j := (6 * k) + 2) rfl (by omega) hL dL_law_1376 ?_
  refine aj.aload_n dL_law_1377 rfl ?_
  refine aj.iload_n dL_law_1378 rfl ?_
  refine aj.iconst (v := 3) dL_law_1379 rfl ?_
  refine aj.iaddN (a := 6 * k) (b := 3) dL_law_1380 rfl rfl ?_
  refine aj.sci hX (j := (6 * k) + 3) rfl (by omega) hL dL_law_1381 ?_
  refine aj.callE1 (d' := 6) (bc := bc) (bs := bs) (kc := 0) (ks := 0) (As := [.int (xs ((6 * k) + 1)), .int (xs ((6 * k) + 2)), .int (xs ((6 * k) + 3))]) (rest := []) dL_law_1382 v_L_168 li_X11_expects hg.obC rfl rfl rfl (Nat.le_of_ble_eq_true rfl) (Nat.le_of_ble_eq_true rfl) (p_expects ((xs ((6 * k) + 1))) ((xs ((6 * k) + 2))) ((xs ((6 * k) + 3))) hkW hH ) (fun M1 hM => ?_)
  obtain ⟨hg1, hk1⟩ := hg.c hM rfl
  refine aj.aload_n dL_law_1385 rfl ?_
  refine aj.aload_n dL_law_1386 rfl ?_
  refine aj.iload_n dL_law_1387 rfl ?_
  refine aj.iconst (v := 1) dL_law_1388 rfl ?_
  refine aj.iaddN (a := 6 * k) (b := 1) dL_law_1389 rfl rfl ?_
  refine aj.sci hX (j := (6 * k) + 1) rfl (by omega) hL dL_law_1390 ?_
  refine aj.aload_n dL_law_1391 rfl ?_
  refine aj.iload_n dL_law_1392 rfl ?_
  refine aj.iconst (v := 2) dL_law_1393 rfl ?_
  refine aj.iaddN (a := 6 * k) (b := 2) dL_law_1394 rfl rfl ?_
  refine aj.sci hX (j := (6 * k) + 2) rfl (by omega) hL dL_law_1395 ?_
  refine aj.aload_n dL_law_1396 rfl ?_
  refine aj.iload_n dL_law_1397 rfl ?_
  refine aj.iconst (v := 3) dL_law_1398 rfl ?_
  refine aj.iaddN (a := 6 * k) (b := 3) dL_law_1399 rfl rfl ?_
  refine aj.sci hX (j := (6 * k) + 3) rfl (by omega) hL dL_law_1400 ?_
  refine aj.callE1 (d' := 6) (bc := bc) (bs := bs) (kc := 0) (ks := 0) (As := [.int (xs ((6 * k) + 1)), .int (xs ((6 * k) + 2)), .int (xs ((6 * k) + 3))]) (rest := [.int _]) dL_law_1401 v_L_171 li_X12_expects hg1.obR rfl rfl rfl (Nat.le_of_ble_eq_true rfl) (Nat.le_of_ble_eq_true rfl) (q_expects ((xs ((6 * k) + 1))) ((xs ((6 * k) + 2))) ((xs ((6 * k) + 3))) hg1.2.2.2.2.1 hB) (fun M2 hM => ?_)
  obtain ⟨hg2, hk2⟩ := hg1.r hM
  refine aj.icmp_eq (tgt := 1694) dL_law_1404 rfl (fun c1404 => ?_) (fun c1404 => ?_)
  · refine aj.pick [0, 1, 2, 3] rfl ?_
    exact hn M2 ⟨t, n, V0, W0, R, I, A, L, hg2, (hs.kp (hk1.trans hk2)).more (by omega) hkT⟩
  · exact absurd (rfl) c1404
theorem lc_winds {G : zG} {l : Launch} {nm : String} {a b bS Ls k : Nat} {xs : Nat → Int32} {M : zM} {Q : Option Value → zM → Prop} {bc bs : Nat}  (hX : zX G bS Ls xs) (hL : Ls < 2 ^ 31) (hk6 : 6 * k + 6 ≤ Ls) (hkT : 100 * (k + 1) < 2 ^ 24) (hSt : lS a b M k) (hn : ∀ M', lS a b M' (k + 1) → aj G l (kL nm) 84 1694 [(3, .int (nI (6 * k))), (0, .ref bS), (1, .ref a), (2, .ref b)] [] M' bc bs Q) : aj G l (kL nm) 84 1257 [(3, .int (nI (6 * k))), (0, .ref bS), (1, .ref a), (2, .ref b)] [] M bc bs Q := by
  obtain ⟨t, n, V0, W0, R, I, A, L, hg, hs⟩ := hSt
  obtain ⟨T, sl, ol, hH⟩ := hs.cH
  have hB := hH.2.2.2
  have hTr := hs.2.2.1
  have h33 : ∀ j, j < 4 → bd (A 33 j) 40 := fun j hj => (hTr j hj).1
  have hI := hs.2.1.2.1
  have h28 := hisR_b hI
  have hkW := hg.2.2.2.1
  refine aj.aload_n dL_law_1257 rfl ?_
  refine aj.aload_n dL_law_1258 rfl ?_
  refine aj.iload_n dL_law_1259 rfl ?_
  refine aj.iconst (v := 1) dL_law_1260 rfl ?_
  refine aj.iaddN (a := 6 * k) (b := 1) dL_law_1261 rfl rfl ?_
  refine aj.sci hX (j := (6 * k) + 1) rfl (by omega) hL dL_law_1262 ?_
  refine aj.aload_n dL_law_1263 rfl ?_
  refine aj.iload_n dL_law_1264 rfl ?_
  refine aj.iconst (v := 2) dL_law_1265 rfl ?_
  refine aj.iaddN (a := 6 * k) (b := 2) dL_law_1266 rfl rfl ?_
  refine aj.sci hX (j := (6 * k) + 2) rfl (by omega) hL dL_law_1267 ?_
  refine aj.aload_n dL_law_1268 rfl ?_
  refine aj.iload_n dL_law_1269 rfl ?_
  refine aj.iconst (v := 3) dL_law_1270 rfl ?_
  refine aj.iaddN (a := 6 * k) (b := 3) dL_law_1271 rfl rfl ?_
  refine aj.sci hX (j := (6 * k) + 3) rfl (by omega) hL dL_law_1272 ?_
  refine aj.callE1 (d' := 8) (bc := bc) (bs := bs) (kc := 0) (ks := 0) (As := [.int (xs ((6 * k) + 1)), .int (xs ((6 * k) + 2)), .int (xs ((6 * k) + 3))]) (rest := []) dL_law_1273 v_L_156 li_X11_winds hg.obC rfl rfl rfl (Nat.le_of_ble_eq_true rfl) (Nat.le_of_ble_eq_true rfl) (p_winds ((xs ((6 * k) + 1))) ((xs ((6 * k) + 2))) ((xs ((6 * k) + 3))) hkW hH hTr rfl) (fun M1 hM => ?_)
  obtain ⟨hg1, hk1⟩ := hg.c hM rfl
  refine aj.aload_n dL_law_1276 rfl ?_
  refine aj.aload_n dL_law_1277 rfl ?_
  refine aj.iload_n dL_law_1278 rfl ?_
  refine aj.iconst (v := 1) dL_law_1279 rfl ?_
  refine aj.iaddN (a := 6 * k) (b := 1) dL_law_1280 rfl rfl ?_
  refine aj.sci hX (j := (6 * k) + 1) rfl (by omega) hL dL_law_1281 ?_
  refine aj.aload_n dL_law_1282 rfl ?_
  refine aj.iload_n dL_law_1283 rfl ?_
  refine aj.iconst (v := 2) dL_law_1284 rfl ?_
  refine aj.iaddN (a := 6 * k) (b := 2) dL_law_1285 rfl rfl ?_
  refine aj.sci hX (j := (6 * k) + 2) rfl (by omega) hL dL_law_1286 ?_
  refine aj.aload_n dL_law_1287 rfl ?_
  refine aj.iload_n dL_law_1288 rfl ?_
  refine aj.iconst (v := 3) dL_law_1289 rfl ?_
  refine aj.iaddN (a := 6 * k) (b := 3) dL_law_1290 rfl rfl ?_
  refine aj.sci hX (j := (6 * k) + 3) rfl (by omega) hL dL_law_1291 ?_
  refine aj.callE1 (d' := 4) (bc := bc) (bs := bs) (kc := 0) (ks := 0) (As := [.int (xs ((6 * k) + 1)), .int (xs ((6 * k) + 2)), .int (xs ((6 * k) + 3))]) (rest := [.int _]) dL_law_1292 v_L_159 li_X12_winds hg1.obR rfl rfl rfl (Nat.le_of_ble_eq_true rfl) (Nat.le_of_ble_eq_true rfl) (q_winds ((xs ((6 * k) + 1))) ((xs ((6 * k) + 2))) ((xs ((6 * k) + 3))) hg1.2.2.2.2.1 h33 hB) (fun M2 hM => ?_)
  obtain ⟨hg2, hk2⟩ := hg1.r hM
  refine aj.icmp_eq (tgt := 1694) dL_law_1295 rfl (fun c1295 => ?_) (fun c1295 => ?_)
  · refine aj.pick [0, 1, 2, 3] rfl ?_
    exact hn M2 ⟨t, n, V0, W0, R, I, A, L, hg2, (hs.kp (hk1.trans hk2)).more (by omega) hkT⟩
  · exact absurd (rfl) c1295
theorem lc_fault {G : zG} {l : Launch} {nm : String} {a b bS Ls k : Nat} {xs : Nat → Int32} {M : zM} {Q : Option Value → zM → Prop} {bc bs : Nat}  (hX : zX G bS Ls xs) (hL : Ls < 2 ^ 31) (hk6 : 6 * k + 6 ≤ Ls) (hkT : 100 * (k + 1) < 2 ^ 24) (hSt : lS a b M k) (hn : ∀ M', lS a b M' (k + 1) → aj G l (kL nm) 84 1694 [(3, .int (nI (6 * k))), (0, .ref bS), (1, .ref a), (2, .ref b)] [] M' bc bs Q) : aj G l (kL nm) 84 318 [(3, .int (nI (6 * k))), (0, .ref bS), (1, .ref a), (2, .ref b)] [] M bc bs Q := by
  obtain ⟨t, n, V0, W0, R, I, A, L, hg, hs⟩ := hSt
  obtain ⟨T, sl, ol, hH⟩ := hs.cH
  have hB := hH.2.2.2
  have hTr := hs.2.2.1
  have h33 : ∀ j, j < 4 → bd (A 33 j) 40 := fun j hj => (hTr j hj).1
  have hI := hs.2.1.2.1
  have h28 := hisR_b hI
  have hkW := hg.2.2.2.1
  refine aj.aload_n dL_law_318 rfl ?_
  refine aj.aload_n dL_law_319 rfl ?_
  refine aj.iload_n dL_law_320 rfl ?_
  refine aj.iconst (v := 1) dL_law_321 rfl ?_
  refine aj.iaddN (a := 6 * k) (b := 1) dL_law_322 rfl rfl ?_
  refine aj.sci hX (j := (6 * k) + 1) rfl (by omega) hL dL_law_323 ?_
  refine aj.callE1 (d' := 0) (bc := bc) (bs := bs) (kc := 0) (ks := 0) (As := [.int (xs ((6 * k) + 1))]) (rest := []) dL_law_324 v_L_23 li_X11_fault hg.obC rfl rfl rfl (Nat.le_of_ble_eq_true rfl) (Nat.le_of_ble_eq_true rfl) (p_fault ((xs ((6 * k) + 1))) hkW hH ) (fun M1 hM => ?_)
  obtain ⟨hg1, hk1⟩ := hg.c hM rfl
  refine aj.aload_n dL_law_327 rfl ?_
  refine aj.aload_n dL_law_328 rfl ?_
  refine aj.iload_n dL_law_329 rfl ?_
  refine aj.iconst (v := 1) dL_law_330 rfl ?_
  refine aj.iaddN (a := 6 * k) (b := 1) dL_law_331 rfl rfl ?_
  refine aj.sci hX (j := (6 * k) + 1) rfl (by omega) hL dL_law_332 ?_
  refine aj.callE1 (d' := 0) (bc := bc) (bs := bs) (kc := 0) (ks := 0) (As := [.int (xs ((6 * k) + 1))]) (rest := [.int _]) dL_law_333 v_L_26 li_X12_fault hg1.obR rfl rfl rfl (Nat.le_of_ble_eq_true rfl) (Nat.le_of_ble_eq_true rfl) (q_fault ((xs ((6 * k) + 1))) hg1.2.2.2.2.1 ) (fun M2 hM => ?_)
  obtain ⟨hg2, hk2⟩ := hg1.r hM
  refine aj.icmp_eq (tgt := 1694) dL_law_336 rfl (fun c336 => ?_) (fun c336 => ?_)
  · refine aj.pick [0, 1, 2, 3] rfl ?_
    exact hn M2 ⟨t, n, V0, W0, R, I, A, L, hg2, (hs.kp (hk1.trans hk2)).more (by omega) hkT⟩
  · exact absurd (by rw [hs.2.2.2.2.2.1, hs.2.2.2.2.2.2.1]) c336
theorem lc_count {G : zG} {l : Launch} {nm : String} {a b bS Ls k : Nat} {xs : Nat → Int32} {M : zM} {Q : Option Value → zM → Prop} {bc bs : Nat}  (hX : zX G bS Ls xs) (hL : Ls < 2 ^ 31) (hk6 : 6 * k + 6 ≤ Ls) (hkT : 100 * (k + 1) < 2 ^ 24) (hSt : lS a b M k) (hn : ∀ M', lS a b M' (k + 1) → aj G l (kL nm) 84 1694 [(3, .int (nI (6 * k))), (0, .ref bS), (1, .ref a), (2, .ref b)] [] M' bc bs Q) : aj G l (kL nm) 84 1671 [(3, .int (nI (6 * k))), (0, .ref bS), (1, .ref a), (2, .ref b)] [] M bc bs Q := by
  obtain ⟨t, n, V0, W0, R, I, A, L, hg, hs⟩ := hSt
  obtain ⟨T, sl, ol, hH⟩ := hs.cH
  have hB := hH.2.2.2
  have hTr := hs.2.2.1
  have h33 : ∀ j, j < 4 → bd (A 33 j) 40 := fun j hj => (hTr j hj).1
  have hI := hs.2.1.2.1
  have h28 := hisR_b hI
  have hkW := hg.2.2.2.1
  refine aj.aload_n dL_law_1671 rfl ?_
  refine aj.aload_n dL_law_1672 rfl ?_
  refine aj.iload_n dL_law_1673 rfl ?_
  refine aj.iconst (v := 1) dL_law_1674 rfl ?_
  refine aj.iaddN (a := 6 * k) (b := 1) dL_law_1675 rfl rfl ?_
  refine aj.sci hX (j := (6 * k) + 1) rfl (by omega) hL dL_law_1676 ?_
  refine aj.callE1 (d' := 0) (bc := bc) (bs := bs) (kc := 0) (ks := 0) (As := [.int (xs ((6 * k) + 1))]) (rest := []) dL_law_1677 v_L_203 li_X11_count hg.obC rfl rfl rfl (Nat.le_of_ble_eq_true rfl) (Nat.le_of_ble_eq_true rfl) (p_count ((xs ((6 * k) + 1))) hkW hH ) (fun M1 hM => ?_)
  obtain ⟨hg1, hk1⟩ := hg.c hM rfl
  refine aj.aload_n dL_law_1680 rfl ?_
  refine aj.aload_n dL_law_1681 rfl ?_
  refine aj.iload_n dL_law_1682 rfl ?_
  refine aj.iconst (v := 1) dL_law_1683 rfl ?_
  refine aj.iaddN (a := 6 * k) (b := 1) dL_law_1684 rfl rfl ?_
  refine aj.sci hX (j := (6 * k) + 1) rfl (by omega) hL dL_law_1685 ?_
  refine aj.callE1 (d' := 0) (bc := bc) (bs := bs) (kc := 0) (ks := 0) (As := [.int (xs ((6 * k) + 1))]) (rest := [.int _]) dL_law_1686 v_L_206 li_X12_count hg1.obR rfl rfl rfl (Nat.le_of_ble_eq_true rfl) (Nat.le_of_ble_eq_true rfl) (q_count ((xs ((6 * k) + 1))) hg1.2.2.2.2.1 ) (fun M2 hM => ?_)
  obtain ⟨hg2, hk2⟩ := hg1.r hM
  refine aj.icmp_eq (tgt := 1694) dL_law_1689 rfl (fun c1689 => ?_) (fun c1689 => ?_)
  · refine aj.pick [0, 1, 2, 3] rfl ?_
    exact hn M2 ⟨t, n, V0, W0, R, I, A, L, hg2, (hs.kp (hk1.trans hk2)).more (by omega) hkT⟩
  · exact absurd (by
  by_cases hq : inR (xs ((6 * k) + 1)) 0 11
  · rw [if_pos hq, if_pos hq]
    exact cnt_eq hs (inR_bd (n := 11) hq (by decide)).2
  · rw [if_neg hq, if_neg hq]) c1689
