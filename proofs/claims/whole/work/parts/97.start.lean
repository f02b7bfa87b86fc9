theorem pl_at {k : Nat} (h : k < 1040) : iA 1 k = nI (dE0 k) := if_pos h
theorem iA_bd {k n : Nat} (h : k < 1040) (h2 : dE0 k ≤ n) (h3 : n < 2 ^ 31) : bd (iA 1 k) n := by
  rw [pl_at h]
  exact bd_nI h2 h3
theorem mOK_0 : mOK (iA 1) none none 0 := ⟨⟨iA_bd (by decide) (by decide) (by decide), iA_bd (by decide) (by decide) (by decide), by decide⟩, ⟨iA_bd (by decide) (by decide) (by decide), iA_bd (by decide) (by decide) (by decide), iA_bd (by decide) (by decide) (by decide)⟩, iA_bd (by decide) (by decide) (by decide), fun s hs => by
  rcases (show s = 0 ∨ s = 1 ∨ s = 2 ∨ s = 3 by omega) with rfl | rfl | rfl | rfl <;> exact iA_bd (by decide) (by decide) (by decide), fun s hs => by
  rcases (show s = 0 ∨ s = 1 ∨ s = 2 ∨ s = 3 by omega) with rfl | rfl | rfl | rfl <;> exact iA_bd (by decide) (by decide) (by decide), iA_bd (by decide) (by decide) (by decide), iA_bd (by decide) (by decide) (by decide), iA_bd (by decide) (by decide) (by decide), by decide, (rfl : iA 1 7 = 0), (rfl : iA 1 8 = 0)⟩
theorem gS_0 {a : Nat} {H : zM} (h6 : H.1 (a + 6) = some (bCl bF0 (a + 7) none none)) (h7 : H.1 (a + 7) = some (.inl (0, 4, .inl (fun _ => 0)))) : gS a H iV iW (iR a) iI iA (fun _ _ => 0) (100 * 0) := by
  have c4 : ∀ {p : Nat → Prop}, p 0 → p 1 → p 2 → p 3 → ∀ j, j < 4 → p j := fun h0 h1 h2 h3 j hj => by
    rcases (show j = 0 ∨ j = 1 ∨ j = 2 ∨ j = 3 by omega) with rfl | rfl | rfl | rfl
    · exact h0
    · exact h1
    · exact h2
    · exact h3
  have b0 : ∀ n : Nat, bd (0 : Int32) n := fun n => ⟨rfl, Nat.zero_le n⟩
  refine ⟨⟨a + 6, none, none, rfl, ⟨a + 7, 0, none, none, Or.inr (Or.inr (Or.inl rfl)), Or.inr (Or.inr (Or.inr rfl)), h6.trans ?_, ⟨_, h7, c4 rfl rfl rfl rfl⟩, trivial, trivial⟩, mOK_0⟩, ⟨⟨c4 rfl rfl rfl rfl, c4 rfl rfl rfl rfl, rfl, rfl, rfl⟩, ⟨0, by decide, iA_bd (by decide) (by decide) (by decide), rfl, rfl, fun i hi => absurd hi (by rw [show mN (iA 1 28) = 0 from rfl]; exact Nat.not_lt_zero i)⟩, fun i hi => absurd hi (by rw [show mN (iA 1 28) = 0 from rfl]; exact Nat.not_lt_zero i)⟩, fun k hk => ?_, fun i hi => ?_, ⟨rfl, b0 900, fun k _ => b0 255, fun j hj => absurd hj (by rw [show mN (iI 5) = 0 from rfl]; exact Nat.not_lt_zero j)⟩, rfl, rfl, b0 900⟩
  · rfl
  · have e : iA 32 k = -1 := if_pos hk
    refine ⟨b0 40, ?_, fun z => absurd e z⟩
    rw [zb_f (fun z => z e)]
    rcases (show k = 0 ∨ k = 1 ∨ k = 2 ∨ k = 3 by omega) with rfl | rfl | rfl | rfl <;> rfl
  · exact ⟨⟨fun _ => rfl, fun _ => rfl⟩, fun T hT => by cases hT⟩
theorem lS_0 {a : Nat} {K J : zM} (hA : kA a K K iV iW (iR a)) (hK : K.2 = a + 87) (h6 : K.1 (a + 6) = some (bCl bF0 (a + 7) none none)) (h7 : K.1 (a + 7) = some (.inl (0, 4, .inl (fun _ => 0)))) (hW : mW (a + 87) J J iI iA (fun _ _ => 0)) (hJ : J.2 = a + 87 + 20) (hx : ∀ x, x < a + 87 → J.1 x = K.1 x) (hno : ∀ x, J.2 ≤ x → J.1 x = none) : lS a (a + 87) J 0 := by
  obtain ⟨-, -, ek⟩ := hA
  refine ⟨0, 0, iV, iW, iR a, iI, iA, fun _ _ => 0, ⟨rfl, by omega, hno, ⟨iV, iW, ⟨rfl, fun _ _ => rfl, fun i hi => ?_⟩, fun _ _ => rfl, fun _ _ => rfl⟩, hW, Or.inl ⟨rfl, rfl⟩⟩, gS_0 ?_ ?_⟩
  · have hi2 := hi
    unfold kIn at hi2
    rw [hx (a + i) (by omega)]
    exact ek i hi
  · rw [hm_eq (by omega) (by omega), hx (a + 6) (by omega)]
    exact h6
  · rw [hm_eq (by omega) (by omega), hx (a + 7) (by omega)]
    exact h7
/-- the whole of the law -/
theorem law_all {G : zG} {l : Launch} {nm : String} {bS Ls : Nat} {xs : Nat → Int32} {Q : Option Value → zM → Prop} {av : Nat → Nat} {fm : Nat} (hG : zSt G av fm) (hcl : zCl G) (hX : zX G bS Ls xs) (hL : Ls < 2 ^ 30) (hQ : ∀ M' : zM, Q (some (.int 1)) M') {m N : Nat} (h1 : Ls < 6 * m + 6) (h2 : 100 * (m + 1) < 2 ^ 24) : aj G l (kL nm) 84 0 [(0, .ref bS)] [] (fun _ => none, N) (905 * m + 19 + 1 + 86 + 1) (3620 * m + 8246 + 35 + 4278 + 17) Q := by
  obtain ⟨M0, hM0⟩ : ∃ z : zM, z = (fun _ => none, N) := ⟨_, rfl⟩
  rw [← hM0]
  refine aj.new (ci := 11) (cq := (RX11, TX11, 17)) (fs := [.null, .int 0, .null, .null, .null, .null, .null, .null, .null, .null, .null, .null, .null, .null, .null, .null, .int 0]) dL_law_0 rfl w141 w142 w120 (by decide) ?_
  refine aj.dup dL_law_3 rfl ?_
  refine aj.callI (d' := 3) (kc := 86) (ks := 4278) (As := []) (rest := [.ref M0.2]) dL_law_4 v_L_9 rfl w144 rfl rfl rfl (Nat.le_of_ble_eq_true rfl) (Nat.le_of_ble_eq_true rfl) (k_initX11 (b := M0.2) (i := 0) (nB_start (M0 := M0) (M := M0) rfl)) (fun r M hM => ?_)
  obtain ⟨rfl, hN⟩ := hM
  obtain ⟨hA, hM2, c6, c7⟩ := nB_k11 hN
  refine aj.tr ?_
  obtain ⟨K, hK⟩ : ∃ z, z = trM M := ⟨_, rfl⟩
  have hK2 : K.2 = M0.2 + 87 := by rw [hK]; exact hM2
  rw [← hK] at hA c6 c7 ⊢
  refine aj.astore_n (lv' := [(1, .ref M0.2), (0, .ref bS)]) dL_law_7 (Nat.le_of_ble_eq_true rfl) rfl ?_
  refine aj.new (ci := 12) (cq := (RX12, TX12, 35)) (fs := [.int 0, .null, .null, .null, .null, .int 0, .int 0, .int 0, .int 0, .int 0, .int 0, .int 0, .int 0, .int 0, .int 0, .int 0, .null, .null, .null, .int 0, .int 0, .null, .null, .null, .null, .null, .null, .int 0, .null, .null, .null, .int 0, .null, .null, .null]) dL_law_8 rfl w1255 w1256 w130 (by decide) ?_
  refine aj.dup dL_law_11 rfl ?_
  refine aj.callI (d' := 1) (kc := 19) (ks := 8246) (As := []) (rest := [.ref K.2]) dL_law_12 v_L_12 rfl w1258 rfl rfl rfl (Nat.le_of_ble_eq_true rfl) (Nat.le_of_ble_eq_true rfl) (k_initX12 (b := K.2) (i := 0) (nB_start (M0 := K) (M := K) rfl)) (fun r M1 hM => ?_)
  obtain ⟨rfl, hN1⟩ := hM
  obtain ⟨hW, hM12, hx⟩ := nB_m12 hN1
  refine aj.tr ?_
  refine aj.astore_n (lv' := [(2, .ref K.2), (1, .ref M0.2), (0, .ref bS)]) dL_law_15 (Nat.le_of_ble_eq_true rfl) rfl ?_
  refine aj.iconst (v := 0) dL_law_16 rfl ?_
  refine aj.istore_n (lv' := [(3, .int (nI (6 * 0))), (2, .ref K.2), (1, .ref M0.2), (0, .ref bS)]) dL_law_17 (Nat.le_of_ble_eq_true rfl) rfl ?_
  refine aj.pick [0, 3, 2, 1] rfl ?_
  rw [hK2] at hW hx hM12 ⊢
  exact law_loop hG hcl hX hL hQ m 0 (trM M1) (by omega) (by omega) (lS_0 hA hK2 c6 c7 hW hM12 hx (fun x hx1 => if_neg (Nat.not_lt.mpr hx1)))
