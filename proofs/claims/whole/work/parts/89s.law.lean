/-- among the first i steps is the aim's -/
abbrev nmd (g : Nat → Int32) (i : Nat) : Prop := ¬ ∀ j, j < i → ¬ g j = -14
theorem zb_fit (p : Prop) [Decidable p] : fits .boolean (.int (zb p)) = true := by
  rcases zb_01 p with h | h <;> rw [h] <;> rfl
theorem enc_14 {c : Nat} : enc c = -14 ↔ c = 1004 := by
  have hm : (-14 : Int32).toInt = -14 := by decide
  constructor
  · intro h
    unfold enc at h
    split at h
    · rename_i q
      have e := congrArg Int32.toInt h
      rw [nI_toInt (by omega), hm] at e
      omega
    · split at h
      · rename_i q1 q
        have hw : cwN (c - 1000) ≤ 2000 := by unfold cwN; (repeat' split) <;> omega
        have h3 : nI (cwN (c - 1000)) = nI 3 := by
          have e2 : (-11 : Int32) - nI (cwN (c - 1000)) = -11 - nI 3 := h.trans (by decide)
          exact (Int32.sub_right_inj _).mp e2
        have h4 := (nI_eq (by omega) (by decide)).mp h3
        unfold cwN at h4
        (repeat' split at h4) <;> omega
      · exfalso
        revert h
        (repeat' split) <;> decide
  · intro h
    rw [h]
    decide
theorem law_lp {G : zG} {l : Launch} {M : zM} {t q n : Nat} {g : Nat → Int32} (hn : n < 2 ^ 30) (ht : M.1 t = some (.inr (2, [.ref q, .int 0]))) (hq : M.1 q = some (.inl (0, n, .inl g))) : ∀ (m i : Nat), i + m = n → aj G l kX2_init 1 13 [(3, .int (nI i)), (2, .int (zb (nmd g i))), (0, .ref t), (1, .ref q)] [] M 0 0 (zv (fun M' => M' = z_up M t (.inr (2, [.ref q, .int (zb (nmd g n))])))) := by
  intro m
  induction m with
  | zero =>
    intro i hi
    have e : i = n := by omega
    refine aj.iload_n dX2_init_13 rfl ?_
    refine aj.aload_n dX2_init_14 rfl ?_
    refine aj.alen (v := nI n) dX2_init_15 hq (by decide) rfl ?_
    refine aj.icmp_geN (a := i) (b := n) (tgt := 43) dX2_init_16 rfl rfl (by omega) (by omega) rfl (fun c16 => ?_) (fun c16 => ?_)
    · refine aj.aload_n dX2_init_43 rfl ?_
      refine aj.iload_n dX2_init_44 rfl ?_
      rw [e]
      refine aj.putF (i := 1) (cq := (RX2, TX2, 2)) dX2_init_45 ht rfl (Nat.le_of_ble_eq_true rfl) w689 rfl rfl rfl (zb_nar _) (zb_fit _) (Nat.le_of_ble_eq_true rfl) ?_
      exact aj.vret rfl dX2_init_48 ⟨rfl, rfl⟩
    · exact absurd c16 (by omega)
  | succ m ih =>
    intro i hi
    refine aj.iload_n dX2_init_13 rfl ?_
    refine aj.aload_n dX2_init_14 rfl ?_
    refine aj.alen (v := nI n) dX2_init_15 hq (by decide) rfl ?_
    refine aj.icmp_geN (a := i) (b := n) (tgt := 43) dX2_init_16 rfl rfl (by omega) (by omega) rfl (fun c16 => ?_) (fun c16 => ?_)
    · exact absurd c16 (by omega)
    · refine aj.iload_n dX2_init_19 rfl ?_
      refine aj.if_neB (tgt := 31) dX2_init_20 rfl (fun c20 => ?_) (fun c20 => ?_)
      · refine aj.iconst (v := 1) dX2_init_31 rfl ?_
        refine aj.goto (tgt := 36) dX2_init_32 rfl ?_
        refine aj.istore_n (lv' := [(2, .int 1), (3, .int (nI i)), (0, .ref t), (1, .ref q)]) dX2_init_36 (Nat.le_of_ble_eq_true rfl) rfl ?_
        refine aj.iincN (a := i) (c := 1) (lv' := [(3, .int (nI (i + 1))), (2, .int 1), (0, .ref t), (1, .ref q)]) dX2_init_37 rfl (Nat.le_of_ble_eq_true rfl) rfl rfl rfl ?_
        refine aj.goto (tgt := 13) dX2_init_40 rfl ?_
        refine aj.pick [0, 1, 2, 3] rfl ?_
        have e1 := ih (i + 1) (by omega)
        rw [zb_t (show nmd g (i + 1) from fun z => c20 (fun j hj => z j (by omega)))] at e1
        exact e1
      · refine aj.aload_n dX2_init_23 rfl ?_
        refine aj.iload_n dX2_init_24 rfl ?_
        refine aj.iaL ⟨g, hq, fun _ _ => rfl⟩ (j := i) dX2_init_25 rfl (by omega) (by omega) ?_
        refine aj.bipush (v := (-14)) dX2_init_26 rfl ?_
        refine aj.icmp_ne (tgt := 35) dX2_init_28 rfl (fun c28 => ?_) (fun c28 => ?_)
        · refine aj.iconst (v := 0) dX2_init_35 rfl ?_
          refine aj.istore_n (lv' := [(2, .int 0), (3, .int (nI i)), (0, .ref t), (1, .ref q)]) dX2_init_36 (Nat.le_of_ble_eq_true rfl) rfl ?_
          refine aj.iincN (a := i) (c := 1) (lv' := [(3, .int (nI (i + 1))), (2, .int 0), (0, .ref t), (1, .ref q)]) dX2_init_37 rfl (Nat.le_of_ble_eq_true rfl) rfl rfl rfl ?_
          refine aj.goto (tgt := 13) dX2_init_40 rfl ?_
          refine aj.pick [0, 1, 2, 3] rfl ?_
          have e1 := ih (i + 1) (by omega)
          rw [zb_f (show ¬ nmd g (i + 1) from fun z => z (fun j hj => if e : j = i then (by rw [e]; exact c28) else (Decidable.not_not.mp c20) j (by omega)))] at e1
          exact e1
        · refine aj.iconst (v := 1) dX2_init_31 rfl ?_
          refine aj.goto (tgt := 36) dX2_init_32 rfl ?_
          refine aj.istore_n (lv' := [(2, .int 1), (3, .int (nI i)), (0, .ref t), (1, .ref q)]) dX2_init_36 (Nat.le_of_ble_eq_true rfl) rfl ?_
          refine aj.iincN (a := i) (c := 1) (lv' := [(3, .int (nI (i + 1))), (2, .int 1), (0, .ref t), (1, .ref q)]) dX2_init_37 rfl (Nat.le_of_ble_eq_true rfl) rfl rfl rfl ?_
          refine aj.goto (tgt := 13) dX2_init_40 rfl ?_
          refine aj.pick [0, 1, 2, 3] rfl ?_
          have e1 := ih (i + 1) (by omega)
          rw [zb_t (show nmd g (i + 1) from fun z => z i (by omega) c28)] at e1
          exact e1
theorem k_lawInit {G : zG} {l : Launch} {M : zM} {t q n : Nat} {g : Nat → Int32} (hn : n < 2 ^ 30) (htq : q ≠ t) (ht : M.1 t = some (.inr (2, [.null, .int 0]))) (hq : M.1 q = some (.inl (0, n, .inl g))) : am G l kX2_init 1 [.ref t, .ref q] M 0 0 (zv (fun M' => M' = z_up M t (.inr (2, [.ref q, .int (zb (nmd g n))])))) := by
  refine am.of (by decide) (Nat.le_of_ble_eq_true rfl) ?_
  refine aj.aload_n dX2_init_0 rfl ?_
  refine aj.objInit dX2_init_1 w687 w147 w148 (Nat.le_of_ble_eq_true rfl) (Nat.le_of_ble_eq_true rfl) ?_
  refine aj.aload_n dX2_init_4 rfl ?_
  refine aj.aload_n dX2_init_5 rfl ?_
  refine aj.putF (i := 0) (cq := (RX2, TX2, 2)) dX2_init_6 ht rfl (Nat.le_of_ble_eq_true rfl) w688 rfl rfl rfl rfl rfl (Nat.le_of_ble_eq_true rfl) ?_
  refine aj.iconst (v := 0) dX2_init_9 rfl ?_
  refine aj.istore_n (lv' := [(2, .int 0), (0, .ref t), (1, .ref q)]) dX2_init_10 (Nat.le_of_ble_eq_true rfl) rfl ?_
  refine aj.iconst (v := 0) dX2_init_11 rfl ?_
  refine aj.istore_n (lv' := [(3, .int 0), (2, .int 0), (0, .ref t), (1, .ref q)]) dX2_init_12 (Nat.le_of_ble_eq_true rfl) rfl ?_
  refine aj.pick [0, 1, 2, 3] rfl ?_
  have e1 := law_lp (l := l) (G := G) (M := z_up M t (.inr (2, [.ref q, .int 0]))) hn (z_up_s _ _ _) ((z_up_n _ _ htq).trans hq) n 0 (by omega)
  rw [z_uu, zb_f (show ¬ nmd g 0 from fun z => z (fun j hj => absurd hj (Nat.not_lt_zero j)))] at e1
  exact e1
theorem kA.nwO {a : Nat} {M0 M : zM} {V : Nat → Nat → Int32} {W : Nat → Nat → Int64} {R : Nat → Nat → Option Nat} (h : kA a M0 M V W R) (hfr : a + 87 ≤ M0.2) (c : zC) : kA a (z_nw M0 c) (z_nw M c) V W R := by
  obtain ⟨h1, h2, h3⟩ := h
  refine ⟨by show M.2 + 1 = M0.2 + 1; rw [h1], fun q hq => ?_, fun i hi => ?_⟩
  · show (if q = M.2 then some c else M.1 q) = if q = M0.2 then some c else M0.1 q
    rw [h1, h2 q hq]
  · have hi2 := hi
    unfold kIn at hi2
    rw [z_nw_n M c (show a + i ≠ M.2 by omega)]
    exact h3 i hi
theorem kA.upO {a : Nat} {M0 M : zM} {V : Nat → Nat → Int32} {W : Nat → Nat → Int64} {R : Nat → Nat → Option Nat} (h : kA a M0 M V W R) {t : Nat} (ht : kOut a t) (c : zC) : kA a (z_up M0 t c) (z_up M t c) V W R := by
  obtain ⟨h1, h2, h3⟩ := h
  refine ⟨h1, fun q hq => ?_, fun i hi => ?_⟩
  · show (if q = t then some c else M.1 q) = if q = t then some c else M0.1 q
    rw [h2 q hq]
  · have hi2 := hi
    unfold kIn at hi2
    unfold kOut at ht
    rw [z_up_n M c (show a + i ≠ t by omega)]
    exact h3 i hi
theorem z_upnw2 (M : zM) (c c' c2 : zC) : z_up (z_nw (z_nw M c) c2) M.2 c' = z_nw (z_nw M c') c2 := by
  unfold z_up z_nw
  congr 1
  funext x
  show (if x = M.2 then some c' else if x = M.2 + 1 then some c2 else if x = M.2 then some c else M.1 x) = if x = M.2 + 1 then some c2 else if x = M.2 then some c' else M.1 x
  by_cases h : x = M.2
  · rw [if_pos h, if_neg (by omega), if_pos h]
  · rw [if_neg h, if_neg h, if_neg h]
/-- how many steps a law has, if it is read -/
def lwK (st : Bool) (S : pS) : Nat := match dLw st S with
  | .inl _ => 900
  | .inr (cs, _) => cs.length
theorem uC.of {V0 V1 : Nat → Nat → Int32} {T : List tkT} (h : uC V0 T) (e : ∀ q, q ≠ 2 → V1 q = V0 q) : uC V1 T := ⟨h.1, by rw [e 3 (by decide)]; exact h.2.1, fun i hi => by rw [e 4 (by decide)]; exact h.2.2.1 i hi, h.2.2.2⟩
theorem uS_cl {T : List tkT} {tr : Prop} {S : pS} {v2 v5 : Nat → Int32} (h : uS T tr S v2 v5) : uS T False (pCl S) v2 v5 := by
  match S, h with
  | .inl e, h => exact h
  | .inr (cs, ts), h => exact ⟨h.1, h.2.1, h.2.2.1, by have := h.2.2.2.1; show 0 + ts.length ≤ 901; omega, fun z => z.elim⟩
theorem u_readLaw {G : zG} {l : Launch} {a : Nat} {M0 M : zM} {V0 : Nat → Nat → Int32} {W : Nat → Nat → Int64} {R : Nat → Nat → Option Nat} {T : List tkT} {S : pS} (hcl : zCl G) (hC : uC V0 T) (st : Bool) {x : Int32} (hx : x = if st then 1 else 0) (hN : pN0 S) {h0 : Nat} (hh : pHd S = h0) (h98 : h0 < 98) (h24 : h0 ≠ 24) (hfr : a + 87 ≤ M0.2) (hs : pSz S ≤ 901) (hR : uW a M0 M V0 W R T False S) : am G l kX5_readLaw 59 [.ref (a + 2), .int x] M 2 (2 + lwK st S) (fun r M' => ∃ V1 c1 c2, r = some (.ref M0.2) ∧ uW a (z_nw (z_nw M0 c1) c2) M' V1 W R T False (pCl (dLw st S)) ∧ (∀ q, q ≠ 2 → V1 q = V0 q) ∧ ∀ cs ts, dLw st S = .inr (cs, ts) → ∃ g : Nat → Int32, c1 = .inr (2, [.ref (M0.2 + 1), .int (zb (1004 ∈ cs))]) ∧ c2 = .inl (0, cs.length, .inl g) ∧ ∀ j, j < cs.length → g j = enc (cs.getD j 0)) := by
  have hT := hR.tk hC
  have hn1 := pNext_lt hT hh h98 h24
  obtain ⟨V, hA, hF, h23, h22, hS⟩ := hR
  obtain ⟨cs0, t0, ts0, hSe, -⟩ := pHd_in hh h98
  have hcs0 : cs0 = [] := hN _ _ hSe
  have hx01 : x = 0 ∨ x = 1 := by rw [hx]; cases st <;> simp
  obtain ⟨V1, hV1⟩ : ∃ z, z = va_up V0 2 (upd (V0 2) 3 x) := ⟨_, rfl⟩
  have hVq : ∀ q, q ≠ 2 → V1 q = V0 q := fun q hq => by rw [hV1]; exact va_up_ne _ _ hq
  have hV3 : V1 2 3 = x := by rw [hV1, va_up_self]; exact pk_us
  have hC1 : uC V1 T := hC.of hVq
  refine am.of (by decide) (Nat.le_of_ble_eq_true rfl) ?_
  refine aj.aload_n dX5_readLaw_0 rfl ?_
  refine aj.iload_n dX5_readLaw_1 rfl ?_
  refine pX5_inStrays (i := 2) rfl hA hx01 w175 dX5_readLaw_2 (fun M hA => ?_)
  refine aj.aload_n dX5_readLaw_5 rfl ?_
  refine aj.iconst (v := 0) dX5_readLaw_6 rfl ?_
  refine pX5_stepCount (i := 2) rfl hA w174 dX5_readLaw_7 (fun M hA => ?_)
  rw [bx_uu, va_up_self] at hA
  have hR : uW a M0 M V1 W R T True S := by
    refine ⟨_, hA, fun q q2 q5 => by rw [va_up_ne _ _ q2, hVq q q2]; exact hF q q2 q5, by rw [va_up_self, pk_un (by decide), pk_us, hV3], by rw [va_up_self, pk_us]; exact ⟨rfl, by decide⟩, ?_⟩
    rw [hSe, hcs0] at hS ⊢
    obtain ⟨g4, g5, ⟨p, hp, gt, g0, g1⟩, gs, -⟩ := hS
    refine ⟨by rw [va_up_self, pk_un (by decide), pk_un (by decide)]; exact g4, by rw [va_up_self, pk_un (by decide), pk_un (by decide)]; exact g5, ⟨p, hp, gt, by rw [va_up_self, pk_un (by decide), pk_un (by decide)]; exact g0, by rw [va_up_self, pk_un (by decide), pk_un (by decide)]; exact g1⟩, gs, fun _ => ⟨by rw [va_up_self, pk_us]; rfl, fun j hj => absurd hj (Nat.not_lt_zero j)⟩⟩
  refine aj.aload_n dX5_readLaw_10 rfl ?_
  refine aj.uC0 (d' := 1) (As := []) (rest := []) hR dX5_readLaw_11 v_X5_76 li_X5_step rfl rfl rfl (Nat.le_of_ble_eq_true rfl) (Nat.le_of_ble_eq_true rfl) (u_step hC1 (by rw [hh]; exact h24) hR) (fun M hR => ?_)
  have hT := hn1.1
  have hs : pSz (pNext S) ≤ 900 := by omega
  refine aj.aload_n dX5_readLaw_14 rfl ?_
  refine aj.sipush (v := 2058) dX5_readLaw_15 rfl ?_
  refine aj.uC0 (d' := 2) (As := [.int 2058]) (rest := []) hR dX5_readLaw_18 v_X5_52 li_X5_take rfl rfl rfl (Nat.le_of_ble_eq_true rfl) (Nat.le_of_ble_eq_true rfl) (u_take hC1 31 kx31 (by decide) (by decide) (by decide) hR) (fun M hR => ?_)
  have hg0 := (pExp_G (k := 31) (by decide) (by decide)).2 _ hT
  have hT := hg0.1
  have hs := Nat.le_trans hg0.2.1 hs
  cases st with
  | false =>
    have hx1 : x = 0 := hx
    refine aj.iload_n dX5_readLaw_21 rfl ?_
    refine aj.if_eq (tgt := 33) dX5_readLaw_22 rfl (fun c22 => ?_) (fun c22 => ?_)
    · refine aj.aload_n dX5_readLaw_33 rfl ?_
      refine aj.iconst (v := 0) dX5_readLaw_34 rfl ?_
      refine aj.uC0 (d' := 58) (As := [.int 0]) (rest := []) hR dX5_readLaw_35 v_X5_124 li_X5_readTruth rfl rfl rfl (Nat.le_of_ble_eq_true rfl) (Nat.le_of_ble_eq_true rfl) ((u_all hC1 false (by rw [hV3, hx]) 6 (by decide)).2.1 _ _ _ rfl hs hR) (fun M hR => ?_)
      rw [← dLw_f S] at hR
      obtain ⟨V2, hA, hF2, h232, h222, hS2⟩ := hR
      obtain ⟨m, hm, hm9⟩ : ∃ m, V2 2 2 = nI m ∧ m ≤ 900 := ⟨_, h222.1, h222.2⟩
      have hmk : m ≤ lwK false S := by
        unfold lwK
        match hD : dLw false S, hS2 with
        | .inl e, hS2 => exact hm9
        | .inr (cs, ts), hS2 =>
          have e1 := (hS2.2.2.2.2 trivial).1
          have hl := hS2.2.2.2.1
          have e2 := (nI_eq (by omega) (by omega)).mp (hm.symm.trans e1)
          show m ≤ cs.length
          omega
      have hA1 := hA.nwO hfr (.inr (2, [.null, .int 0]))
      have hM2 := hA.1
      refine aj.more (bc' := 0 + 1 + 1) (bs' := 0 + m + 2) (by decide) (by show 0 + m + 2 ≤ 2 + lwK _ S; omega) ?_
      refine aj.new (ci := 2) (cq := (RX2, TX2, 2)) (fs := [.null, .int 0]) dX5_readLaw_38 rfl w668 w669 w137 (by decide) ?_
      refine aj.dup dX5_readLaw_41 rfl ?_
      refine aj.aload_n dX5_readLaw_42 rfl ?_
      refine gX5_steps (i := 2) rfl hA1 w173 dX5_readLaw_43 ?_
      refine aj.aload_n dX5_readLaw_46 rfl ?_
      refine gX5_stepCount (i := 2) rfl hA1 w174 dX5_readLaw_47 ?_
      obtain ⟨f5, hf5, hf5e⟩ := hA1.ints (i := 5) rfl (Or.inl rfl)
      refine aj.callS (d' := 1) (kc := 1) (ks := m) (As := [.ref (a + 5), .int (V2 2 2)]) (rest := [.ref M.2, .ref M.2]) dX5_readLaw_50 v_X5_129 w671 rfl rfl (Nat.le_of_ble_eq_true rfl) (Nat.le_of_ble_eq_true rfl) (j_copyOf hcl m hm hm9 hf5 (by show a + 5 ≠ M.2 + 1; omega)) (fun r M' hM => ?_)
      obtain ⟨g, rfl, rfl, hg⟩ := hM
      show aj G l kX5_readLaw 59 _ _ (.ref (M.2 + 1) :: [.ref M.2, .ref M.2]) _ 0 0 _
      refine aj.callI (d' := 1) (As := [.ref (M.2 + 1)]) (rest := [.ref M.2]) dX5_readLaw_53 v_X5_135 rfl w685 rfl rfl rfl (Nat.le_of_ble_eq_true rfl) (Nat.le_of_ble_eq_true rfl) (k_lawInit (n := m) (g := g) (by omega) (by omega) ((z_nw_n _ _ (show M.2 ≠ M.2 + 1 by omega)).trans (z_nw_s M _)) (z_nw_s _ _)) (fun r M' hM => ?_)
      obtain ⟨rfl, rfl⟩ := hM
      rw [z_upnw2]
      refine aj.aret rfl (Or.inl ⟨_, rfl⟩) (Or.inr ⟨_, rfl⟩) dX5_readLaw_56 ⟨V1, .inr (2, [.ref (M0.2 + 1), .int (zb (nmd g m))]), .inl (0, m, .inl g), by rw [hM2], ⟨V2, ?_, hF2, h232, h222, uS_cl hS2⟩, hVq, fun cs ts hD => ?_⟩
      · rw [hM2]
        exact (hA.nwO hfr _).nwO (by show a + 87 ≤ M0.2 + 1; omega) _
      · rw [hD] at hS2
        obtain ⟨e1, e2⟩ := hS2.2.2.2.2 trivial
        have hl := hS2.2.2.2.1
        have em := (nI_eq (by omega) (by omega)).mp (hm.symm.trans e1)
        have hge : ∀ j, j < cs.length → g j = enc (cs.getD j 0) := fun j hj => by
          rw [hg j (by omega), hf5e j (by omega), e2 j hj]
          exact congrArg enc (by simp only [List.getD]; rw [List.getElem?_eq_getElem hj]; rfl)
        refine ⟨g, ?_, by rw [em], hge⟩
        rw [em]
        have hi : nmd g cs.length ↔ 1004 ∈ cs := by
          constructor
          · intro z
            refine Decidable.byContradiction (fun w => z (fun j hj h14 => w ?_))
            have e4 := enc_14.mp ((hge j hj).symm.trans h14)
            rw [← e4]
            exact getD_mem hj
          · intro z w
            obtain ⟨j, hj, ej⟩ := List.getElem_of_mem z
            refine w j hj ?_
            rw [hge j hj]
            have e5 : cs.getD j 0 = 1004 := by simp only [List.getD]; rw [List.getElem?_eq_getElem hj, ej]; rfl
            rw [e5]
            decide
        rw [zb_iff hi]
    · exact absurd hx1 c22
  | true =>
    have hx1 : x = 1 := hx
    refine aj.iload_n dX5_readLaw_21 rfl ?_
    refine aj.if_eq (tgt := 33) dX5_readLaw_22 rfl (fun c22 => ?_) (fun c22 => ?_)
    · exact absurd (hx1.symm.trans c22) (by decide)
    · refine aj.aload_n dX5_readLaw_25 rfl ?_
      refine aj.iconst (v := 0) dX5_readLaw_26 rfl ?_
      refine aj.uC0 (d' := 54) (As := [.int 0]) (rest := []) hR dX5_readLaw_27 v_X5_121 li_X5_readSum rfl rfl rfl (Nat.le_of_ble_eq_true rfl) (Nat.le_of_ble_eq_true rfl) ((u_all hC1 true (by rw [hV3, hx]) 6 (by decide)).1 _ _ _ rfl hs hR) (fun M hR => ?_)
      rw [← dLw_t S] at hR
      refine aj.goto (tgt := 38) dX5_readLaw_30 rfl ?_
      obtain ⟨V2, hA, hF2, h232, h222, hS2⟩ := hR
      obtain ⟨m, hm, hm9⟩ : ∃ m, V2 2 2 = nI m ∧ m ≤ 900 := ⟨_, h222.1, h222.2⟩
      have hmk : m ≤ lwK true S := by
        unfold lwK
        match hD : dLw true S, hS2 with
        | .inl e, hS2 => exact hm9
        | .inr (cs, ts), hS2 =>
          have e1 := (hS2.2.2.2.2 trivial).1
          have hl := hS2.2.2.2.1
          have e2 := (nI_eq (by omega) (by omega)).mp (hm.symm.trans e1)
          show m ≤ cs.length
          omega
      have hA1 := hA.nwO hfr (.inr (2, [.null, .int 0]))
      have hM2 := hA.1
      refine aj.more (bc' := 0 + 1 + 1) (bs' := 0 + m + 2) (by decide) (by show 0 + m + 2 ≤ 2 + lwK _ S; omega) ?_
      refine aj.new (ci := 2) (cq := (RX2, TX2, 2)) (fs := [.null, .int 0]) dX5_readLaw_38 rfl w668 w669 w137 (by decide) ?_
      refine aj.dup dX5_readLaw_41 rfl ?_
      refine aj.aload_n dX5_readLaw_42 rfl ?_
      refine gX5_steps (i := 2) rfl hA1 w173 dX5_readLaw_43 ?_
      refine aj.aload_n dX5_readLaw_46 rfl ?_
      refine gX5_stepCount (i := 2) rfl hA1 w174 dX5_readLaw_47 ?_
      obtain ⟨f5, hf5, hf5e⟩ := hA1.ints (i := 5) rfl (Or.inl rfl)
      refine aj.callS (d' := 1) (kc := 1) (ks := m) (As := [.ref (a + 5), .int (V2 2 2)]) (rest := [.ref M.2, .ref M.2]) dX5_readLaw_50 v_X5_129 w671 rfl rfl (Nat.le_of_ble_eq_true rfl) (Nat.le_of_ble_eq_true rfl) (j_copyOf hcl m hm hm9 hf5 (by show a + 5 ≠ M.2 + 1; omega)) (fun r M' hM => ?_)
      obtain ⟨g, rfl, rfl, hg⟩ := hM
      show aj G l kX5_readLaw 59 _ _ (.ref (M.2 + 1) :: [.ref M.2, .ref M.2]) _ 0 0 _
      refine aj.callI (d' := 1) (As := [.ref (M.2 + 1)]) (rest := [.ref M.2]) dX5_readLaw_53 v_X5_135 rfl w685 rfl rfl rfl (Nat.le_of_ble_eq_true rfl) (Nat.le_of_ble_eq_true rfl) (k_lawInit (n := m) (g := g) (by omega) (by omega) ((z_nw_n _ _ (show M.2 ≠ M.2 + 1 by omega)).trans (z_nw_s M _)) (z_nw_s _ _)) (fun r M' hM => ?_)
      obtain ⟨rfl, rfl⟩ := hM
      rw [z_upnw2]
      refine aj.aret rfl (Or.inl ⟨_, rfl⟩) (Or.inr ⟨_, rfl⟩) dX5_readLaw_56 ⟨V1, .inr (2, [.ref (M0.2 + 1), .int (zb (nmd g m))]), .inl (0, m, .inl g), by rw [hM2], ⟨V2, ?_, hF2, h232, h222, uS_cl hS2⟩, hVq, fun cs ts hD => ?_⟩
      · rw [hM2]
        exact (hA.nwO hfr _).nwO (by show a + 87 ≤ M0.2 + 1; omega) _
      · rw [hD] at hS2
        obtain ⟨e1, e2⟩ := hS2.2.2.2.2 trivial
        have hl := hS2.2.2.2.1
        have em := (nI_eq (by omega) (by omega)).mp (hm.symm.trans e1)
        have hge : ∀ j, j < cs.length → g j = enc (cs.getD j 0) := fun j hj => by
          rw [hg j (by omega), hf5e j (by omega), e2 j hj]
          exact congrArg enc (by simp only [List.getD]; rw [List.getElem?_eq_getElem hj]; rfl)
        refine ⟨g, ?_, by rw [em], hge⟩
        rw [em]
        have hi : nmd g cs.length ↔ 1004 ∈ cs := by
          constructor
          · intro z
            refine Decidable.byContradiction (fun w => z (fun j hj h14 => w ?_))
            have e4 := enc_14.mp ((hge j hj).symm.trans h14)
            rw [← e4]
            exact getD_mem hj
          · intro z w
            obtain ⟨j, hj, ej⟩ := List.getElem_of_mem z
            refine w j hj ?_
            rw [hge j hj]
            have e5 : cs.getD j 0 = 1004 := by simp only [List.getD]; rw [List.getElem?_eq_getElem hj, ej]; rfl
            rw [e5]
            decide
        rw [zb_iff hi]
