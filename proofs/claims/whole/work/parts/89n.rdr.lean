/-- the token at hand, as the class has it -/
def pTk : pS → Int32
  | .inl _ => -1
  | .inr (_, []) => -1
  | .inr (_, t :: _) => nI (ctk t)
/-- the reader's state in the class; tr: the codes are those of the steps -/
def uS (T : List tkT) (tr : Prop) (S : pS) (v2 v5 : Nat → Int32) : Prop := match S with
  | .inl e => v2 4 = nI e.1 ∧ (1 ≤ e.1 ∧ e.1 ≤ 4) ∧ v2 5 = nI e.2 ∧ v2 1 = -1
  | .inr (cs, ts) => v2 4 = 0 ∧ v2 5 = -1 ∧ (∃ (p : Nat) (h : p < T.length), ts = T.drop p ∧ v2 0 = nI p ∧ v2 1 = nI (ctk T[p])) ∧ cs.length + ts.length ≤ 901 ∧ (tr → v2 2 = nI cs.length ∧ ∀ (k : Nat) (h : k < cs.length), v5 k = enc cs[k])
def uW (a : Nat) (M0 M : zM) (V0 : Nat → Nat → Int32) (W : Nat → Nat → Int64) (R : Nat → Nat → Option Nat) (T : List tkT) (tr : Prop) (S : pS) : Prop := ∃ V, kA a M0 M V W R ∧ (∀ q, q ≠ 2 → q ≠ 5 → V q = V0 q) ∧ V 2 3 = V0 2 3 ∧ bd (V 2 2) 900 ∧ uS T tr S (V 2) (V 5)
def uC (V0 : Nat → Nat → Int32) (T : List tkT) : Prop := T.length ≤ 901 ∧ V0 3 0 = nI T.length ∧ (∀ (i : Nat) (h : i < T.length), V0 4 i = nI (ctk T[i] * 1024 + T[i].2.2)) ∧ (∀ t ∈ T, tkV t) ∧ tkOK T
theorem tk_drop {T : List tkT} (h : tkOK T) : ∀ (p : Nat), p < T.length → tkOK (T.drop p)
  | 0, _ => h
  | p + 1, hp => by
    have ih := tk_drop h p (by omega)
    rw [List.drop_eq_getElem_cons (by omega : p < T.length)] at ih
    rcases tk_c ih with z | z
    · have e := congrArg List.length z.2
      rw [List.length_drop] at e
      have e0 : ([] : List tkT).length = 0 := rfl
      omega
    · exact z.2
section U89n
variable {a : Nat} {M0 M : zM} {V0 : Nat → Nat → Int32} {W : Nat → Nat → Int64} {R : Nat → Nat → Option Nat} {T : List tkT} {tr : Prop} {S : pS}
theorem uW.tk (hC : uC V0 T) (h : uW a M0 M V0 W R T tr S) : pT S := by
  obtain ⟨V, -, -, -, -, h⟩ := h
  match S, h with
  | .inl e, h => exact h.2.1
  | .inr (cs, ts), h =>
    obtain ⟨-, -, ⟨p, hp, rfl, -⟩, -⟩ := h
    exact tk_drop hC.2.2.2.2 p hp
theorem uW.sz (h : uW a M0 M V0 W R T tr S) : pSz S ≤ 901 := by
  obtain ⟨V, -, -, -, -, h⟩ := h
  match S, h with
  | .inl e, h => exact Nat.zero_le _
  | .inr (cs, ts), h => exact h.2.2.2.1
theorem uW.hd (hC : uC V0 T) (h : uW a M0 M V0 W R T tr S) : pHd S ≤ 99 ∧ pNm S < 1000 ∧ (pWr S = 0 ↔ pHd S < 98) ∧ pWr S ≤ 4 := by
  obtain ⟨V, -, -, -, -, h⟩ := h
  match S, h with
  | .inl e, h => exact ⟨Nat.le_refl 99, (by decide : 0 < 1000), ⟨fun q => absurd (show e.1 = 0 from q) (by have := h.2.1; omega), fun q => absurd (show 99 < 98 from q) (by decide)⟩, h.2.1.2⟩
  | .inr (cs, ts), h =>
    obtain ⟨-, -, ⟨p, hp, rfl, -⟩, -⟩ := h
    have hv := hC.2.2.2.1 _ (List.getElem_mem hp)
    have hk := hv.1
    unfold kvl at hk
    rw [List.drop_eq_getElem_cons hp]
    exact ⟨by show T[p].1 ≤ 99; omega, hv.2.1, ⟨fun _ => by show T[p].1 < 98; omega, fun _ => rfl⟩, Nat.zero_le _⟩
theorem pTk_k (hC : uC V0 T) (h : uW a M0 M V0 W R T tr S) {k : Nat} {x : Int32} (hx : x = nI (kcd k)) (hk : kvl k) (hk2 : k ≠ 23) : pTk S = x ↔ pHd S = k := by
  subst hx
  have hr := kcd_rg k (by unfold kvl at hk; omega) hk
  obtain ⟨V, -, -, -, -, h⟩ := h
  match S, h with
  | .inl e, h => exact ⟨fun z => absurd (show (-1 : Int32) = nI (kcd k) from z) (fun q => by have := nI_pos (n := kcd k) (by omega); rw [← q] at this; exact this (by decide)), fun z => by have z' : 99 = k := z; unfold kvl at hk; omega⟩
  | .inr (cs, ts), h =>
    obtain ⟨-, -, ⟨p, hp, rfl, -⟩, -⟩ := h
    have hv := hC.2.2.2.1 _ (List.getElem_mem hp)
    rw [List.drop_eq_getElem_cons hp]
    show nI (ctk T[p]) = nI (kcd k) ↔ T[p].1 = k
    rw [nI_eq (by have := ctk_le hv; omega) (by omega)]
    exact ctk_eq hv hk hk2
theorem pTk_n (hC : uC V0 T) (h : uW a M0 M V0 W R T tr S) (h23 : pHd S = 23) : pTk S = nI (pNm S) := by
  obtain ⟨V, -, -, -, -, h⟩ := h
  match S, h, h23 with
  | .inl e, h, h23 => exact absurd (show 99 = 23 from h23) (by decide)
  | .inr (cs, ts), h, h23 =>
    obtain ⟨-, -, ⟨p, hp, rfl, -⟩, -⟩ := h
    rw [List.drop_eq_getElem_cons hp] at h23 ⊢
    show nI (ctk T[p]) = nI T[p].2.1
    unfold ctk
    rw [if_pos (show T[p].1 = 23 from h23)]
theorem pTk_rg (hC : uC V0 T) (h : uW a M0 M V0 W R T tr S) : (pHd S = 23 ↔ (¬ pTk S < 0 ∧ ¬ 1000 ≤ pTk S)) ∧ (pTk S = -1 ∨ ∃ t : tkT, tkV t ∧ pHd S = t.1 ∧ pTk S = nI (ctk t)) := by
  obtain ⟨V, -, -, -, -, h⟩ := h
  match S, h with
  | .inl e, h => exact ⟨⟨fun z => absurd (show 99 = 23 from z) (by decide), fun z => absurd (show (-1 : Int32) < 0 by decide) z.1⟩, Or.inl rfl⟩
  | .inr (cs, ts), h =>
    obtain ⟨-, -, ⟨p, hp, rfl, -⟩, -⟩ := h
    have hv := hC.2.2.2.1 _ (List.getElem_mem hp)
    have hl := ctk_le hv
    rw [List.drop_eq_getElem_cons hp]
    refine ⟨?_, Or.inr ⟨T[p], hv, rfl, rfl⟩⟩
    show T[p].1 = 23 ↔ (¬ nI (ctk T[p]) < 0 ∧ ¬ nI 1000 ≤ nI (ctk T[p]))
    rw [← ctk_num hv, nI_leI (by decide) (by omega)]
    exact ⟨fun z => ⟨nI_pos (by omega), by omega⟩, fun z => by omega⟩
end U89n
section R89n
variable {G : zG} {l : Launch} {k : zY} {d pc bc bs : Nat} {lv : List (Nat × Value)} {st : List Value} {M : zM} {Q : Option Value → zM → Prop}
variable {a : Nat} {M0 : zM} {V0 : Nat → Nat → Int32} {W : Nat → Nat → Int64} {R : Nat → Nat → Option Nat} {T : List tkT} {tr : Prop} {S : pS}
theorem aj.uTok {idx : Nat} (hR : uW a M0 M V0 W R T tr S) (hl : Cond.fieldLink k.1.cls idx (TX5 2).1 (TX5 2).2.1 (TX5 2).2.2.1 ∈ z_W) (hd : decode k.2.1 pc = .ok (.getfield idx, 3)) (h : aj G l k d (pc + 3) lv (.int (pTk S) :: st) M bc bs Q) : aj G l k d pc lv (.ref (a + 2) :: st) M bc bs Q := by
  obtain ⟨V, hA, -, -, -, hS⟩ := hR
  have e : V 2 1 = pTk S := by
    match S, hS with
    | .inl e, hS => exact hS.2.2.2
    | .inr (cs, ts), hS =>
      obtain ⟨-, -, ⟨p, hp, rfl, -, h1⟩, -⟩ := hS
      rw [List.drop_eq_getElem_cons hp]
      exact h1
  refine gX5_token (i := 2) rfl hA hl hd ?_
  rw [e]; exact h
theorem aj.uFlt {idx : Nat} (hR : uW a M0 M V0 W R T tr S) (hl : Cond.fieldLink k.1.cls idx (TX5 6).1 (TX5 6).2.1 (TX5 6).2.2.1 ∈ z_W) (hd : decode k.2.1 pc = .ok (.getfield idx, 3)) (h : aj G l k d (pc + 3) lv (.int (nI (pWr S)) :: st) M bc bs Q) : aj G l k d pc lv (.ref (a + 2) :: st) M bc bs Q := by
  obtain ⟨V, hA, -, -, -, hS⟩ := hR
  have e : V 2 4 = nI (pWr S) := by
    match S, hS with
    | .inl e, hS => exact hS.1
    | .inr (cs, ts), hS => exact hS.1
  refine gX5_fault (i := 2) rfl hA hl hd ?_
  rw [e]; exact h
theorem uW.ob (hR : uW a M0 M V0 W R T tr S) : ∃ fs, M.1 (a + 2) = some (.inr (5, fs)) := by
  obtain ⟨V, hA, -⟩ := hR
  exact ⟨_, hA.ob (i := 2) rfl (by decide)⟩
/-- a call of a reader's method -/
theorem aj.uC0 {y : zY} {d' idx n' kc ks : Nat} {As rest : List Value} {P : zM → Prop} (hR : uW a M0 M V0 W R T tr S) (hd : decode k.2.1 pc = .ok (.invokevirtual idx, 3)) (hl : z_lk k.1.cls idx y n') (hi : z_li y) (hc : RX5 = y.1.cls) (hn : As.length = n') (hst : st = As.reverse ++ .ref (a + 2) :: rest) (hsum : (rest.map fun v => v.category).sum ≤ 8) (hdd : d' + 1 ≤ d) (hm : am G l y d' (.ref (a + 2) :: As) M kc ks (zv P)) (h : ∀ M' : zM, P M' → aj G l k d (pc + 3) lv rest M' bc bs Q) : aj G l k d pc lv st M (bc + kc) (bs + ks) Q := by
  obtain ⟨fs, hb⟩ := hR.ob
  exact aj.callV0 hd hl hi hb (by rw [← hc]; rfl) hn hst hsum hdd hm h
theorem aj.uC1 {y : zY} {d' idx n' kc ks : Nat} {x : Value} {As rest : List Value} {P : zM → Prop} (hR : uW a M0 M V0 W R T tr S) (hd : decode k.2.1 pc = .ok (.invokevirtual idx, 3)) (hl : z_lk k.1.cls idx y n') (hi : z_li y) (hc : RX5 = y.1.cls) (hn : As.length = n') (hst : st = As.reverse ++ .ref (a + 2) :: rest) (hsum : (rest.map fun v => v.category).sum ≤ 8) (hdd : d' + 1 ≤ d) (hm : am G l y d' (.ref (a + 2) :: As) M kc ks (zr x P)) (h : ∀ M' : zM, P M' → aj G l k d (pc + 3) lv (x :: rest) M' bc bs Q) : aj G l k d pc lv st M (bc + kc) (bs + ks) Q := by
  obtain ⟨fs, hb⟩ := hR.ob
  exact aj.callV1 hd hl hi hb (by rw [← hc]; rfl) hn hst hsum hdd hm h
theorem aj.uCX {y : zY} {d' idx n' kc ks : Nat} {As rest : List Value} {P : Int32 → zM → Prop} (hR : uW a M0 M V0 W R T tr S) (hd : decode k.2.1 pc = .ok (.invokevirtual idx, 3)) (hl : z_lk k.1.cls idx y n') (hi : z_li y) (hc : RX5 = y.1.cls) (hn : As.length = n') (hst : st = As.reverse ++ .ref (a + 2) :: rest) (hsum : (rest.map fun v => v.category).sum ≤ 8) (hdd : d' + 1 ≤ d) (hm : am G l y d' (.ref (a + 2) :: As) M kc ks (zx P)) (h : ∀ (x : Int32) (M' : zM), P x M' → aj G l k d (pc + 3) lv (.int x :: rest) M' bc bs Q) : aj G l k d pc lv st M (bc + kc) (bs + ks) Q := by
  obtain ⟨fs, hb⟩ := hR.ob
  exact aj.callV hd hl hi hb (by rw [← hc]; rfl) hn hst hsum hdd hm (fun r M' hq => by obtain ⟨x, rfl, hp⟩ := hq; exact h x M' hp)
end R89n
theorem u_fail {G : zG} {l : Launch} {a : Nat} {M0 M : zM} {V0 : Nat → Nat → Int32} {W : Nat → Nat → Int64} {R : Nat → Nat → Option Nat} {T : List tkT} {tr : Prop} {S : pS} (hC : uC V0 T) (k : Nat) {x_k : Int32} (e_k : x_k = nI k) (hk : 1 ≤ k ∧ k ≤ 4) (hR : uW a M0 M V0 W R T tr S) : am G l kX5_fail 1 [.ref (a + 2), .int x_k] M 0 0 (zv (fun M' => uW a M0 M' V0 W R T tr (pFail k S))) := by
  obtain ⟨V, hA, hF, h23, h22, hS⟩ := hR
  refine am.of (by decide) (Nat.le_of_ble_eq_true rfl) ?_
  match S, hS with
  | .inl e, hS =>
    have h14 := hS.2.1
    refine aj.aload_n dX5_fail_0 rfl ?_
    refine gX5_fault (i := 2) rfl hA w176 dX5_fail_1 ?_
    refine aj.if_neN (a := e.1) (tgt := 46) dX5_fail_4 hS.1 (by omega) rfl (fun c4 => ?_) (fun c4 => ?_)
    · exact aj.vret rfl dX5_fail_46 ⟨rfl, V, hA, hF, h23, h22, hS⟩
    · exact absurd c4 (by omega)
  | .inr (cs, ts), hS =>
    obtain ⟨h4, h5, ⟨p, hp, rfl, h0, h1⟩, hsz, hcd⟩ := hS
    have hv := hC.2.2.2.1 _ (List.getElem_mem hp)
    have hl := ctk_le hv
    have hdr := List.drop_eq_getElem_cons hp
    have hz : V 3 0 = nI T.length := by rw [hF 3 (by decide) (by decide)]; exact hC.2.1
    have hT9 := hC.1
    refine aj.aload_n dX5_fail_0 rfl ?_
    refine gX5_fault (i := 2) rfl hA w176 dX5_fail_1 ?_
    refine aj.if_neN (a := 0) (tgt := 46) dX5_fail_4 h4 (by omega) rfl (fun c4 => ?_) (fun c4 => ?_)
    · exact absurd rfl c4
    · refine aj.aload_n dX5_fail_7 rfl ?_
      refine aj.aload_n dX5_fail_8 rfl ?_
      refine gX5_token (i := 2) rfl hA w172 dX5_fail_9 ?_
      refine aj.sipush (v := 3000) dX5_fail_12 rfl ?_
      refine aj.icmp_neN (a := ctk T[p]) (b := 3000) (tgt := 22) dX5_fail_15 h1 rfl (by omega) (by omega) rfl (fun c15 => ?_) (fun c15 => ?_)
      · refine aj.iload_n dX5_fail_22 rfl ?_
        refine pX5_fault (i := 2) rfl hA w176 dX5_fail_23 (fun M hA => ?_)
        obtain ⟨V1, gV1_v, gV1_q, gV1_j, hA⟩ : ∃ z, z 2 4 = nI k ∧ (∀ q, q ≠ 2 → z q = V q) ∧ (∀ j, j ≠ 4 → z 2 j = V 2 j) ∧ kA a M0 M z W R := ⟨_, by rw [va_up_self, pk_us]; exact e_k, fun q h => va_up_ne _ _ h, fun j h => by rw [va_up_self, pk_un h], hA⟩
        refine aj.aload_n dX5_fail_26 rfl ?_
        refine aj.aload_n dX5_fail_27 rfl ?_
        refine gX5_tokens (i := 2) rfl hA w170 dX5_fail_28 ?_
        refine aj.aload_n dX5_fail_31 rfl ?_
        refine gX5_at (i := 2) rfl hA w171 dX5_fail_32 ?_
        refine aj.callE1 (d' := 0) (As := [.int (V1 2 0)]) (rest := [.ref (a + 2)]) dX5_fail_35 v_X5_73 li_X9_startOf ⟨_, hA.ob (i := 3) rfl (by decide)⟩ rfl rfl rfl (Nat.le_of_ble_eq_true rfl) (Nat.le_of_ble_eq_true rfl) (k_tkSt (v := ctk T[p]) (st := T[p].2.2) (((congrFun (gV1_q 3 (by decide)) 0).trans hz)) hT9 p (((gV1_j 0 (by decide)).trans h0)) hp hl (by have := hv.2.2; omega) (by rw [gV1_q 4 (by decide), hF 4 (by decide) (by decide)]; exact hC.2.2.1 p hp) hA) (fun M hM => ?_)
        subst hM
        refine pX5_place (i := 2) rfl hA w178 dX5_fail_38 (fun M hA => ?_)
        obtain ⟨V2, gV2_v, gV2_q, gV2_j, hA⟩ : ∃ z, z 2 5 = nI (T[p].2.2) ∧ (∀ q, q ≠ 2 → z q = V1 q) ∧ (∀ j, j ≠ 5 → z 2 j = V1 2 j) ∧ kA a M0 M z W R := ⟨_, by rw [va_up_self, pk_us], fun q h => va_up_ne _ _ h, fun j h => by rw [va_up_self, pk_un h], hA⟩
        refine aj.aload_n dX5_fail_41 rfl ?_
        refine aj.iconst (v := (-1)) dX5_fail_42 rfl ?_
        refine pX5_token (i := 2) rfl hA w172 dX5_fail_43 (fun M hA => ?_)
        obtain ⟨V3, gV3_v, gV3_q, gV3_j, hA⟩ : ∃ z, z 2 1 = -1 ∧ (∀ q, q ≠ 2 → z q = V2 q) ∧ (∀ j, j ≠ 1 → z 2 j = V2 2 j) ∧ kA a M0 M z W R := ⟨_, by rw [va_up_self, pk_us], fun q h => va_up_ne _ _ h, fun j h => by rw [va_up_self, pk_un h], hA⟩
        have hfl : pFail k (.inr (cs, T.drop p)) = .inl (k, T[p].2.2) := by
          rw [hdr]
          show Sum.inl (if T[p].1 = 25 then 1 else k, T[p].2.2) = _
          rw [if_neg (show ¬ T[p].1 = 25 from fun z => c15 ((ctk_eq hv (k := 25) (by decide) (by decide)).mpr z))]
        refine aj.vret rfl dX5_fail_46 ⟨rfl, V3, hA, fun q q2 q5 => by rw [gV3_q q q2, gV2_q q q2, gV1_q q q2]; exact hF q q2 q5, by rw [gV3_j 3 (by decide), gV2_j 3 (by decide), gV1_j 3 (by decide)]; exact h23, by rw [gV3_j 2 (by decide), gV2_j 2 (by decide), gV1_j 2 (by decide)]; exact h22, ?_⟩
        rw [hfl]
        exact ⟨by rw [gV3_j 4 (by decide), gV2_j 4 (by decide)]; exact gV1_v, hk, by rw [gV3_j 5 (by decide)]; exact gV2_v, gV3_v⟩
      · refine aj.iconst (v := 1) dX5_fail_18 rfl ?_
        refine aj.goto (tgt := 23) dX5_fail_19 rfl ?_
        refine pX5_fault (i := 2) rfl hA w176 dX5_fail_23 (fun M hA => ?_)
        obtain ⟨V1, gV1_v, gV1_q, gV1_j, hA⟩ : ∃ z, z 2 4 = nI 1 ∧ (∀ q, q ≠ 2 → z q = V q) ∧ (∀ j, j ≠ 4 → z 2 j = V 2 j) ∧ kA a M0 M z W R := ⟨_, by rw [va_up_self, pk_us]; exact rfl, fun q h => va_up_ne _ _ h, fun j h => by rw [va_up_self, pk_un h], hA⟩
        refine aj.aload_n dX5_fail_26 rfl ?_
        refine aj.aload_n dX5_fail_27 rfl ?_
        refine gX5_tokens (i := 2) rfl hA w170 dX5_fail_28 ?_
        refine aj.aload_n dX5_fail_31 rfl ?_
        refine gX5_at (i := 2) rfl hA w171 dX5_fail_32 ?_
        refine aj.callE1 (d' := 0) (As := [.int (V1 2 0)]) (rest := [.ref (a + 2)]) dX5_fail_35 v_X5_73 li_X9_startOf ⟨_, hA.ob (i := 3) rfl (by decide)⟩ rfl rfl rfl (Nat.le_of_ble_eq_true rfl) (Nat.le_of_ble_eq_true rfl) (k_tkSt (v := ctk T[p]) (st := T[p].2.2) (((congrFun (gV1_q 3 (by decide)) 0).trans hz)) hT9 p (((gV1_j 0 (by decide)).trans h0)) hp hl (by have := hv.2.2; omega) (by rw [gV1_q 4 (by decide), hF 4 (by decide) (by decide)]; exact hC.2.2.1 p hp) hA) (fun M hM => ?_)
        subst hM
        refine pX5_place (i := 2) rfl hA w178 dX5_fail_38 (fun M hA => ?_)
        obtain ⟨V2, gV2_v, gV2_q, gV2_j, hA⟩ : ∃ z, z 2 5 = nI (T[p].2.2) ∧ (∀ q, q ≠ 2 → z q = V1 q) ∧ (∀ j, j ≠ 5 → z 2 j = V1 2 j) ∧ kA a M0 M z W R := ⟨_, by rw [va_up_self, pk_us], fun q h => va_up_ne _ _ h, fun j h => by rw [va_up_self, pk_un h], hA⟩
        refine aj.aload_n dX5_fail_41 rfl ?_
        refine aj.iconst (v := (-1)) dX5_fail_42 rfl ?_
        refine pX5_token (i := 2) rfl hA w172 dX5_fail_43 (fun M hA => ?_)
        obtain ⟨V3, gV3_v, gV3_q, gV3_j, hA⟩ : ∃ z, z 2 1 = -1 ∧ (∀ q, q ≠ 2 → z q = V2 q) ∧ (∀ j, j ≠ 1 → z 2 j = V2 2 j) ∧ kA a M0 M z W R := ⟨_, by rw [va_up_self, pk_us], fun q h => va_up_ne _ _ h, fun j h => by rw [va_up_self, pk_un h], hA⟩
        have hfl : pFail k (.inr (cs, T.drop p)) = .inl (1, T[p].2.2) := by
          rw [hdr]
          show Sum.inl (if T[p].1 = 25 then 1 else k, T[p].2.2) = _
          rw [if_pos (show T[p].1 = 25 from (ctk_eq hv (k := 25) (by decide) (by decide)).mp c15)]
        refine aj.vret rfl dX5_fail_46 ⟨rfl, V3, hA, fun q q2 q5 => by rw [gV3_q q q2, gV2_q q q2, gV1_q q q2]; exact hF q q2 q5, by rw [gV3_j 3 (by decide), gV2_j 3 (by decide), gV1_j 3 (by decide)]; exact h23, by rw [gV3_j 2 (by decide), gV2_j 2 (by decide), gV1_j 2 (by decide)]; exact h22, ?_⟩
        rw [hfl]
        exact ⟨by rw [gV3_j 4 (by decide), gV2_j 4 (by decide)]; exact gV1_v, (by decide : 1 ≤ 1 ∧ 1 ≤ 4), by rw [gV3_j 5 (by decide)]; exact gV2_v, gV3_v⟩
theorem u_step {G : zG} {l : Launch} {a : Nat} {M0 M : zM} {V0 : Nat → Nat → Int32} {W : Nat → Nat → Int64} {R : Nat → Nat → Option Nat} {T : List tkT} {tr : Prop} {S : pS} (hC : uC V0 T) (hh : pHd S ≠ 24) (hR : uW a M0 M V0 W R T tr S) : am G l kX5_step 1 [.ref (a + 2)] M 0 0 (zv (fun M' => uW a M0 M' V0 W R T tr (pNext S))) := by
  obtain ⟨V, hA, hF, h23, h22, hS⟩ := hR
  refine am.of (by decide) (Nat.le_of_ble_eq_true rfl) ?_
  match S, hS, hh with
  | .inl e, hS, hh =>
    have h14 := hS.2.1
    refine aj.aload_n dX5_step_0 rfl ?_
    refine gX5_fault (i := 2) rfl hA w176 dX5_step_1 ?_
    refine aj.if_neN (a := e.1) (tgt := 32) dX5_step_4 hS.1 (by omega) rfl (fun c4 => ?_) (fun c4 => ?_)
    · exact aj.vret rfl dX5_step_32 ⟨rfl, V, hA, hF, h23, h22, hS⟩
    · exact absurd c4 (by omega)
  | .inr (cs, ts), hS, hh =>
    obtain ⟨h4, h5, ⟨p, hp, rfl, h0, h1⟩, hsz, hcd⟩ := hS
    have hv := hC.2.2.2.1 _ (List.getElem_mem hp)
    have hl := ctk_le hv
    have hdr := List.drop_eq_getElem_cons hp
    have hz : V 3 0 = nI T.length := by rw [hF 3 (by decide) (by decide)]; exact hC.2.1
    have hT9 := hC.1
    have hp1 : p + 1 < T.length := by
      have hk := tk_drop hC.2.2.2.2 p hp
      rw [hdr] at hk hh
      rcases tk_c hk with z | z
      · exact absurd z.1 hh
      · obtain ⟨pre, e, z1, -⟩ := z.2
        have e1 := congrArg List.length z1
        rw [List.length_drop, List.length_append] at e1
        have e2 : T.length - (p + 1) = pre.length + 1 := e1
        omega
    have hv1 := hC.2.2.2.1 _ (List.getElem_mem hp1)
    refine aj.aload_n dX5_step_0 rfl ?_
    refine gX5_fault (i := 2) rfl hA w176 dX5_step_1 ?_
    refine aj.if_neN (a := 0) (tgt := 32) dX5_step_4 h4 (by omega) rfl (fun c4 => ?_) (fun c4 => ?_)
    · exact absurd rfl c4
    · refine aj.aload_n dX5_step_7 rfl ?_
      refine aj.dup dX5_step_8 rfl ?_
      refine gX5_at (i := 2) rfl hA w171 dX5_step_9 ?_
      refine aj.iconst (v := 1) dX5_step_12 rfl ?_
      refine aj.iaddN (a := p) (b := 1) dX5_step_13 h0 rfl ?_
      refine pX5_at (i := 2) rfl hA w171 dX5_step_14 (fun M hA => ?_)
      obtain ⟨V1, gV1_v, gV1_q, gV1_j, hA⟩ : ∃ z, z 2 0 = nI (p + 1) ∧ (∀ q, q ≠ 2 → z q = V q) ∧ (∀ j, j ≠ 0 → z 2 j = V 2 j) ∧ kA a M0 M z W R := ⟨_, by rw [va_up_self, pk_us], fun q h => va_up_ne _ _ h, fun j h => by rw [va_up_self, pk_un h], hA⟩
      refine aj.aload_n dX5_step_17 rfl ?_
      refine aj.aload_n dX5_step_18 rfl ?_
      refine gX5_tokens (i := 2) rfl hA w170 dX5_step_19 ?_
      refine aj.aload_n dX5_step_22 rfl ?_
      refine gX5_at (i := 2) rfl hA w171 dX5_step_23 ?_
      refine aj.callE1 (d' := 0) (As := [.int (V1 2 0)]) (rest := [.ref (a + 2)]) dX5_step_26 v_X5_46 li_X9_at ⟨_, hA.ob (i := 3) rfl (by decide)⟩ rfl rfl rfl (Nat.le_of_ble_eq_true rfl) (Nat.le_of_ble_eq_true rfl) (k_tkAt (v := ctk T[p + 1]) (st := T[p + 1].2.2) (((congrFun (gV1_q 3 (by decide)) 0).trans hz)) hT9 (p + 1) gV1_v hp1 (ctk_le hv1) (by have := hv1.2.2; omega) (by rw [gV1_q 4 (by decide), hF 4 (by decide) (by decide)]; exact hC.2.2.1 (p + 1) hp1) hA) (fun M hM => ?_)
      subst hM
      refine pX5_token (i := 2) rfl hA w172 dX5_step_29 (fun M hA => ?_)
      obtain ⟨V2, gV2_v, gV2_q, gV2_j, hA⟩ : ∃ z, z 2 1 = nI (ctk T[p + 1]) ∧ (∀ q, q ≠ 2 → z q = V1 q) ∧ (∀ j, j ≠ 1 → z 2 j = V1 2 j) ∧ kA a M0 M z W R := ⟨_, by rw [va_up_self, pk_us], fun q h => va_up_ne _ _ h, fun j h => by rw [va_up_self, pk_un h], hA⟩
      refine aj.vret rfl dX5_step_32 ⟨rfl, V2, hA, fun q q2 q5 => by rw [gV2_q q q2, gV1_q q q2]; exact hF q q2 q5, by rw [gV2_j 3 (by decide), gV1_j 3 (by decide)]; exact h23, by rw [gV2_j 2 (by decide), gV1_j 2 (by decide)]; exact h22, ?_⟩
      have e : pNext (.inr (cs, T.drop p)) = .inr (cs, T.drop (p + 1)) := by rw [hdr]; rfl
      rw [e]
      refine ⟨by rw [gV2_j 4 (by decide), gV1_j 4 (by decide)]; exact h4, by rw [gV2_j 5 (by decide), gV1_j 5 (by decide)]; exact h5, ⟨p + 1, hp1, rfl, by rw [gV2_j 0 (by decide)]; exact gV1_v, gV2_v⟩, ?_, fun z => ?_⟩
      · rw [List.length_drop] at hsz ⊢
        omega
      · rw [gV2_j 2 (by decide), gV1_j 2 (by decide), gV2_q 5 (by decide), gV1_q 5 (by decide)]
        exact hcd z
