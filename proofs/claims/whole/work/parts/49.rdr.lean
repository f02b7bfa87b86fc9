theorem adv_in (q : Nat → Prop) [DecidablePred q] (tx : Nat → Nat) (n : Nat) : ∀ m p j, p ≤ j → j < adv q tx n m p → q (tx j)
  | 0, p, j, h1, h2 => absurd h2 (by show ¬ j < p; omega)
  | m + 1, p, j, h1, h2 => by
    have h2' : j < if p < n ∧ q (tx p) then adv q tx n m (p + 1) else p := h2
    split at h2'
    · rename_i z
      by_cases e : j = p
      · rw [e]; exact z.2
      · exact adv_in q tx n m (p + 1) j (by omega) h2'
    · omega
theorem numL_lt (tx : Nat → Nat) (a : Nat) : ∀ m, (∀ j, j < m → cDg (tx (a + j))) → numL tx a m < 10 ^ m
  | 0, _ => Nat.lt_succ_self 0
  | m + 1, h => by
    have ih := numL_lt tx a m (fun j hj => h j (by omega))
    have h1 := h m (by omega)
    show 10 * numL tx a m + (tx (a + m) - 48) < 10 ^ (m + 1)
    rw [Nat.pow_succ]
    omega
theorem tokB_n {tx : Nat → Nat} {n a : Nat} : (tokB tx n a).2.1 < 1000 := by
  unfold tokB
  split
  · exact (by decide : 0 < 1000)
  · split
    · exact (by decide : 0 < 1000)
    · split
      · show numL tx a (min 3 (advTo cDg tx n a - a)) < 1000
        have h := numL_lt tx a (min 3 (advTo cDg tx n a - a)) (fun j hj => adv_in cDg tx n _ a (a + j) (by omega) (by show a + j < advTo cDg tx n a; omega))
        have h3 : 10 ^ (min 3 (advTo cDg tx n a - a)) ≤ 10 ^ 3 := Nat.pow_le_pow_right (by decide) (by omega)
        omega
      · exact (by decide : 0 < 1000)
theorem tokB_k {tx : Nat → Nat} {n a : Nat} : (tokB tx n a).1 ≤ 42 := by
  have hk := List.idxOf_le_length (a := wordL tx a (advTo cSm tx n a - a)) (l := kws)
  have hs := List.idxOf_le_length (a := tx a) (l := sgs)
  have e1 : kws.length = 22 := rfl
  have e2 : sgs.length = 12 := rfl
  unfold tokB
  split
  · exact (by decide : 24 ≤ 42)
  · split
    · show kws.idxOf _ ≤ 42; omega
    · split
      · show (if 3 < advTo cDg tx n a - a then 25 else 23) ≤ 42
        split <;> decide
      · show (if tx a ∈ sgs then 30 + sgs.idxOf (tx a) else 25) ≤ 42
        split <;> omega
/-- the reader's state in the reference -/
def rS (tx : Nat → Nat) (n : Nat) (S : pS) (I F : Nat → Int32) : Prop := match S with
  | .inl e => I 11 = nI e.1 ∧ (1 ≤ e.1 ∧ e.1 ≤ 4) ∧ I 12 = nI e.2
  | .inr (cs, ts) => I 11 = 0 ∧ (∃ p, p ≤ n ∧ ts = lx tx n p ∧ I 6 = nI (tokA tx n p).2.2.1 ∧ I 7 = nI (tokA tx n p).2.2.2 ∧ I 9 = nI (tokA tx n p).1 ∧ ((tokA tx n p).1 = 23 → I 10 = nI (tokA tx n p).2.1)) ∧ cs.length + ts.length ≤ n + 1 ∧ F 139 = nI cs.length ∧ ∀ (k : Nat) (h : k < cs.length), F (140 + k) = nI cs[k]
def rFr (I0 : Nat → Int32) (A0 : Nat → Nat → Int32) (I : Nat → Int32) (A : Nat → Nat → Int32) : Prop := (∀ j, j ≠ 6 → j ≠ 7 → j ≠ 9 → j ≠ 10 → j ≠ 11 → j ≠ 12 → I j = I0 j) ∧ (∀ j, j ≠ 4 → A j = A0 j) ∧ ∀ k, k < 139 → A 4 k = A0 4 k
def rW (b : Nat) (M0 M : zM) (I0 : Nat → Int32) (A0 : Nat → Nat → Int32) (L : Nat → Nat → Int64) (tx : Nat → Nat) (n : Nat) (S : pS) : Prop := ∃ I A, mW b M0 M I A L ∧ rFr I0 A0 I A ∧ rS tx n S I (A 4)
/-- what is read -/
def rC (tx : Nat → Nat) (n : Nat) (I0 : Nat → Int32) (A0 : Nat → Nat → Int32) : Prop := n ≤ 900 ∧ (∀ k, k < 900 → A0 3 k = nI (tx k)) ∧ (∀ k, tx k < 256) ∧ I0 8 = nI n
def pWr : pS → Nat
  | .inl e => e.1
  | .inr _ => 0
theorem pHd_lx (tx : Nat → Nat) (n p : Nat) (cs : List Nat) : pHd (.inr (cs, lx tx n p)) = (tokA tx n p).1 := by
  obtain ⟨t, r, h1, h2⟩ := lx_ne tx n p
  rw [h1, h2]
  rfl
theorem pNm_lx (tx : Nat → Nat) (n p : Nat) (cs : List Nat) : pNm (.inr (cs, lx tx n p)) = (tokA tx n p).2.1 := by
  obtain ⟨t, r, h1, h2⟩ := lx_ne tx n p
  rw [h1, h2]
  rfl
theorem pFail_lx (k : Nat) (tx : Nat → Nat) (n p : Nat) (cs : List Nat) : pFail k (.inr (cs, lx tx n p)) = .inl (if (tokA tx n p).1 = 25 then 1 else k, (tokA tx n p).2.2.1) := by
  obtain ⟨t, r, h1, h2⟩ := lx_ne tx n p
  rw [h1, h2]
  rfl
theorem rW.T {b : Nat} {M0 M : zM} {I0 : Nat → Int32} {A0 : Nat → Nat → Int32} {L : Nat → Nat → Int64} {tx : Nat → Nat} {n : Nat} {S : pS} (h : rW b M0 M I0 A0 L tx n S) : pT S := by
  obtain ⟨I, A, -, -, h⟩ := h
  match S, h with
  | .inl e, h => exact h.2.1
  | .inr (cs, ts), h =>
    obtain ⟨-, ⟨p, hp, rfl, -⟩, -⟩ := h
    exact lx_OK tx n _ p hp rfl
theorem rW.sz {b : Nat} {M0 M : zM} {I0 : Nat → Int32} {A0 : Nat → Nat → Int32} {L : Nat → Nat → Int64} {tx : Nat → Nat} {n : Nat} {S : pS} (h : rW b M0 M I0 A0 L tx n S) : pSz S ≤ n + 1 := by
  obtain ⟨I, A, -, -, h⟩ := h
  match S, h with
  | .inl e, h => exact Nat.zero_le _
  | .inr (cs, ts), h => exact h.2.2.1
theorem rW.cell {b : Nat} {M0 M : zM} {I0 : Nat → Int32} {A0 : Nat → Nat → Int32} {L : Nat → Nat → Int64} {tx : Nat → Nat} {n : Nat} {S : pS} (h : rW b M0 M I0 A0 L tx n S) : ∃ fs, M.1 b = some (.inr (12, fs)) := by
  obtain ⟨I, A, ⟨u, v, w, hA⟩, -⟩ := h
  exact ⟨_, hA.1⟩
theorem rW.hd {b : Nat} {M0 M : zM} {I0 : Nat → Int32} {A0 : Nat → Nat → Int32} {L : Nat → Nat → Int64} {tx : Nat → Nat} {n : Nat} {S : pS} (h : rW b M0 M I0 A0 L tx n S) : pHd S ≤ 99 ∧ pNm S < 1000 ∧ (pWr S = 0 ↔ pHd S < 98) ∧ pWr S ≤ 4 := by
  obtain ⟨I, A, -, -, h⟩ := h
  match S, h with
  | .inl e, h => exact ⟨Nat.le_refl 99, (by decide : 0 < 1000), ⟨fun q => absurd (show e.1 = 0 from q) (by have := h.2.1; omega), fun q => absurd (show 99 < 98 from q) (by decide)⟩, h.2.1.2⟩
  | .inr (cs, ts), h =>
    obtain ⟨-, ⟨p, hp, rfl, -⟩, -⟩ := h
    rw [pHd_lx, pNm_lx]
    have h1 : (tokA tx n p).1 ≤ 42 := tokB_k
    exact ⟨by omega, tokB_n, ⟨fun _ => by omega, fun _ => rfl⟩, Nat.zero_le _⟩
section R49
variable {G : zG} {l : Launch} {k : zY} {d pc bc bs : Nat} {lv : List (Nat × Value)} {st : List Value} {M : zM} {Q : Option Value → zM → Prop} {b : Nat} {M0 : zM} {I0 : Nat → Int32} {A0 : Nat → Nat → Int32} {L : Nat → Nat → Int64} {tx : Nat → Nat} {n : Nat} {S : pS}
theorem aj.rWr (hk : k.1.cls = RX12) (hd : decode k.2.1 pc = .ok (.getfield 126, 3)) (hR : rW b M0 M I0 A0 L tx n S) (h : aj G l k d (pc + 3) lv (.int (nI (pWr S)) :: st) M bc bs Q) : aj G l k d pc lv (.ref b :: st) M bc bs Q := by
  obtain ⟨I, A, ⟨u, v, w, hA⟩, hF, hS⟩ := hR
  have e : I 11 = nI (pWr S) := by
    match S, hS with
    | .inl e, hS => exact hS.1
    | .inr (cs, ts), hS => exact hS.1
  refine gM11 hk hd hA ?_
  rw [e]; exact h
theorem aj.rKd (hk : k.1.cls = RX12) (hd : decode k.2.1 pc = .ok (.getfield 108, 3)) (hR : rW b M0 M I0 A0 L tx n S) (h0 : pWr S = 0) (h : aj G l k d (pc + 3) lv (.int (nI (pHd S)) :: st) M bc bs Q) : aj G l k d pc lv (.ref b :: st) M bc bs Q := by
  obtain ⟨I, A, ⟨u, v, w, hA⟩, hF, hS⟩ := hR
  match S, hS, h0 with
  | .inl e, hS, h0 => exact absurd (show e.1 = 0 from h0) (by have := hS.2.1; omega)
  | .inr (cs, ts), hS, h0 =>
    obtain ⟨-, ⟨p, hp, rfl, h6, h7, h9, h10⟩, -⟩ := hS
    refine gM9 hk hd hA ?_
    rw [h9, ← pHd_lx tx n p cs]; exact h
theorem aj.rNm (hk : k.1.cls = RX12) (hd : decode k.2.1 pc = .ok (.getfield 121, 3)) (hR : rW b M0 M I0 A0 L tx n S) (h0 : pHd S = 23) (h : aj G l k d (pc + 3) lv (.int (nI (pNm S)) :: st) M bc bs Q) : aj G l k d pc lv (.ref b :: st) M bc bs Q := by
  obtain ⟨I, A, ⟨u, v, w, hA⟩, hF, hS⟩ := hR
  match S, hS, h0 with
  | .inl e, hS, h0 => exact absurd (show 99 = 23 from h0) (by decide)
  | .inr (cs, ts), hS, h0 =>
    obtain ⟨-, ⟨p, hp, rfl, h6, h7, h9, h10⟩, -⟩ := hS
    rw [pHd_lx] at h0
    refine gM10 hk hd hA ?_
    rw [h10 h0, ← pNm_lx tx n p cs]; exact h
theorem aj.rCall0 {y : zY} {d' idx n' : Nat} {As rest : List Value} {P : zM → Prop} (hR : rW b M0 M I0 A0 L tx n S) (hd : decode k.2.1 pc = .ok (.invokevirtual idx, 3)) (hl : z_lk k.1.cls idx y n') (hi : z_li y) (hc : RX12 = y.1.cls) (hn : As.length = n') (hst : st = As.reverse ++ .ref b :: rest) (hsum : (rest.map fun v => v.category).sum ≤ 8) (hdd : d' + 1 ≤ d) (hm : am G l y d' (.ref b :: As) M 0 0 (zv P)) (h : ∀ M' : zM, P M' → aj G l k d (pc + 3) lv rest M' bc bs Q) : aj G l k d pc lv st M bc bs Q := by
  obtain ⟨fs, hb⟩ := hR.cell
  exact aj.callV0 hd hl hi hb (by rw [← hc]; rfl) hn hst hsum hdd hm h
theorem aj.rCall1 {y : zY} {d' idx n' : Nat} {x : Value} {As rest : List Value} {P : zM → Prop} (hR : rW b M0 M I0 A0 L tx n S) (hd : decode k.2.1 pc = .ok (.invokevirtual idx, 3)) (hl : z_lk k.1.cls idx y n') (hi : z_li y) (hc : RX12 = y.1.cls) (hn : As.length = n') (hst : st = As.reverse ++ .ref b :: rest) (hsum : (rest.map fun v => v.category).sum ≤ 8) (hdd : d' + 1 ≤ d) (hm : am G l y d' (.ref b :: As) M 0 0 (zr x P)) (h : ∀ M' : zM, P M' → aj G l k d (pc + 3) lv (x :: rest) M' bc bs Q) : aj G l k d pc lv st M bc bs Q := by
  obtain ⟨fs, hb⟩ := hR.cell
  exact aj.callV1 hd hl hi hb (by rw [← hc]; rfl) hn hst hsum hdd hm h
/-- an int that is known in part alone -/
def zx (P : Int32 → zM → Prop) : Option Value → zM → Prop := fun r M => ∃ x, r = some (.int x) ∧ P x M
theorem aj.rCallX {y : zY} {d' idx n' : Nat} {As rest : List Value} {P : Int32 → zM → Prop} (hR : rW b M0 M I0 A0 L tx n S) (hd : decode k.2.1 pc = .ok (.invokevirtual idx, 3)) (hl : z_lk k.1.cls idx y n') (hi : z_li y) (hc : RX12 = y.1.cls) (hn : As.length = n') (hst : st = As.reverse ++ .ref b :: rest) (hsum : (rest.map fun v => v.category).sum ≤ 8) (hdd : d' + 1 ≤ d) (hm : am G l y d' (.ref b :: As) M 0 0 (zx P)) (h : ∀ (x : Int32) (M' : zM), P x M' → aj G l k d (pc + 3) lv (.int x :: rest) M' bc bs Q) : aj G l k d pc lv st M bc bs Q := by
  obtain ⟨fs, hb⟩ := hR.cell
  exact aj.callV hd hl hi hb (by rw [← hc]; rfl) hn hst hsum hdd hm (fun r M' hq => by obtain ⟨x, rfl, hp⟩ := hq; exact h x M' hp)
end R49
theorem r_fails {G : zG} {l : Launch} {b : Nat} {M0 M : zM} {I0 : Nat → Int32} {A0 : Nat → Nat → Int32} {L : Nat → Nat → Int64} {tx : Nat → Nat} {n : Nat} {S : pS} (k : Nat) {x_k : Int32} (e_k : x_k = nI k) (hk : 1 ≤ k ∧ k ≤ 4) (hR : rW b M0 M I0 A0 L tx n S) : am G l kX12_fails 0 [.ref b, .int x_k] M 0 0 (zv (fun M' => rW b M0 M' I0 A0 L tx n (pFail k S))) := by
  obtain ⟨I, A, ⟨u, v, w, hA⟩, hF, hS⟩ := hR
  refine am.of (by decide) (Nat.le_of_ble_eq_true rfl) ?_
  match S, hS with
  | .inl e, hS =>
    have h11 := hS.1
    have h14 := hS.2.1
    refine aj.aload_n dX12_fails_0 rfl ?_
    refine gM11 rfl dX12_fails_1 hA ?_
    refine aj.if_eqN (a := e.1) (tgt := 8) dX12_fails_4 h11 (by omega) rfl (fun c4 => ?_) (fun c4 => ?_)
    · exact absurd c4 (by omega)
    · exact aj.vret rfl dX12_fails_7 ⟨rfl, I, A, ⟨_, _, _, hA⟩, hF, hS⟩
  | .inr (cs, ts), hS =>
    obtain ⟨h11, ⟨p, hp, rfl, h6, h7, h9, h10⟩, hsz, hct, hcd⟩ := hS
    have hk42 : (tokA tx n p).1 ≤ 42 := tokB_k
    refine aj.aload_n dX12_fails_0 rfl ?_
    refine gM11 rfl dX12_fails_1 hA ?_
    refine aj.if_eqN (a := 0) (tgt := 8) dX12_fails_4 h11 (by omega) rfl (fun c4 => ?_) (fun c4 => ?_)
    · refine aj.aload_n dX12_fails_8 rfl ?_
      refine aj.aload_n dX12_fails_9 rfl ?_
      refine gM9 rfl dX12_fails_10 hA ?_
      refine aj.bipush (v := 25) dX12_fails_13 rfl ?_
      refine aj.icmp_neN (a := (tokA tx n p).1) (b := 25) (tgt := 22) dX12_fails_15 h9 rfl (by omega) (by omega) rfl (fun c15 => ?_) (fun c15 => ?_)
      · refine aj.iload_n dX12_fails_22 rfl ?_
        refine pM11 rfl dX12_fails_23 hA (fun M hA => ?_)
        refine aj.aload_n dX12_fails_26 rfl ?_
        refine aj.aload_n dX12_fails_27 rfl ?_
        refine gM6 rfl dX12_fails_28 hA ?_
        refine pM12 rfl dX12_fails_31 hA (fun M hA => ?_)
        exact aj.vret rfl dX12_fails_34 ⟨rfl, _, A, ⟨_, _, _, hA⟩, ⟨fun j h1 h2 h3 h4 h5 h6 => by simp only [va_up_ne _ _ h5, va_up_ne _ _ h6]; exact hF.1 j h1 h2 h3 h4 h5 h6, hF.2⟩, by rw [pFail_lx, if_neg c15]; exact ⟨e_k, hk, h6⟩⟩
      · refine aj.iconst (v := 1) dX12_fails_18 rfl ?_
        refine aj.goto (tgt := 23) dX12_fails_19 rfl ?_
        refine pM11 rfl dX12_fails_23 hA (fun M hA => ?_)
        refine aj.aload_n dX12_fails_26 rfl ?_
        refine aj.aload_n dX12_fails_27 rfl ?_
        refine gM6 rfl dX12_fails_28 hA ?_
        refine pM12 rfl dX12_fails_31 hA (fun M hA => ?_)
        exact aj.vret rfl dX12_fails_34 ⟨rfl, _, A, ⟨_, _, _, hA⟩, ⟨fun j h1 h2 h3 h4 h5 h6 => by simp only [va_up_ne _ _ h5, va_up_ne _ _ h6]; exact hF.1 j h1 h2 h3 h4 h5 h6, hF.2⟩, by rw [pFail_lx, if_pos c15]; exact ⟨rfl, ⟨Nat.le_refl 1, (by decide : 1 ≤ 4)⟩, h6⟩⟩
    · exact absurd rfl c4
theorem r_is {G : zG} {l : Launch} {b : Nat} {M0 M : zM} {I0 : Nat → Int32} {A0 : Nat → Nat → Int32} {L : Nat → Nat → Int64} {tx : Nat → Nat} {n : Nat} {S : pS} (k : Nat) {x_k : Int32} (e_k : x_k = nI k) (hk : k < 98) (hR : rW b M0 M I0 A0 L tx n S) : am G l kX12_is 0 [.ref b, .int x_k] M 0 0 (zr (.int (zb (pHd S = k))) (fun M' => rW b M0 M' I0 A0 L tx n S)) := by
  obtain ⟨I, A, ⟨u, v, w, hA⟩, hF, hS⟩ := hR
  refine am.of (by decide) (Nat.le_of_ble_eq_true rfl) ?_
  match S, hS with
  | .inl e, hS =>
    have h11 := hS.1
    have h14 := hS.2.1
    refine aj.aload_n dX12_is_0 rfl ?_
    refine gM11 rfl dX12_is_1 hA ?_
    refine aj.if_neN (a := e.1) (tgt := 19) dX12_is_4 h11 (by omega) rfl (fun c4 => ?_) (fun c4 => ?_)
    · refine aj.iconst (v := 0) dX12_is_19 rfl ?_
      exact aj.zret (ty := .boolean) rfl rfl dX12_is_20 ⟨by rw [zb_f (by show ¬ 99 = k; omega)], I, A, ⟨_, _, _, hA⟩, hF, hS⟩
    · exact absurd c4 (by omega)
  | .inr (cs, ts), hS =>
    have hS' := hS
    obtain ⟨h11, ⟨p, hp, rfl, h6, h7, h9, h10⟩, hsz, hct, hcd⟩ := hS
    have hk42 : (tokA tx n p).1 ≤ 42 := tokB_k
    refine aj.aload_n dX12_is_0 rfl ?_
    refine gM11 rfl dX12_is_1 hA ?_
    refine aj.if_neN (a := 0) (tgt := 19) dX12_is_4 h11 (by omega) rfl (fun c4 => ?_) (fun c4 => ?_)
    · exact absurd rfl c4
    · refine aj.aload_n dX12_is_7 rfl ?_
      refine gM9 rfl dX12_is_8 hA ?_
      refine aj.iload_n dX12_is_11 rfl ?_
      refine aj.icmp_neN (a := (tokA tx n p).1) (b := k) (tgt := 19) dX12_is_12 h9 e_k (by omega) (by omega) rfl (fun c12 => ?_) (fun c12 => ?_)
      · refine aj.iconst (v := 0) dX12_is_19 rfl ?_
        exact aj.zret (ty := .boolean) rfl rfl dX12_is_20 ⟨by rw [zb_f (by rw [pHd_lx]; exact c12)], I, A, ⟨_, _, _, hA⟩, hF, hS'⟩
      · refine aj.iconst (v := 1) dX12_is_15 rfl ?_
        refine aj.goto (tgt := 20) dX12_is_16 rfl ?_
        exact aj.zret (ty := .boolean) rfl rfl dX12_is_20 ⟨by rw [zb_t (by rw [pHd_lx]; exact c12)], I, A, ⟨_, _, _, hA⟩, hF, hS'⟩
theorem r_next {G : zG} {l : Launch} {b : Nat} {M0 M : zM} {I0 : Nat → Int32} {A0 : Nat → Nat → Int32} {L : Nat → Nat → Int64} {tx : Nat → Nat} {n : Nat} {S : pS} {av : Nat → Nat} {fm : Nat} (hG : zSt G av fm) (hC : rC tx n I0 A0) {k : Nat} (hh : pHd S = k) (hk : k < 98) (hk2 : k ≠ 24) (hR : rW b M0 M I0 A0 L tx n S) : am G l kX12_next 5 [.ref b] M 0 0 (zv (fun M' => rW b M0 M' I0 A0 L tx n (pNext S))) := by
  obtain ⟨I, A, hM, hF, hS⟩ := hR
  match S, hS, hh with
  | .inl e, hS, hh => exact absurd (show 99 = k from hh) (by omega)
  | .inr (cs, ts), hS, hh =>
    obtain ⟨h11, ⟨p, hp, rfl, h6, h7, h9, h10⟩, hsz, hct, hcd⟩ := hS
    rw [pHd_lx] at hh
    have hne : (tokA tx n p).1 ≠ 24 := by omega
    have h2 : ¬ n ≤ advTo cWh tx n p := fun q => hne (tokB_24.mpr q)
    have hb := tokB_b (tx := tx) (n := n) (a := advTo cWh tx n p) (by omega)
    have hb' : advTo cWh tx n p < (tokA tx n p).2.2.2 ∧ (tokA tx n p).2.2.2 ≤ n := hb
    have hlx := lx_c hp hne
    refine am.mono (c_next hG tx n hC.1 (fun k hk => by rw [hF.2.1 3 (by decide)]; exact hC.2.1 k hk) hC.2.2.1 (by rw [hF.1 8 (by decide) (by decide) (by decide) (by decide) (by decide) (by decide)]; exact hC.2.2.2) (tokA tx n p).2.2.2 h7 hb'.2 hM) ?_
    intro r M' hq
    obtain ⟨rfl, I', hN, hM'⟩ := hq
    refine ⟨rfl, I', A, hM', ⟨fun j h1 h2 h3 h4 h5 h6 => (hN.2.2.2.2 j h1 h2 h3 h4).trans (hF.1 j h1 h2 h3 h4 h5 h6), hF.2⟩, ?_⟩
    have e : pNext (.inr (cs, lx tx n p)) = .inr (cs, lx tx n (tokA tx n p).2.2.2) := by rw [hlx]; rfl
    rw [e]
    refine ⟨(hN.2.2.2.2 11 (by decide) (by decide) (by decide) (by decide)).trans h11, ⟨_, hb'.2, rfl, hN.1, hN.2.1, hN.2.2.1, hN.2.2.2.1⟩, ?_, hct, hcd⟩
    rw [hlx] at hsz
    have hsz' : cs.length + ((lx tx n (tokA tx n p).2.2.2).length + 1) ≤ n + 1 := hsz
    omega
theorem r_codes {G : zG} {l : Launch} {b : Nat} {M0 M : zM} {I0 : Nat → Int32} {A0 : Nat → Nat → Int32} {L : Nat → Nat → Int64} {tx : Nat → Nat} {n : Nat} {S : pS} (c : Nat) {x_c : Int32} (e_c : x_c = nI c) (hn : n ≤ 900) (hsz : pSz S ≤ n) (hR : rW b M0 M I0 A0 L tx n S) : am G l kX12_codes 0 [.ref b, .int x_c] M 0 0 (zv (fun M' => rW b M0 M' I0 A0 L tx n (pPush c S))) := by
  obtain ⟨I, A, ⟨u, v, w, hA⟩, hF, hS⟩ := hR
  refine am.of (by decide) (Nat.le_of_ble_eq_true rfl) ?_
  match S, hS, hsz with
  | .inl e, hS, hsz =>
    have h11 := hS.1
    have h14 := hS.2.1
    refine aj.aload_n dX12_codes_0 rfl ?_
    refine gM11 rfl dX12_codes_1 hA ?_
    refine aj.if_eqN (a := e.1) (tgt := 8) dX12_codes_4 h11 (by omega) rfl (fun c4 => ?_) (fun c4 => ?_)
    · exact absurd c4 (by omega)
    · exact aj.vret rfl dX12_codes_7 ⟨rfl, I, A, ⟨_, _, _, hA⟩, hF, hS⟩
  | .inr (cs, ts), hS, hsz =>
    obtain ⟨h11, ⟨p, hp, rfl, h6, h7, h9, h10⟩, hsz1, hct, hcd⟩ := hS
    have hk42 : (tokA tx n p).1 ≤ 42 := tokB_k
    have hsz2 : cs.length + (lx tx n p).length ≤ n := hsz
    have hl1 : 1 ≤ (lx tx n p).length := by
      obtain ⟨t, r, h1, h2⟩ := lx_ne tx n p
      rw [h1]
      exact Nat.succ_le_succ (Nat.zero_le _)
    refine aj.aload_n dX12_codes_0 rfl ?_
    refine gM11 rfl dX12_codes_1 hA ?_
    refine aj.if_eqN (a := 0) (tgt := 8) dX12_codes_4 h11 (by omega) rfl (fun c4 => ?_) (fun c4 => ?_)
    · refine aj.aload_n dX12_codes_8 rfl ?_
      refine gM4 rfl dX12_codes_9 hA ?_
      refine aj.sipush (v := 140) dX12_codes_12 rfl ?_
      refine aj.aload_n dX12_codes_15 rfl ?_
      refine gM4 rfl dX12_codes_16 hA ?_
      refine aj.sipush (v := 139) dX12_codes_19 rfl ?_
      refine aM4N (i := 139) dX12_codes_22 hA rfl (by omega) ?_
      refine aj.iaddN (a := 140) (b := cs.length) dX12_codes_23 rfl hct ?_
      refine aj.iload_n dX12_codes_24 rfl ?_
      refine sM4N (i := 140 + cs.length) dX12_codes_25 hA rfl (by omega) (fun M hA => ?_)
      refine aj.aload_n dX12_codes_26 rfl ?_
      refine gM4 rfl dX12_codes_27 hA ?_
      refine aj.sipush (v := 139) dX12_codes_30 rfl ?_
      refine aj.dup2 dX12_codes_33 rfl rfl ?_
      refine aM4N (i := 139) dX12_codes_34 hA rfl (by omega) ?_
      refine aj.iconst (v := 1) dX12_codes_35 rfl ?_
      refine aj.iaddN (a := cs.length) (b := 1) dX12_codes_36 (by rw [va_up_self, pk_un (by omega)]; exact hct) rfl ?_
      refine sM4N (i := 139) dX12_codes_37 hA rfl (by omega) (fun M hA => ?_)
      refine aj.vret rfl dX12_codes_38 ⟨rfl, I, _, ⟨_, _, _, hA⟩, ⟨hF.1, fun j hj => by rw [va_up_ne _ _ hj, va_up_ne _ _ hj]; exact hF.2.1 j hj, fun k hk => by rw [va_up_self, pk_un (by omega), va_up_self, pk_un (by omega)]; exact hF.2.2 k hk⟩, h11, ⟨p, hp, rfl, h6, h7, h9, h10⟩, by rw [List.length_append]; show cs.length + 1 + _ ≤ _; omega, ?_, fun k hk => ?_⟩
      · rw [va_up_self, pk_us, List.length_append]; rfl
      · rw [va_up_self, pk_un (by omega)]
        by_cases e : k = cs.length
        · subst e
          rw [va_up_self, pk_us, e_c]
          exact congrArg nI (by rw [List.getElem_append_right (Nat.le_refl _)]; simp)
        · have hk' : k < cs.length := by rw [List.length_append] at hk; have hk2 : k < cs.length + 1 := hk; omega
          rw [va_up_self, pk_un (by omega), hcd k hk']
          exact congrArg nI (by rw [List.getElem_append_left hk'])
    · exact absurd rfl c4
