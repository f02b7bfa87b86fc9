section R55
variable {G : zG} {l : Launch} {k : zY} {d pc bc bs : Nat} {lv : List (Nat × Value)} {st : List Value} {M : zM} {Q : Option Value → zM → Prop} {b : Nat} {M0 : zM} {I0 : Nat → Int32} {A0 : Nat → Nat → Int32} {L : Nat → Nat → Int64} {tx : Nat → Nat} {n : Nat} {S : pS}
theorem aj.rFg (hk : k.1.cls = RX12) (hd : decode k.2.1 pc = .ok (.getfield 24, 3)) (hR : rW b M0 M I0 A0 L tx n S) (h : aj G l k d (pc + 3) lv (.ref (b + 4) :: st) M bc bs Q) : aj G l k d pc lv (.ref b :: st) M bc bs Q := by
  obtain ⟨I, A, ⟨u, v, w, hA⟩, hF, hS⟩ := hR
  exact gM4 hk hd hA h
theorem aj.rFl {i : Nat} {x : Int32} (hd : decode k.2.1 pc = .ok (.iaload, 1)) (hR : rW b M0 M I0 A0 L tx n S) (hx : x = nI i) (hi : i < 139) (h : aj G l k d (pc + 1) lv (.int (A0 4 i) :: st) M bc bs Q) : aj G l k d pc lv (.int x :: .ref (b + 4) :: st) M bc bs Q := by
  obtain ⟨I, A, ⟨u, v, w, hA⟩, hF, hS⟩ := hR
  refine aM4N (i := i) hd hA hx (by omega) ?_
  rw [hF.2.2 i hi]; exact h
theorem rW.frs {i : Nat} {x : Int32} (hi : i < 139) {I A} (hM : mW b M0 M I (va_up A 4 (upd (A 4) i x)) L) (hF : rFr I0 A0 I A) (hS : rS tx n S I (A 4)) : rW b M0 M I0 (va_up A0 4 (upd (A0 4) i x)) L tx n S := by
  refine ⟨_, _, hM, ⟨hF.1, fun j hj => by rw [va_up_ne _ _ hj, va_up_ne _ _ hj]; exact hF.2.1 j hj, fun q hq => ?_⟩, ?_⟩
  · rw [va_up_self, va_up_self]
    by_cases e : q = i
    · subst e; rw [pk_us, pk_us]
    · rw [pk_un e, pk_un e]; exact hF.2.2 q hq
  · rw [va_up_self]
    match S, hS with
    | .inl e, hS => exact hS
    | .inr (cs, ts), hS => exact ⟨hS.1, hS.2.1, hS.2.2.1, by rw [pk_un (by omega)]; exact hS.2.2.2.1, fun q hq => by rw [pk_un (by omega)]; exact hS.2.2.2.2 q hq⟩
theorem aj.rFs {i : Nat} {x z : Int32} (hd : decode k.2.1 pc = .ok (.iastore, 1)) (hR : rW b M0 M I0 A0 L tx n S) (hz : z = nI i) (hi : i < 139) (h : ∀ M : zM, rW b M0 M I0 (va_up A0 4 (upd (A0 4) i x)) L tx n S → aj G l k d (pc + 1) lv st M bc bs Q) : aj G l k d pc lv (.int x :: .int z :: .ref (b + 4) :: st) M bc bs Q := by
  obtain ⟨I, A, ⟨u, v, w, hA⟩, hF, hS⟩ := hR
  exact sM4N (i := i) hd hA hz (by omega) (fun M hA => h M (rW.frs hi ⟨_, _, _, hA⟩ hF hS))
theorem aj.rFc {x : Int32} (hd : decode k.2.1 pc = .ok (.iaload, 1)) (hR : rW b M0 M I0 A0 L tx n S) (hx : x = nI 139) (h : ∀ y : Int32, (∀ cs ts, S = .inr (cs, ts) → y = nI cs.length) → aj G l k d (pc + 1) lv (.int y :: st) M bc bs Q) : aj G l k d pc lv (.int x :: .ref (b + 4) :: st) M bc bs Q := by
  obtain ⟨I, A, ⟨u, v, w, hA⟩, hF, hS⟩ := hR
  refine aM4N (i := 139) hd hA hx (by omega) (h _ fun cs ts e => ?_)
  subst e
  exact hS.2.2.2.1
theorem aj.rRd {x : Int32} (hk : k.1.cls = RX12) (hd : decode k.2.1 pc = .ok (.putfield 146, 3)) (hR : rW b M0 M I0 A0 L tx n S) (h : ∀ M : zM, rW b M0 M (va_up I0 15 x) A0 L tx n S → aj G l k d (pc + 3) lv st M bc bs Q) : aj G l k d pc lv (.int x :: .ref b :: st) M bc bs Q := by
  obtain ⟨I, A, ⟨u, v, w, hA⟩, hF, hS⟩ := hR
  refine pM15 hk hd hA (fun M hA => h M ⟨_, A, ⟨_, _, _, hA⟩, ⟨fun j h1 h2 h3 h4 h5 h6 => ?_, hF.2⟩, ?_⟩)
  · by_cases e : j = 15
    · subst e; rw [va_up_self, va_up_self]
    · rw [va_up_ne _ _ e, va_up_ne _ _ e]; exact hF.1 j h1 h2 h3 h4 h5 h6
  · match S, hS with
    | .inl e, hS => exact ⟨by rw [va_up_ne _ _ (by decide)]; exact hS.1, hS.2.1, by rw [va_up_ne _ _ (by decide)]; exact hS.2.2⟩
    | .inr (cs, ts), hS =>
      obtain ⟨h11, ⟨p, hp, hts, h6, h7, h9, h10⟩, hr⟩ := hS
      exact ⟨by rw [va_up_ne _ _ (by decide)]; exact h11, ⟨p, hp, hts, by rw [va_up_ne _ _ (by decide)]; exact h6, by rw [va_up_ne _ _ (by decide)]; exact h7, by rw [va_up_ne _ _ (by decide)]; exact h9, fun z => by rw [va_up_ne _ _ (by decide)]; exact h10 z⟩, hr⟩
end R55
theorem rC.up {tx : Nat → Nat} {n : Nat} {I0 : Nat → Int32} {A0 : Nat → Nat → Int32} (hC : rC tx n I0 A0) (f : Nat → Int32) : rC tx n I0 (va_up A0 4 f) := ⟨hC.1, fun k hk => by rw [va_up_ne _ _ (by decide)]; exact hC.2.1 k hk, hC.2.2⟩
theorem rC.upI {tx : Nat → Nat} {n : Nat} {I0 : Nat → Int32} {A0 : Nat → Nat → Int32} (hC : rC tx n I0 A0) (x : Int32) : rC tx n (va_up I0 15 x) A0 := ⟨hC.1, hC.2.1, hC.2.2.1, by rw [va_up_ne _ _ (by decide)]; exact hC.2.2.2⟩
theorem pWr_iff {S : pS} {b : Nat} {M0 M : zM} {I0 : Nat → Int32} {A0 : Nat → Nat → Int32} {L : Nat → Nat → Int64} {tx : Nat → Nat} {n : Nat} (hR : rW b M0 M I0 A0 L tx n S) : pWr S = 0 ↔ ∃ cs ts, S = .inr (cs, ts) := by
  obtain ⟨I, A, -, -, hS⟩ := hR
  match S, hS with
  | .inl e, hS => exact ⟨fun z => absurd (show e.1 = 0 from z) (by have := hS.2.1; omega), fun ⟨_, _, z⟩ => by cases z⟩
  | .inr (cs, ts), hS => exact ⟨fun _ => ⟨cs, ts, rfl⟩, fun _ => rfl⟩
theorem r_named {G : zG} {l : Launch} {b : Nat} {M0 M : zM} {I0 : Nat → Int32} {A0 : Nat → Nat → Int32} {L : Nat → Nat → Int64} {tx : Nat → Nat} {n : Nat} {S : pS} {av : Nat → Nat} {fm : Nat} (hG : zSt G av fm) (hC : rC tx n I0 A0) (k : Nat) {x_k : Int32} (e_k : x_k = nI k) (hk : k < 98) (hk2 : k ≠ 24) (lo : Nat) {x_lo : Int32} (e_lo : x_lo = nI lo) (hlo : lo < 2 ^ 31) (hi : Nat) {x_hi : Int32} (e_hi : x_hi = nI hi) (hhi : hi < 2 ^ 31) (hR : rW b M0 M I0 A0 L tx n S) : am G l kX12_named 7 [.ref b, .int x_k, .int x_lo, .int x_hi] M 0 0 (zx (fun x M' => (∀ cs ts, pTake lo hi (pExp k S) = .inr (cs, ts) → x = nI (pNm (pExp k S))) ∧ rW b M0 M' I0 A0 L tx n (pTake lo hi (pExp k S)))) := by
  refine am.of (by decide) (Nat.le_of_ble_eq_true rfl) ?_
  refine aj.aload_n dX12_named_0 rfl ?_
  refine aj.iload_n dX12_named_1 rfl ?_
  refine aj.rCall1 (d' := 6) (As := [.int x_k]) (rest := []) hR dX12_named_2 v_X12_161 li_X12_eats rfl rfl rfl (Nat.le_of_ble_eq_true rfl) (Nat.le_of_ble_eq_true rfl) (r_eats hG hC k e_k (hk) (hk2) hR) (fun M hR => ?_)
  refine aj.if_neB (tgt := 13) dX12_named_5 rfl (fun c5 => ?_) (fun c5 => ?_)
  · rw [if_pos c5, ← pExp_y c5] at hR
    refine aj.aload_n dX12_named_13 rfl ?_
    refine aj.iload_n dX12_named_14 rfl ?_
    refine aj.iload_n dX12_named_15 rfl ?_
    refine aj.rCallX (d' := 6) (As := [.int x_lo, .int x_hi]) (rest := []) hR dX12_named_16 v_X12_182 li_X12_takes rfl rfl rfl (Nat.le_of_ble_eq_true rfl) (Nat.le_of_ble_eq_true rfl) (r_takes hG hC lo hi (fun _ => ⟨e_lo, hlo⟩) e_hi (hhi) hR) (fun x16 M hR => ?_)
    obtain ⟨hx16, hR⟩ := hR
    exact aj.iret rfl dX12_named_19 ⟨_, rfl, hx16, hR⟩
  · rw [if_neg c5] at hR
    refine aj.aload_n dX12_named_8 rfl ?_
    refine aj.iconst (v := 2) dX12_named_9 rfl ?_
    refine aj.rCall0 (d' := 0) (As := [.int 2]) (rest := []) hR dX12_named_10 v_X12_138 li_X12_fails rfl rfl rfl (Nat.le_of_ble_eq_true rfl) (Nat.le_of_ble_eq_true rfl) (r_fails 2 rfl (by decide) hR) (fun M hR => ?_)
    rw [← pExp_n c5] at hR
    refine aj.aload_n dX12_named_13 rfl ?_
    refine aj.iload_n dX12_named_14 rfl ?_
    refine aj.iload_n dX12_named_15 rfl ?_
    refine aj.rCallX (d' := 6) (As := [.int x_lo, .int x_hi]) (rest := []) hR dX12_named_16 v_X12_182 li_X12_takes rfl rfl rfl (Nat.le_of_ble_eq_true rfl) (Nat.le_of_ble_eq_true rfl) (r_takes hG hC lo hi (fun _ => ⟨e_lo, hlo⟩) e_hi (hhi) hR) (fun x16 M hR => ?_)
    obtain ⟨hx16, hR⟩ := hR
    exact aj.iret rfl dX12_named_19 ⟨_, rfl, hx16, hR⟩
/-- the numbers of fresh as they stand: which may have changed -/
def rT (b : Nat) (M0 M : zM) (I0 : Nat → Int32) (A0 : Nat → Nat → Int32) (L : Nat → Nat → Int64) (tx : Nat → Nat) (n : Nat) (S : pS) (ch : Nat → Prop) (P : (Nat → Int32) → Prop) : Prop := ∃ A1, rW b M0 M I0 A1 L tx n S ∧ (∀ j, j ≠ 4 → A1 j = A0 j) ∧ (∀ k, ¬ ch k → A1 4 k = A0 4 k) ∧ ((∃ cs ts, S = .inr (cs, ts)) → P (A1 4))
theorem r_readTop {G : zG} {l : Launch} {b : Nat} {M0 M : zM} {I0 : Nat → Int32} {A0 : Nat → Nat → Int32} {L : Nat → Nat → Int64} {tx : Nat → Nat} {n : Nat} {S : pS} {av : Nat → Nat} {fm : Nat} (hG : zSt G av fm) (hC : rC tx n I0 A0) (hh : pHd S = 2) (hR : rW b M0 M I0 A0 L tx n S) : am G l kX12_readTop 8 [.ref b] M 0 0 (zv (fun M' => rT b M0 M' I0 A0 L tx n (dTop3 S) (fun k => k = 3 ∨ k = 4 ∨ k = 5) (fun F => F 3 = nI (pNm (pNext S)) ∧ F 4 = nI (pNm (pExp 3 (dTop1 S))) ∧ F 5 = nI (pNm (pExp 4 (dTop2 S)))))) := by
  refine am.of (by decide) (Nat.le_of_ble_eq_true rfl) ?_
  refine aj.aload_n dX12_readTop_0 rfl ?_
  refine aj.rCall0 (d' := 5) (As := []) (rest := []) hR dX12_readTop_1 v_X12_135 li_X12_next rfl rfl rfl (Nat.le_of_ble_eq_true rfl) (Nat.le_of_ble_eq_true rfl) (r_next hG hC (hh) (by decide) (by decide) hR) (fun M hR => ?_)
  refine aj.aload_n dX12_readTop_4 rfl ?_
  refine aj.rFg rfl dX12_readTop_5 hR ?_
  refine aj.iconst (v := 3) dX12_readTop_8 rfl ?_
  refine aj.aload_n dX12_readTop_9 rfl ?_
  refine aj.iconst (v := 0) dX12_readTop_10 rfl ?_
  refine aj.bipush (v := 99) dX12_readTop_11 rfl ?_
  refine aj.rCallX (d' := 6) (As := [.int 0, .int 99]) (rest := [.int 3, .ref (b + 4)]) hR dX12_readTop_13 v_X12_182 li_X12_takes rfl rfl rfl (Nat.le_of_ble_eq_true rfl) (Nat.le_of_ble_eq_true rfl) (r_takes hG hC 0 99 (fun _ => ⟨rfl, by decide⟩) rfl (by decide) hR) (fun x13 M hR => ?_)
  obtain ⟨hx13, hR⟩ := hR
  refine aj.rFs (i := 3) dX12_readTop_16 hR rfl (by omega) (fun M hR => ?_)
  refine aj.aload_n dX12_readTop_17 rfl ?_
  refine aj.rFg rfl dX12_readTop_18 hR ?_
  refine aj.iconst (v := 4) dX12_readTop_21 rfl ?_
  refine aj.aload_n dX12_readTop_22 rfl ?_
  refine aj.iconst (v := 3) dX12_readTop_23 rfl ?_
  refine aj.iconst (v := 0) dX12_readTop_24 rfl ?_
  refine aj.bipush (v := 99) dX12_readTop_25 rfl ?_
  refine aj.rCallX (d' := 7) (As := [.int 3, .int 0, .int 99]) (rest := [.int 4, .ref (b + 4)]) hR dX12_readTop_27 v_X12_186 li_X12_named rfl rfl rfl (Nat.le_of_ble_eq_true rfl) (Nat.le_of_ble_eq_true rfl) (r_named hG (rC.up hC _) 3 rfl (by decide) (by decide) 0 rfl (by decide) 99 rfl (by decide) hR) (fun x27 M hR => ?_)
  obtain ⟨hx27, hR⟩ := hR
  refine aj.rFs (i := 4) dX12_readTop_30 hR rfl (by omega) (fun M hR => ?_)
  refine aj.aload_n dX12_readTop_31 rfl ?_
  refine aj.rFg rfl dX12_readTop_32 hR ?_
  refine aj.iconst (v := 5) dX12_readTop_35 rfl ?_
  refine aj.aload_n dX12_readTop_36 rfl ?_
  refine aj.iconst (v := 4) dX12_readTop_37 rfl ?_
  refine aj.iconst (v := 0) dX12_readTop_38 rfl ?_
  refine aj.bipush (v := 99) dX12_readTop_39 rfl ?_
  refine aj.rCallX (d' := 7) (As := [.int 4, .int 0, .int 99]) (rest := [.int 5, .ref (b + 4)]) hR dX12_readTop_41 v_X12_186 li_X12_named rfl rfl rfl (Nat.le_of_ble_eq_true rfl) (Nat.le_of_ble_eq_true rfl) (r_named hG (rC.up (rC.up hC _) _) 4 rfl (by decide) (by decide) 0 rfl (by decide) 99 rfl (by decide) hR) (fun x41 M hR => ?_)
  obtain ⟨hx41, hR⟩ := hR
  refine aj.rFs (i := 5) dX12_readTop_44 hR rfl (by omega) (fun M hR => ?_)
  refine aj.vret rfl dX12_readTop_45 ⟨rfl, _, hR, fun j hj => ?_, fun k hk => ?_, fun ⟨cs, ts, hS⟩ => ?_⟩
  · rw [va_up_ne _ _ hj, va_up_ne _ _ hj, va_up_ne _ _ hj]
  · rw [va_up_self, pk_un (fun e => hk (Or.inr (Or.inr e))), va_up_self, pk_un (fun e => hk (Or.inr (Or.inl e))), va_up_self, pk_un (fun e => hk (Or.inl e))]
  · have g3 := pTake_in hS
    obtain ⟨c3, t3, e3⟩ := g3.2.2.2
    obtain ⟨c2, t2, e2⟩ := pExp_in (by decide) e3
    have g2 := pTake_in e2
    obtain ⟨c1, t1, e1⟩ := g2.2.2.2
    obtain ⟨c0, t0, e0⟩ := pExp_in (by decide) e1
    refine ⟨?_, ?_, ?_⟩
    · rw [va_up_self, pk_un (by decide), va_up_self, pk_un (by decide), va_up_self, pk_us]; exact hx13 _ _ e0
    · rw [va_up_self, pk_un (by decide), va_up_self, pk_us]; exact hx27 _ _ e2
    · rw [va_up_self, pk_us]; exact hx41 _ _ hS
theorem r_readShooter {G : zG} {l : Launch} {b : Nat} {M0 M : zM} {I0 : Nat → Int32} {A0 : Nat → Nat → Int32} {L : Nat → Nat → Int64} {tx : Nat → Nat} {n : Nat} {S : pS} {av : Nat → Nat} {fm : Nat} (hG : zSt G av fm) (hC : rC tx n I0 A0) (hh : pHd S = 5) {ns : Nat} (hns : A0 4 6 = nI ns) (hn4 : ns ≤ 4) (hR : rW b M0 M I0 A0 L tx n S) : am G l kX12_readShooter 8 [.ref b] M 0 0 (zv (fun M' => rT b M0 M' I0 A0 L tx n (if ns = 4 then pFail 4 S else dSho S) (fun k => k = 6 ∨ k = 13 + ns) (fun F => F (13 + ns) = nI (pNm (pExp 6 (pNext S))) ∧ F 6 = nI (ns + 1)))) := by
  have hh0 := hR.hd
  refine am.of (by decide) (Nat.le_of_ble_eq_true rfl) ?_
  refine aj.aload_n dX12_readShooter_0 rfl ?_
  refine aj.rFg rfl dX12_readShooter_1 hR ?_
  refine aj.bipush (v := 6) dX12_readShooter_4 rfl ?_
  refine aj.rFl (i := 6) dX12_readShooter_6 hR rfl (by omega) ?_
  refine aj.iconst (v := 4) dX12_readShooter_7 rfl ?_
  refine aj.icmp_neN (a := ns) (b := 4) (tgt := 16) dX12_readShooter_8 hns rfl (by omega) (by omega) rfl (fun c8 => ?_) (fun c8 => ?_)
  · refine aj.aload_n dX12_readShooter_16 rfl ?_
    have hw17 := hR.hd
    refine aj.rWr rfl dX12_readShooter_17 hR ?_
    refine aj.if_eqN (a := pWr S) (tgt := 24) dX12_readShooter_20 rfl (by omega) rfl (fun c20 => ?_) (fun c20 => ?_)
    · refine aj.aload_n dX12_readShooter_24 rfl ?_
      refine aj.rCall0 (d' := 5) (As := []) (rest := []) hR dX12_readShooter_25 v_X12_135 li_X12_next rfl rfl rfl (Nat.le_of_ble_eq_true rfl) (Nat.le_of_ble_eq_true rfl) (r_next hG hC (hh) (by decide) (by decide) hR) (fun M hR => ?_)
      refine aj.aload_n dX12_readShooter_28 rfl ?_
      refine aj.rFg rfl dX12_readShooter_29 hR ?_
      refine aj.bipush (v := 13) dX12_readShooter_32 rfl ?_
      refine aj.aload_n dX12_readShooter_34 rfl ?_
      refine aj.rFg rfl dX12_readShooter_35 hR ?_
      refine aj.bipush (v := 6) dX12_readShooter_38 rfl ?_
      refine aj.rFl (i := 6) dX12_readShooter_40 hR rfl (by omega) ?_
      refine aj.iaddN (a := 13) (b := ns) dX12_readShooter_41 rfl hns ?_
      refine aj.aload_n dX12_readShooter_42 rfl ?_
      refine aj.bipush (v := 6) dX12_readShooter_43 rfl ?_
      refine aj.iconst (v := 0) dX12_readShooter_45 rfl ?_
      refine aj.bipush (v := 9) dX12_readShooter_46 rfl ?_
      refine aj.rCallX (d' := 7) (As := [.int 6, .int 0, .int 9]) (rest := [.int (nI (13 + ns)), .ref (b + 4)]) hR dX12_readShooter_48 v_X12_186 li_X12_named rfl rfl rfl (Nat.le_of_ble_eq_true rfl) (Nat.le_of_ble_eq_true rfl) (r_named hG hC 6 rfl (by decide) (by decide) 0 rfl (by decide) 9 rfl (by decide) hR) (fun x48 M hR => ?_)
      obtain ⟨hx48, hR⟩ := hR
      refine aj.rFs (i := 13 + ns) dX12_readShooter_51 hR rfl (by omega) (fun M hR => ?_)
      refine aj.aload_n dX12_readShooter_52 rfl ?_
      have hw53 := hR.hd
      refine aj.rWr rfl dX12_readShooter_53 hR ?_
      refine aj.if_neN (a := pWr (pTake 0 9 (pExp 6 (pNext S)))) (tgt := 70) dX12_readShooter_56 rfl (by omega) rfl (fun c56 => ?_) (fun c56 => ?_)
      · refine aj.vret rfl dX12_readShooter_70 ⟨rfl, _, by rw [if_neg c8]; exact hR, fun j hj => ?_, fun k hk => ?_, fun ⟨cs, ts, hS⟩ => ?_⟩
        · rw [va_up_ne _ _ hj]
        · rw [va_up_self, pk_un (fun e => hk (Or.inr e))]
        · rw [if_neg c8] at hS; exact absurd ((pWr_iff hR).mpr ⟨cs, ts, hS⟩) c56
      · refine aj.aload_n dX12_readShooter_59 rfl ?_
        refine aj.rFg rfl dX12_readShooter_60 hR ?_
        refine aj.bipush (v := 6) dX12_readShooter_63 rfl ?_
        refine aj.dup2 dX12_readShooter_65 rfl rfl ?_
        refine aj.rFl (i := 6) dX12_readShooter_66 hR rfl (by omega) ?_
        refine aj.iconst (v := 1) dX12_readShooter_67 rfl ?_
        refine aj.iaddN (a := ns) (b := 1) dX12_readShooter_68 (by rw [va_up_self, pk_un (by omega)]; exact hns) rfl ?_
        refine aj.rFs (i := 6) dX12_readShooter_69 hR rfl (by omega) (fun M hR => ?_)
        refine aj.vret rfl dX12_readShooter_70 ⟨rfl, _, by rw [if_neg c8]; exact hR, fun j hj => ?_, fun k hk => ?_, fun ⟨cs, ts, hS⟩ => ⟨?_, ?_⟩⟩
        · rw [va_up_ne _ _ hj, va_up_ne _ _ hj]
        · rw [va_up_self, pk_un (fun e => hk (Or.inl e)), va_up_self, pk_un (fun e => hk (Or.inr e))]
        · rw [if_neg c8] at hS; rw [va_up_self, pk_un (by omega), va_up_self, pk_us]; exact hx48 _ _ hS
        · rw [va_up_self, pk_us]
    · exact absurd (hh0.2.2.1.mpr (by omega)) c20
  · refine aj.aload_n dX12_readShooter_11 rfl ?_
    refine aj.iconst (v := 4) dX12_readShooter_12 rfl ?_
    refine aj.rCall0 (d' := 0) (As := [.int 4]) (rest := []) hR dX12_readShooter_13 v_X12_138 li_X12_fails rfl rfl rfl (Nat.le_of_ble_eq_true rfl) (Nat.le_of_ble_eq_true rfl) (r_fails 4 rfl (by decide) hR) (fun M hR => ?_)
    refine aj.aload_n dX12_readShooter_16 rfl ?_
    have hw17 := hR.hd
    refine aj.rWr rfl dX12_readShooter_17 hR ?_
    refine aj.if_eqN (a := pWr (pFail 4 S)) (tgt := 24) dX12_readShooter_20 rfl (by omega) rfl (fun c20 => ?_) (fun c20 => ?_)
    · exact absurd c20 (pWr_f hR)
    · exact aj.vret rfl dX12_readShooter_23 ⟨rfl, A0, by rw [if_pos c8]; exact hR, fun j hj => rfl, fun k hk => rfl, fun ⟨cs, ts, hS⟩ => by rw [if_pos c8] at hS; exact (pFail_no hS).elim⟩
theorem r_closes {G : zG} {l : Launch} {b : Nat} {M0 M : zM} {I0 : Nat → Int32} {A0 : Nat → Nat → Int32} {L : Nat → Nat → Int64} {tx : Nat → Nat} {n : Nat} {S : pS} {av : Nat → Nat} {fm : Nat} (hG : zSt G av fm) (hC : rC tx n I0 A0) (hR : rW b M0 M I0 A0 L tx n S) : am G l kX12_closes 7 [.ref b] M 0 0 (zv (fun M' => rT b M0 M' I0 A0 L tx n (pExp 30 S) (fun k => k = 0) (fun F => F 0 = A0 4 0 + 1))) := by
  refine am.of (by decide) (Nat.le_of_ble_eq_true rfl) ?_
  refine aj.aload_n dX12_closes_0 rfl ?_
  refine aj.bipush (v := 30) dX12_closes_1 rfl ?_
  refine aj.rCall1 (d' := 6) (As := [.int 30]) (rest := []) hR dX12_closes_3 v_X12_161 li_X12_eats rfl rfl rfl (Nat.le_of_ble_eq_true rfl) (Nat.le_of_ble_eq_true rfl) (r_eats hG hC 30 rfl (by decide) (by decide) hR) (fun M hR => ?_)
  refine aj.if_neB (tgt := 14) dX12_closes_6 rfl (fun c6 => ?_) (fun c6 => ?_)
  · rw [if_pos c6, ← pExp_y c6] at hR
    refine aj.aload_n dX12_closes_14 rfl ?_
    refine aj.rFg rfl dX12_closes_15 hR ?_
    refine aj.iconst (v := 0) dX12_closes_18 rfl ?_
    refine aj.dup2 dX12_closes_19 rfl rfl ?_
    refine aj.rFl (i := 0) dX12_closes_20 hR rfl (by omega) ?_
    refine aj.iconst (v := 1) dX12_closes_21 rfl ?_
    refine aj.iadd dX12_closes_22 ?_
    refine aj.rFs (i := 0) dX12_closes_23 hR rfl (by omega) (fun M hR => ?_)
    exact aj.vret rfl dX12_closes_24 ⟨rfl, _, hR, fun j hj => by rw [va_up_ne _ _ hj], fun k hk => by rw [va_up_self, pk_un hk], fun _ => by rw [va_up_self]; exact pk_us⟩
  · rw [if_neg c6] at hR
    refine aj.aload_n dX12_closes_9 rfl ?_
    refine aj.iconst (v := 2) dX12_closes_10 rfl ?_
    refine aj.rCall0 (d' := 0) (As := [.int 2]) (rest := []) hR dX12_closes_11 v_X12_138 li_X12_fails rfl rfl rfl (Nat.le_of_ble_eq_true rfl) (Nat.le_of_ble_eq_true rfl) (r_fails 2 rfl (by decide) hR) (fun M hR => ?_)
    rw [← pExp_n c6] at hR
    refine aj.aload_n dX12_closes_14 rfl ?_
    refine aj.rFg rfl dX12_closes_15 hR ?_
    refine aj.iconst (v := 0) dX12_closes_18 rfl ?_
    refine aj.dup2 dX12_closes_19 rfl rfl ?_
    refine aj.rFl (i := 0) dX12_closes_20 hR rfl (by omega) ?_
    refine aj.iconst (v := 1) dX12_closes_21 rfl ?_
    refine aj.iadd dX12_closes_22 ?_
    refine aj.rFs (i := 0) dX12_closes_23 hR rfl (by omega) (fun M hR => ?_)
    exact aj.vret rfl dX12_closes_24 ⟨rfl, _, hR, fun j hj => by rw [va_up_ne _ _ hj], fun k hk => by rw [va_up_self, pk_un hk], fun _ => by rw [va_up_self]; exact pk_us⟩
/-- a law's place in fresh -/
abbrev lwJ (st : Bool) : Nat := if st then 0 else 1
theorem r_readLaw_t {G : zG} {l : Launch} {b : Nat} {M0 M : zM} {I0 : Nat → Int32} {A0 : Nat → Nat → Int32} {L : Nat → Nat → Int64} {tx : Nat → Nat} {n : Nat} {S : pS} {av : Nat → Nat} {fm : Nat} (hG : zSt G av fm) (hC : rC tx n I0 A0) {hd : Nat} (hh : pHd S = hd) (hd98 : hd < 98) (hd24 : hd ≠ 24) (hR : rW b M0 M I0 A0 L tx n S) : am G l kX12_readLaw 62 [.ref b, .int 0] M 0 0 (zv (fun M' => rT b M0 M' (va_up I0 15 0) A0 L tx n (dLw true S) (fun k => k = 7 ∨ k = 9 ∨ k = 11) (fun F => F 7 = 1 ∧ F 9 = nI (pCs (pExp 31 (pNext S))).length ∧ F 11 = nI (pCs (dLw true S)).length - nI (pCs (pExp 31 (pNext S))).length))) := by
  have hT := hR.T
  have hz := hR.sz
  have g1 := pNext_lt hT hh hd98 hd24
  have g2 := (pExp_G (k := 31) (by decide) (by decide)).2 _ g1.1
  have hzE : pSz (pExp 31 (pNext S)) ≤ n := by omega
  refine am.of (by decide) (Nat.le_of_ble_eq_true rfl) ?_
  refine aj.aload_n dX12_readLaw_0 rfl ?_
  refine aj.rCall0 (d' := 5) (As := []) (rest := []) hR dX12_readLaw_1 v_X12_135 li_X12_next rfl rfl rfl (Nat.le_of_ble_eq_true rfl) (Nat.le_of_ble_eq_true rfl) (r_next hG hC hh hd98 hd24 hR) (fun M hR => ?_)
  refine aj.aload_n dX12_readLaw_4 rfl ?_
  refine aj.bipush (v := 31) dX12_readLaw_5 rfl ?_
  refine aj.rCall1 (d' := 6) (As := [.int 31]) (rest := []) hR dX12_readLaw_7 v_X12_161 li_X12_eats rfl rfl rfl (Nat.le_of_ble_eq_true rfl) (Nat.le_of_ble_eq_true rfl) (r_eats hG hC 31 rfl (by decide) (by decide) hR) (fun M hR => ?_)
  refine aj.if_neB (tgt := 18) dX12_readLaw_10 rfl (fun c10 => ?_) (fun c10 => ?_)
  · rw [if_pos c10, ← pExp_y c10] at hR
    refine aj.aload_n dX12_readLaw_18 rfl ?_
    refine aj.rFg rfl dX12_readLaw_19 hR ?_
    refine aj.sipush (v := 139) dX12_readLaw_22 rfl ?_
    refine aj.rFc dX12_readLaw_25 hR rfl (fun y25 hy25 => ?_)
    refine aj.istore_n (lv' := [(2, .int y25), (0, .ref b), (1, .int 0)]) dX12_readLaw_26 (Nat.le_of_ble_eq_true rfl) rfl ?_
    refine aj.aload_n dX12_readLaw_27 rfl ?_
    refine aj.iload_n dX12_readLaw_28 rfl ?_
    refine aj.rRd rfl dX12_readLaw_29 hR (fun M hR => ?_)
    refine aj.iload_n dX12_readLaw_32 rfl ?_
    refine aj.if_neN (a := 0) (tgt := 44) dX12_readLaw_33 rfl (by omega) rfl (fun c33 => ?_) (fun c33 => ?_)
    · exact absurd rfl c33
    · refine aj.aload_n dX12_readLaw_36 rfl ?_
      refine aj.iconst (v := 0) dX12_readLaw_37 rfl ?_
      refine aj.rCall0 (d' := 58) (As := [.int 0]) (rest := []) hR dX12_readLaw_38 v_X12_158 li_X12_readSum rfl rfl rfl (Nat.le_of_ble_eq_true rfl) (Nat.le_of_ble_eq_true rfl) ((r_all hG (hC.upI _) true rfl 6 (by decide)).1 _ _ _ rfl hzE hR) (fun M hR => ?_)
      rw [← dLw_t] at hR
      refine aj.goto (tgt := 49) dX12_readLaw_41 rfl ?_
      refine aj.aload_n dX12_readLaw_49 rfl ?_
      have hw50 := hR.hd
      refine aj.rWr rfl dX12_readLaw_50 hR ?_
      refine aj.if_eqN (a := pWr (dLw true S)) (tgt := 57) dX12_readLaw_53 rfl (by omega) rfl (fun c53 => ?_) (fun c53 => ?_)
      · refine aj.aload_n dX12_readLaw_57 rfl ?_
        refine aj.rFg rfl dX12_readLaw_58 hR ?_
        refine aj.bipush (v := 7) dX12_readLaw_61 rfl ?_
        refine aj.iload_n dX12_readLaw_63 rfl ?_
        refine aj.iaddN (a := 7) (b := 0) dX12_readLaw_64 rfl rfl ?_
        refine aj.iconst (v := 1) dX12_readLaw_65 rfl ?_
        refine aj.rFs (i := 7 + 0) dX12_readLaw_66 hR rfl (by omega) (fun M hR => ?_)
        refine aj.aload_n dX12_readLaw_67 rfl ?_
        refine aj.rFg rfl dX12_readLaw_68 hR ?_
        refine aj.bipush (v := 9) dX12_readLaw_71 rfl ?_
        refine aj.iload_n dX12_readLaw_73 rfl ?_
        refine aj.iaddN (a := 9) (b := 0) dX12_readLaw_74 rfl rfl ?_
        refine aj.iload_n dX12_readLaw_75 rfl ?_
        refine aj.rFs (i := 9 + 0) dX12_readLaw_76 hR rfl (by omega) (fun M hR => ?_)
        refine aj.aload_n dX12_readLaw_77 rfl ?_
        refine aj.rFg rfl dX12_readLaw_78 hR ?_
        refine aj.bipush (v := 11) dX12_readLaw_81 rfl ?_
        refine aj.iload_n dX12_readLaw_83 rfl ?_
        refine aj.iaddN (a := 11) (b := 0) dX12_readLaw_84 rfl rfl ?_
        refine aj.aload_n dX12_readLaw_85 rfl ?_
        refine aj.rFg rfl dX12_readLaw_86 hR ?_
        refine aj.sipush (v := 139) dX12_readLaw_89 rfl ?_
        refine aj.rFc dX12_readLaw_92 hR rfl (fun y92 hy92 => ?_)
        refine aj.iload_n dX12_readLaw_93 rfl ?_
        refine aj.isub dX12_readLaw_94 ?_
        refine aj.rFs (i := 11 + 0) dX12_readLaw_95 hR rfl (by omega) (fun M hR => ?_)
        refine aj.vret rfl dX12_readLaw_96 ⟨rfl, _, hR, fun j hj => ?_, fun k hk => ?_, fun ⟨cs, ts, hS⟩ => ?_⟩
        · rw [va_up_ne _ _ hj, va_up_ne _ _ hj, va_up_ne _ _ hj]
        · rw [va_up_self, pk_un (fun e => hk (Or.inr (Or.inr e))), va_up_self, pk_un (fun e => hk (Or.inr (Or.inl e))), va_up_self, pk_un (fun e => hk (Or.inl e))]
        · obtain ⟨c1, t1, e1⟩ : ∃ c t, pExp 31 (pNext S) = .inr (c, t) := by
            cases hq : pExp 31 (pNext S) with
            | inl e =>
              rw [dLw_e true hq] at hS; cases hS
            | inr x => exact ⟨x.1, x.2, rfl⟩
          refine ⟨?_, ?_, ?_⟩
          · rw [va_up_self, pk_un (by decide), va_up_self, pk_un (by decide), va_up_self, pk_us]
          · rw [va_up_self, pk_un (by decide), va_up_self, pk_us, hy25 _ _ e1, e1]; rfl
          · rw [va_up_self, pk_us, hy92 _ _ hS, hy25 _ _ e1, e1, hS]; rfl
      · exact aj.vret rfl dX12_readLaw_56 ⟨rfl, A0, hR, fun j hj => rfl, fun k hk => rfl, fun hS => absurd ((pWr_iff hR).mpr hS) c53⟩
  · rw [if_neg c10] at hR
    refine aj.aload_n dX12_readLaw_13 rfl ?_
    refine aj.iconst (v := 2) dX12_readLaw_14 rfl ?_
    refine aj.rCall0 (d' := 0) (As := [.int 2]) (rest := []) hR dX12_readLaw_15 v_X12_138 li_X12_fails rfl rfl rfl (Nat.le_of_ble_eq_true rfl) (Nat.le_of_ble_eq_true rfl) (r_fails 2 rfl (by decide) hR) (fun M hR => ?_)
    rw [← pExp_n c10] at hR
    refine aj.aload_n dX12_readLaw_18 rfl ?_
    refine aj.rFg rfl dX12_readLaw_19 hR ?_
    refine aj.sipush (v := 139) dX12_readLaw_22 rfl ?_
    refine aj.rFc dX12_readLaw_25 hR rfl (fun y25 hy25 => ?_)
    refine aj.istore_n (lv' := [(2, .int y25), (0, .ref b), (1, .int 0)]) dX12_readLaw_26 (Nat.le_of_ble_eq_true rfl) rfl ?_
    refine aj.aload_n dX12_readLaw_27 rfl ?_
    refine aj.iload_n dX12_readLaw_28 rfl ?_
    refine aj.rRd rfl dX12_readLaw_29 hR (fun M hR => ?_)
    refine aj.iload_n dX12_readLaw_32 rfl ?_
    refine aj.if_neN (a := 0) (tgt := 44) dX12_readLaw_33 rfl (by omega) rfl (fun c33 => ?_) (fun c33 => ?_)
    · exact absurd rfl c33
    · refine aj.aload_n dX12_readLaw_36 rfl ?_
      refine aj.iconst (v := 0) dX12_readLaw_37 rfl ?_
      refine aj.rCall0 (d' := 58) (As := [.int 0]) (rest := []) hR dX12_readLaw_38 v_X12_158 li_X12_readSum rfl rfl rfl (Nat.le_of_ble_eq_true rfl) (Nat.le_of_ble_eq_true rfl) ((r_all hG (hC.upI _) true rfl 6 (by decide)).1 _ _ _ rfl hzE hR) (fun M hR => ?_)
      rw [← dLw_t] at hR
      refine aj.goto (tgt := 49) dX12_readLaw_41 rfl ?_
      refine aj.aload_n dX12_readLaw_49 rfl ?_
      have hw50 := hR.hd
      refine aj.rWr rfl dX12_readLaw_50 hR ?_
      refine aj.if_eqN (a := pWr (dLw true S)) (tgt := 57) dX12_readLaw_53 rfl (by omega) rfl (fun c53 => ?_) (fun c53 => ?_)
      · refine aj.aload_n dX12_readLaw_57 rfl ?_
        refine aj.rFg rfl dX12_readLaw_58 hR ?_
        refine aj.bipush (v := 7) dX12_readLaw_61 rfl ?_
        refine aj.iload_n dX12_readLaw_63 rfl ?_
        refine aj.iaddN (a := 7) (b := 0) dX12_readLaw_64 rfl rfl ?_
        refine aj.iconst (v := 1) dX12_readLaw_65 rfl ?_
        refine aj.rFs (i := 7 + 0) dX12_readLaw_66 hR rfl (by omega) (fun M hR => ?_)
        refine aj.aload_n dX12_readLaw_67 rfl ?_
        refine aj.rFg rfl dX12_readLaw_68 hR ?_
        refine aj.bipush (v := 9) dX12_readLaw_71 rfl ?_
        refine aj.iload_n dX12_readLaw_73 rfl ?_
        refine aj.iaddN (a := 9) (b := 0) dX12_readLaw_74 rfl rfl ?_
        refine aj.iload_n dX12_readLaw_75 rfl ?_
        refine aj.rFs (i := 9 + 0) dX12_readLaw_76 hR rfl (by omega) (fun M hR => ?_)
        refine aj.aload_n dX12_readLaw_77 rfl ?_
        refine aj.rFg rfl dX12_readLaw_78 hR ?_
        refine aj.bipush (v := 11) dX12_readLaw_81 rfl ?_
        refine aj.iload_n dX12_readLaw_83 rfl ?_
        refine aj.iaddN (a := 11) (b := 0) dX12_readLaw_84 rfl rfl ?_
        refine aj.aload_n dX12_readLaw_85 rfl ?_
        refine aj.rFg rfl dX12_readLaw_86 hR ?_
        refine aj.sipush (v := 139) dX12_readLaw_89 rfl ?_
        refine aj.rFc dX12_readLaw_92 hR rfl (fun y92 hy92 => ?_)
        refine aj.iload_n dX12_readLaw_93 rfl ?_
        refine aj.isub dX12_readLaw_94 ?_
        refine aj.rFs (i := 11 + 0) dX12_readLaw_95 hR rfl (by omega) (fun M hR => ?_)
        refine aj.vret rfl dX12_readLaw_96 ⟨rfl, _, hR, fun j hj => ?_, fun k hk => ?_, fun ⟨cs, ts, hS⟩ => ?_⟩
        · rw [va_up_ne _ _ hj, va_up_ne _ _ hj, va_up_ne _ _ hj]
        · rw [va_up_self, pk_un (fun e => hk (Or.inr (Or.inr e))), va_up_self, pk_un (fun e => hk (Or.inr (Or.inl e))), va_up_self, pk_un (fun e => hk (Or.inl e))]
        · obtain ⟨c1, t1, e1⟩ : ∃ c t, pExp 31 (pNext S) = .inr (c, t) := by
            cases hq : pExp 31 (pNext S) with
            | inl e =>
              rw [dLw_e true hq] at hS; cases hS
            | inr x => exact ⟨x.1, x.2, rfl⟩
          refine ⟨?_, ?_, ?_⟩
          · rw [va_up_self, pk_un (by decide), va_up_self, pk_un (by decide), va_up_self, pk_us]
          · rw [va_up_self, pk_un (by decide), va_up_self, pk_us, hy25 _ _ e1, e1]; rfl
          · rw [va_up_self, pk_us, hy92 _ _ hS, hy25 _ _ e1, e1, hS]; rfl
      · exact aj.vret rfl dX12_readLaw_56 ⟨rfl, A0, hR, fun j hj => rfl, fun k hk => rfl, fun hS => absurd ((pWr_iff hR).mpr hS) c53⟩
theorem r_readLaw_f {G : zG} {l : Launch} {b : Nat} {M0 M : zM} {I0 : Nat → Int32} {A0 : Nat → Nat → Int32} {L : Nat → Nat → Int64} {tx : Nat → Nat} {n : Nat} {S : pS} {av : Nat → Nat} {fm : Nat} (hG : zSt G av fm) (hC : rC tx n I0 A0) {hd : Nat} (hh : pHd S = hd) (hd98 : hd < 98) (hd24 : hd ≠ 24) (hR : rW b M0 M I0 A0 L tx n S) : am G l kX12_readLaw 62 [.ref b, .int 1] M 0 0 (zv (fun M' => rT b M0 M' (va_up I0 15 1) A0 L tx n (dLw false S) (fun k => k = 8 ∨ k = 10 ∨ k = 12) (fun F => F 8 = 1 ∧ F 10 = nI (pCs (pExp 31 (pNext S))).length ∧ F 12 = nI (pCs (dLw false S)).length - nI (pCs (pExp 31 (pNext S))).length))) := by
  have hT := hR.T
  have hz := hR.sz
  have g1 := pNext_lt hT hh hd98 hd24
  have g2 := (pExp_G (k := 31) (by decide) (by decide)).2 _ g1.1
  have hzE : pSz (pExp 31 (pNext S)) ≤ n := by omega
  refine am.of (by decide) (Nat.le_of_ble_eq_true rfl) ?_
  refine aj.aload_n dX12_readLaw_0 rfl ?_
  refine aj.rCall0 (d' := 5) (As := []) (rest := []) hR dX12_readLaw_1 v_X12_135 li_X12_next rfl rfl rfl (Nat.le_of_ble_eq_true rfl) (Nat.le_of_ble_eq_true rfl) (r_next hG hC hh hd98 hd24 hR) (fun M hR => ?_)
  refine aj.aload_n dX12_readLaw_4 rfl ?_
  refine aj.bipush (v := 31) dX12_readLaw_5 rfl ?_
  refine aj.rCall1 (d' := 6) (As := [.int 31]) (rest := []) hR dX12_readLaw_7 v_X12_161 li_X12_eats rfl rfl rfl (Nat.le_of_ble_eq_true rfl) (Nat.le_of_ble_eq_true rfl) (r_eats hG hC 31 rfl (by decide) (by decide) hR) (fun M hR => ?_)
  refine aj.if_neB (tgt := 18) dX12_readLaw_10 rfl (fun c10 => ?_) (fun c10 => ?_)
  · rw [if_pos c10, ← pExp_y c10] at hR
    refine aj.aload_n dX12_readLaw_18 rfl ?_
    refine aj.rFg rfl dX12_readLaw_19 hR ?_
    refine aj.sipush (v := 139) dX12_readLaw_22 rfl ?_
    refine aj.rFc dX12_readLaw_25 hR rfl (fun y25 hy25 => ?_)
    refine aj.istore_n (lv' := [(2, .int y25), (0, .ref b), (1, .int 1)]) dX12_readLaw_26 (Nat.le_of_ble_eq_true rfl) rfl ?_
    refine aj.aload_n dX12_readLaw_27 rfl ?_
    refine aj.iload_n dX12_readLaw_28 rfl ?_
    refine aj.rRd rfl dX12_readLaw_29 hR (fun M hR => ?_)
    refine aj.iload_n dX12_readLaw_32 rfl ?_
    refine aj.if_neN (a := 1) (tgt := 44) dX12_readLaw_33 rfl (by omega) rfl (fun c33 => ?_) (fun c33 => ?_)
    · refine aj.aload_n dX12_readLaw_44 rfl ?_
      refine aj.iconst (v := 0) dX12_readLaw_45 rfl ?_
      refine aj.rCall0 (d' := 61) (As := [.int 0]) (rest := []) hR dX12_readLaw_46 v_X12_167 li_X12_readTruth rfl rfl rfl (Nat.le_of_ble_eq_true rfl) (Nat.le_of_ble_eq_true rfl) ((r_all hG (hC.upI _) false rfl 6 (by decide)).2.1 _ _ _ rfl hzE hR) (fun M hR => ?_)
      rw [← dLw_f] at hR
      refine aj.aload_n dX12_readLaw_49 rfl ?_
      have hw50 := hR.hd
      refine aj.rWr rfl dX12_readLaw_50 hR ?_
      refine aj.if_eqN (a := pWr (dLw false S)) (tgt := 57) dX12_readLaw_53 rfl (by omega) rfl (fun c53 => ?_) (fun c53 => ?_)
      · refine aj.aload_n dX12_readLaw_57 rfl ?_
        refine aj.rFg rfl dX12_readLaw_58 hR ?_
        refine aj.bipush (v := 7) dX12_readLaw_61 rfl ?_
        refine aj.iload_n dX12_readLaw_63 rfl ?_
        refine aj.iaddN (a := 7) (b := 1) dX12_readLaw_64 rfl rfl ?_
        refine aj.iconst (v := 1) dX12_readLaw_65 rfl ?_
        refine aj.rFs (i := 7 + 1) dX12_readLaw_66 hR rfl (by omega) (fun M hR => ?_)
        refine aj.aload_n dX12_readLaw_67 rfl ?_
        refine aj.rFg rfl dX12_readLaw_68 hR ?_
        refine aj.bipush (v := 9) dX12_readLaw_71 rfl ?_
        refine aj.iload_n dX12_readLaw_73 rfl ?_
        refine aj.iaddN (a := 9) (b := 1) dX12_readLaw_74 rfl rfl ?_
        refine aj.iload_n dX12_readLaw_75 rfl ?_
        refine aj.rFs (i := 9 + 1) dX12_readLaw_76 hR rfl (by omega) (fun M hR => ?_)
        refine aj.aload_n dX12_readLaw_77 rfl ?_
        refine aj.rFg rfl dX12_readLaw_78 hR ?_
        refine aj.bipush (v := 11) dX12_readLaw_81 rfl ?_
        refine aj.iload_n dX12_readLaw_83 rfl ?_
        refine aj.iaddN (a := 11) (b := 1) dX12_readLaw_84 rfl rfl ?_
        refine aj.aload_n dX12_readLaw_85 rfl ?_
        refine aj.rFg rfl dX12_readLaw_86 hR ?_
        refine aj.sipush (v := 139) dX12_readLaw_89 rfl ?_
        refine aj.rFc dX12_readLaw_92 hR rfl (fun y92 hy92 => ?_)
        refine aj.iload_n dX12_readLaw_93 rfl ?_
        refine aj.isub dX12_readLaw_94 ?_
        refine aj.rFs (i := 11 + 1) dX12_readLaw_95 hR rfl (by omega) (fun M hR => ?_)
        refine aj.vret rfl dX12_readLaw_96 ⟨rfl, _, hR, fun j hj => ?_, fun k hk => ?_, fun ⟨cs, ts, hS⟩ => ?_⟩
        · rw [va_up_ne _ _ hj, va_up_ne _ _ hj, va_up_ne _ _ hj]
        · rw [va_up_self, pk_un (fun e => hk (Or.inr (Or.inr e))), va_up_self, pk_un (fun e => hk (Or.inr (Or.inl e))), va_up_self, pk_un (fun e => hk (Or.inl e))]
        · obtain ⟨c1, t1, e1⟩ : ∃ c t, pExp 31 (pNext S) = .inr (c, t) := by
            cases hq : pExp 31 (pNext S) with
            | inl e =>
              rw [dLw_e false hq] at hS; cases hS
            | inr x => exact ⟨x.1, x.2, rfl⟩
          refine ⟨?_, ?_, ?_⟩
          · rw [va_up_self, pk_un (by decide), va_up_self, pk_un (by decide), va_up_self, pk_us]
          · rw [va_up_self, pk_un (by decide), va_up_self, pk_us, hy25 _ _ e1, e1]; rfl
          · rw [va_up_self, pk_us, hy92 _ _ hS, hy25 _ _ e1, e1, hS]; rfl
      · exact aj.vret rfl dX12_readLaw_56 ⟨rfl, A0, hR, fun j hj => rfl, fun k hk => rfl, fun hS => absurd ((pWr_iff hR).mpr hS) c53⟩
    · exact absurd c33 (by decide)
  · rw [if_neg c10] at hR
    refine aj.aload_n dX12_readLaw_13 rfl ?_
    refine aj.iconst (v := 2) dX12_readLaw_14 rfl ?_
    refine aj.rCall0 (d' := 0) (As := [.int 2]) (rest := []) hR dX12_readLaw_15 v_X12_138 li_X12_fails rfl rfl rfl (Nat.le_of_ble_eq_true rfl) (Nat.le_of_ble_eq_true rfl) (r_fails 2 rfl (by decide) hR) (fun M hR => ?_)
    rw [← pExp_n c10] at hR
    refine aj.aload_n dX12_readLaw_18 rfl ?_
    refine aj.rFg rfl dX12_readLaw_19 hR ?_
    refine aj.sipush (v := 139) dX12_readLaw_22 rfl ?_
    refine aj.rFc dX12_readLaw_25 hR rfl (fun y25 hy25 => ?_)
    refine aj.istore_n (lv' := [(2, .int y25), (0, .ref b), (1, .int 1)]) dX12_readLaw_26 (Nat.le_of_ble_eq_true rfl) rfl ?_
    refine aj.aload_n dX12_readLaw_27 rfl ?_
    refine aj.iload_n dX12_readLaw_28 rfl ?_
    refine aj.rRd rfl dX12_readLaw_29 hR (fun M hR => ?_)
    refine aj.iload_n dX12_readLaw_32 rfl ?_
    refine aj.if_neN (a := 1) (tgt := 44) dX12_readLaw_33 rfl (by omega) rfl (fun c33 => ?_) (fun c33 => ?_)
    · refine aj.aload_n dX12_readLaw_44 rfl ?_
      refine aj.iconst (v := 0) dX12_readLaw_45 rfl ?_
      refine aj.rCall0 (d' := 61) (As := [.int 0]) (rest := []) hR dX12_readLaw_46 v_X12_167 li_X12_readTruth rfl rfl rfl (Nat.le_of_ble_eq_true rfl) (Nat.le_of_ble_eq_true rfl) ((r_all hG (hC.upI _) false rfl 6 (by decide)).2.1 _ _ _ rfl hzE hR) (fun M hR => ?_)
      rw [← dLw_f] at hR
      refine aj.aload_n dX12_readLaw_49 rfl ?_
      have hw50 := hR.hd
      refine aj.rWr rfl dX12_readLaw_50 hR ?_
      refine aj.if_eqN (a := pWr (dLw false S)) (tgt := 57) dX12_readLaw_53 rfl (by omega) rfl (fun c53 => ?_) (fun c53 => ?_)
      · refine aj.aload_n dX12_readLaw_57 rfl ?_
        refine aj.rFg rfl dX12_readLaw_58 hR ?_
        refine aj.bipush (v := 7) dX12_readLaw_61 rfl ?_
        refine aj.iload_n dX12_readLaw_63 rfl ?_
        refine aj.iaddN (a := 7) (b := 1) dX12_readLaw_64 rfl rfl ?_
        refine aj.iconst (v := 1) dX12_readLaw_65 rfl ?_
        refine aj.rFs (i := 7 + 1) dX12_readLaw_66 hR rfl (by omega) (fun M hR => ?_)
        refine aj.aload_n dX12_readLaw_67 rfl ?_
        refine aj.rFg rfl dX12_readLaw_68 hR ?_
        refine aj.bipush (v := 9) dX12_readLaw_71 rfl ?_
        refine aj.iload_n dX12_readLaw_73 rfl ?_
        refine aj.iaddN (a := 9) (b := 1) dX12_readLaw_74 rfl rfl ?_
        refine aj.iload_n dX12_readLaw_75 rfl ?_
        refine aj.rFs (i := 9 + 1) dX12_readLaw_76 hR rfl (by omega) (fun M hR => ?_)
        refine aj.aload_n dX12_readLaw_77 rfl ?_
        refine aj.rFg rfl dX12_readLaw_78 hR ?_
        refine aj.bipush (v := 11) dX12_readLaw_81 rfl ?_
        refine aj.iload_n dX12_readLaw_83 rfl ?_
        refine aj.iaddN (a := 11) (b := 1) dX12_readLaw_84 rfl rfl ?_
        refine aj.aload_n dX12_readLaw_85 rfl ?_
        refine aj.rFg rfl dX12_readLaw_86 hR ?_
        refine aj.sipush (v := 139) dX12_readLaw_89 rfl ?_
        refine aj.rFc dX12_readLaw_92 hR rfl (fun y92 hy92 => ?_)
        refine aj.iload_n dX12_readLaw_93 rfl ?_
        refine aj.isub dX12_readLaw_94 ?_
        refine aj.rFs (i := 11 + 1) dX12_readLaw_95 hR rfl (by omega) (fun M hR => ?_)
        refine aj.vret rfl dX12_readLaw_96 ⟨rfl, _, hR, fun j hj => ?_, fun k hk => ?_, fun ⟨cs, ts, hS⟩ => ?_⟩
        · rw [va_up_ne _ _ hj, va_up_ne _ _ hj, va_up_ne _ _ hj]
        · rw [va_up_self, pk_un (fun e => hk (Or.inr (Or.inr e))), va_up_self, pk_un (fun e => hk (Or.inr (Or.inl e))), va_up_self, pk_un (fun e => hk (Or.inl e))]
        · obtain ⟨c1, t1, e1⟩ : ∃ c t, pExp 31 (pNext S) = .inr (c, t) := by
            cases hq : pExp 31 (pNext S) with
            | inl e =>
              rw [dLw_e false hq] at hS; cases hS
            | inr x => exact ⟨x.1, x.2, rfl⟩
          refine ⟨?_, ?_, ?_⟩
          · rw [va_up_self, pk_un (by decide), va_up_self, pk_un (by decide), va_up_self, pk_us]
          · rw [va_up_self, pk_un (by decide), va_up_self, pk_us, hy25 _ _ e1, e1]; rfl
          · rw [va_up_self, pk_us, hy92 _ _ hS, hy25 _ _ e1, e1, hS]; rfl
      · exact aj.vret rfl dX12_readLaw_56 ⟨rfl, A0, hR, fun j hj => rfl, fun k hk => rfl, fun hS => absurd ((pWr_iff hR).mpr hS) c53⟩
    · exact absurd c33 (by decide)
