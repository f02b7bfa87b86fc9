/-- what reading leaves in the class -/
def bF (a : Nat) (M M1 : zM) (V0 V1 : Nat → Nat → Int32) (R R1 : Nat → Nat → Option Nat) (D : dT) : Prop := V1 0 0 = 0 ∧ V1 2 4 = nI (dFk D) ∧ V1 2 5 = dFp D ∧ bd (V1 2 2) 900 ∧ (∀ q, ¬ sc q → q ≠ 0 → q ≠ 2 → q ≠ 3 → q ≠ 4 → q ≠ 5 → q ≠ 8 → q ≠ 9 → q ≠ 10 → q ≠ 14 → V1 q = V0 q) ∧ ((∃ e, D.1 = .inl e) → R1 = R ∧ V1 8 = V0 8 ∧ V1 9 = V0 9 ∧ V1 10 = V0 10 ∧ V1 14 = V0 14) ∧ ((∃ cs ts, D.1 = .inr (cs, ts)) → R1 = va_up R 0 (va_up (R 0) 0 (some M.2)) ∧ (∀ B : Nat → Int32, (∀ k, k < 29 → k < 7 ∨ 13 ≤ k → B k = nI (D.2.1 k)) → bW a (ab M.2 M1) M.2 B D.2.2.1 D.2.2.2) ∧ V1 8 0 = 0 ∧ V1 8 1 = nI (D.2.1 26) ∧ V1 8 2 = 0 ∧ (∀ j, V1 9 j = 0) ∧ (∀ j, V1 10 j = 0) ∧ V1 14 0 = V0 14 0 ∧ V1 14 1 = 0)
section G95
variable {a b t n : Nat} {M M1 M2 Mb : zM} {V0 V1 : Nat → Nat → Int32} {W0 W1 : Nat → Nat → Int64} {R R1 : Nat → Nat → Option Nat} {I I1 : Nat → Int32} {A A1 : Nat → Nat → Int32} {L L1 : Nat → Nat → Int64} {Tm : Nat} {D : dT}
theorem butt_c {q : Prop} [Decidable q] (hM : if q then pE a M M1 V0 W0 R D else kW a M M1 V0 W0 R) (hno : ∀ x, M.2 ≤ x → M.1 x = none) : ∃ Mb V1 R1, kW a Mb M1 V1 W0 R1 ∧ (∀ x, x < M.2 → Mb.1 x = M.1 x) ∧ M.2 ≤ Mb.2 ∧ (∀ x, Mb.2 ≤ x → Mb.1 x = none) ∧ R1 0 1 = R 0 1 ∧ ((¬ q ∧ V1 = V0 ∧ R1 = R) ∨ (q ∧ bF a M Mb V0 V1 R R1 D)) := by
  by_cases hq : q
  · rw [if_pos hq] at hM
    obtain ⟨Mb, V1, R1, h1, h2, h3, h4, h5, -, h6, h7, h8, h9, h10, h11⟩ := hM
    refine ⟨Mb, V1, R1, h1, h2, h3, h4, ?_, Or.inr ⟨hq, h5, h6, h7, h8, h9, h10, h11⟩⟩
    match hD : D.1 with
    | .inl e => rw [(h10 ⟨e, hD⟩).1]
    | .inr (cs, ts) => rw [(h11 ⟨cs, ts, hD⟩).1, va_up_self, va_up_ne _ _ (by decide)]
  · rw [if_neg hq] at hM
    exact ⟨M, V0, R, hM, fun _ _ => rfl, Nat.le_refl _, hno, rfl, Or.inl ⟨hq, rfl, rfl⟩⟩
theorem butt_f {q : Prop} [Decidable q] (hg : gM a b t n M V0 W0 R I A L) (hs : gS a (hm b t n M) V0 W0 R I A L Tm) (hT : Tm < 2 ^ 24) (hO : dOk D) (hkW : kW a Mb M1 V1 W0 R1) (hg1 : gM a b t n M1 V1 W0 R1 I A L) (hk1 : kp a (hm b t n M) (hm b t n M1)) (hc : (¬ q ∧ V1 = V0 ∧ R1 = R) ∨ (q ∧ bF a M Mb V0 V1 R R1 D)) (hr : if q then rE b M1 M2 (va_up I 5 0) A L D else mW b M1 M2 I A L) : ∃ I' A', gM a b t n M2 V1 W0 R1 I' A' L ∧ gS a (hm b t n M2) V1 W0 R1 I' A' L Tm := by
  rcases hc with ⟨hq, hV, hR⟩ | ⟨hq, h00, h24, h25, h22, hv, hin, hir⟩
  · rw [if_neg hq] at hr
    obtain ⟨hg2, hk2⟩ := hg1.r hr
    subst hV hR
    exact ⟨I, A, hg2, hs.kp (hk1.trans hk2)⟩
  · rw [if_pos hq] at hr
    obtain ⟨I', A', hW, i13, i14, iI, aA, ael, aer⟩ := hr
    obtain ⟨hg2, hk2⟩ := hg1.r hW
    have hs2 := hs.kp (hk1.trans hk2)
    have i5 : I' 5 = 0 := (iI 5 (Or.inl (by decide))).trans (va_up_self _ _ _)
    have ht : V1 0 0 = I' 5 ∧ bd (I' 5) 900 ∧ ∀ j, j < mN (I' 5) → V1 1 j = vp_nar .byte (A 3 j) := by
      rw [i5]
      exact ⟨h00, ⟨rfl, by decide⟩, fun j hj => absurd hj (Nat.not_lt_zero j)⟩
    refine ⟨I', A', hg2, ?_⟩
    match hD : D.1 with
    | .inl e =>
      obtain ⟨hR, h8, h9, h10, h14⟩ := hin ⟨e, hD⟩
      subst hR
      refine hs2.fault (ael ⟨e, hD⟩) aA (fun x x1 x2 x3 x4 x5 x6 x7 => ?_) ht (h24.trans i13.symm) (h25.trans i14.symm) h22
      by_cases e8 : x = 8
      · rw [e8]; exact h8
      by_cases e9 : x = 9
      · rw [e9]; exact h9
      by_cases e10 : x = 10
      · rw [e10]; exact h10
      by_cases e14 : x = 14
      · rw [e14]; exact h14
      exact hv x x1 x2 x4 x5 x6 x7 e8 e9 e10 e14
    | .inr (cs, ts) =>
      obtain ⟨hR, hbW, k1, k2, k3, k4, k5, k6, k7⟩ := hir ⟨cs, ts, hD⟩
      obtain ⟨hA1, hAm, hA2⟩ := aer ⟨cs, ts, hD⟩
      obtain ⟨-, hdN, -⟩ := hO.2 cs ts hD
      have hz := hdN.2.2.2.2.2.2.2.2
      have hz' : ∀ x, 17 ≤ x → x < 29 → x ≠ 26 → A' 1 x = 0 := fun x x1 x2 x3 => by
        rw [hA1 x x2 (Or.inr (by omega)), hz x x1 x2 x3]
        rfl
      subst hR
      refine hs2.other ((hbW (A' 1) hA1).of (fun x hx hc => ?_)) (mOK_more hAm (Nat.zero_le _) hT) ⟨fun j hj => ?_, fun j hj => ?_, ?_, ?_, ?_⟩ (hz' 28 (by decide) (by decide) (by decide)) hA2 aA (fun x x1 x2 _ x3 x4 x5 x6 x7 x8 x9 x10 => hv x x1 x2 x3 x4 x5 x6 x7 x8 x9 x10) k6 k7 ht (h24.trans i13.symm) (h25.trans i14.symm) h22
      · obtain ⟨c, hc⟩ := hc
        have hc' : (if x < M.2 then none else Mb.1 x) = some c := hc
        have hx2 : ¬ x < M.2 := fun z => by rw [if_pos z] at hc'; cases hc'
        have e0 : (ab M.2 Mb).1 x = Mb.1 x := if_neg hx2
        obtain ⟨-, hb2, -, -, -, hmt⟩ := hg
        have hx3 : ¬ (t ≤ x ∧ x < t + n) := by
          rcases hmt with ⟨z, -⟩ | ⟨z, -, -, z2, -⟩
          · omega
          · omega
        obtain ⟨u, v, w, -, -, -, eo⟩ := hW
        obtain ⟨V, W, ⟨-, ek, -⟩, -, -⟩ := hkW
        rw [e0, hm_eq (by omega) hx3, eo x (by omega)]
        exact ek x hx
      · exact (k4 j).trans (hz' (17 + j) (by omega) (by omega) (by omega)).symm
      · exact (k5 j).trans (hz' (21 + j) (by omega) (by omega) (by omega)).symm
      · exact k1.trans (hz' 25 (by decide) (by decide) (by decide)).symm
      · exact k2.trans (hA1 26 (by decide) (Or.inr (by decide))).symm
      · exact k3.trans (hz' 27 (by decide) (by decide) (by decide)).symm
theorem gS.setR {H : zM} {R' : Nat → Nat → Option Nat} (h : gS a H V0 W0 R I A L Tm) (e0 : R' 0 0 = R 0 0) (e1 : R' 47 = R 47) : gS a H V0 W0 R' I A L Tm := by
  unfold gS at h ⊢
  rw [e0, e1]
  exact h
theorem beats_N (hg : gM a b t 0 M V0 W0 R I A L) (hs : gS a (hm b t 0 M) V0 W0 R I A L Tm) (hM : kW a M M1 V0 W0 R ∨ ∃ F Mb p q f g s w, kW a Mb M1 V0 W0 (va_up R 0 (va_up (R 0) 1 (some M.2))) ∧ mt F Mb M.2 p q p q f g s w ∧ F.2 = M.2 + 4 ∧ ∀ x, x < M.2 → F.1 x = M.1 x) : ∃ t1 n1 R1, gM a b t1 n1 (trM M1) V0 W0 R1 I A L ∧ gS a (hm b t1 n1 (trM M1)) V0 W0 R1 I A L Tm := by
  rcases hM with hM | ⟨F, Mb, p, q, f, g, s, w, h1, h2, h3, h4⟩
  · obtain ⟨hg1, hk1⟩ := hg.c hM rfl
    refine ⟨t, 0, R, ?_⟩
    rw [hg1.tr]
    exact ⟨hg1, hs.kp hk1⟩
  · obtain ⟨hg1, hk1⟩ := hg.bN h1 h2 h3 h4
    exact ⟨M.2, 4, _, hg1, (hs.kp hk1).setR (by rw [va_up_self, va_up_ne _ _ (by decide)]) (va_up_ne _ _ (by decide))⟩
theorem beats_S (hs : gS a (hm b t 4 M) V0 W0 R I A L Tm) : ∃ T sl ol, R 0 0 = some T ∧ bW a (rs M t) T (A 1) sl ol ∧ mOK (A 1) sl ol Tm := by
  obtain ⟨⟨T, sl, ol, h1, h2, h3⟩, -⟩ := hs
  refine ⟨T, sl, ol, h1, h2.of (fun q _ hc => ?_), h3⟩
  obtain ⟨c, hc⟩ := hc
  obtain ⟨g1, g2, g3⟩ := hm_some hc
  rw [hm_eq g1 g2]
  exact if_neg g2
end G95
theorem lc_butt {G : zG} {l : Launch} {nm : String} {a b bS Ls k : Nat} {xs : Nat → Int32} {M : zM} {Q : Option Value → zM → Prop} {bc bs : Nat} {av : Nat → Nat} {fm : Nat} (hG : zSt G av fm) (hcl : zCl G) (hX : zX G bS Ls xs) (hL : Ls < 2 ^ 31) (hk6 : 6 * k + 6 ≤ Ls) (hkT : 100 * (k + 1) < 2 ^ 24) (hSt : lS a b M k) (hn : ∀ M', lS a b M' (k + 1) → aj G l (kL nm) 84 1694 [(3, .int (nI (6 * k))), (0, .ref bS), (1, .ref a), (2, .ref b)] [] M' bc bs Q) : aj G l (kL nm) 84 295 [(3, .int (nI (6 * k))), (0, .ref bS), (1, .ref a), (2, .ref b)] [] M (bc + 905) (bs + 3620) Q := by
  obtain ⟨t, n, V0, W0, R, I, A, L, hg, hs⟩ := hSt
  obtain ⟨T, sl, ol, hH⟩ := hs.cH
  have hB := hH.2.2.2
  have hTr := hs.2.2.1
  have h33 : ∀ j, j < 4 → bd (A 33 j) 40 := fun j hj => (hTr j hj).1
  have hI := hs.2.1.2.1
  have h28 := hisR_b hI
  have hkW := hg.2.2.2.1
  have h00 := hs.2.2.2.2.1.1
  have hI5 := hs.2.2.2.2.1.2.1
  have hV5 : bd (V0 0 0) 900 := by rw [h00]; exact hI5
  have hfr : a + 87 ≤ M.2 := by
    have z1 := hg.1
    have z2 := hg.2.1
    omega
  have h255 := hs.2.2.2.2.1.2.2.1
  have htx : ∀ j, j < 900 → A 3 j = nI ((fun j => if j < 900 then mN (A 3 j) else 0) j) := fun j hj => by
    show A 3 j = nI (if j < 900 then mN (A 3 j) else 0)
    rw [if_pos hj]
    exact (h255 j hj).1
  have htb : ∀ j, (fun j => if j < 900 then mN (A 3 j) else 0) j < 256 := fun j => by
    show (if j < 900 then mN (A 3 j) else 0) < 256
    by_cases e : j < 900
    · rw [if_pos e]
      exact Nat.lt_succ_of_le (h255 j e).2
    · rw [if_neg e]
      decide
  have hTp : ∀ j, j < mN (V0 0 0) → V0 1 j = sb ((fun j => if j < 900 then mN (A 3 j) else 0) j) := fun j hj => by
    have z := hV5.2
    rw [hs.2.2.2.2.1.2.2.2 j (by rw [← h00]; exact hj)]
    unfold sb
    rw [← htx j (by omega)]
  refine aj.aload_n dL_law_295 rfl ?_
  refine aj.aload_n dL_law_296 rfl ?_
  refine aj.iload_n dL_law_297 rfl ?_
  refine aj.iconst (v := 1) dL_law_298 rfl ?_
  refine aj.iaddN (a := 6 * k) (b := 1) dL_law_299 rfl rfl ?_
  refine aj.sci hX (j := (6 * k) + 1) rfl (by omega) hL dL_law_300 ?_
  refine aj.callE1 (d' := 62) (bc := bc) (bs := bs) (kc := 905) (ks := 3620) (As := [.int (xs ((6 * k) + 1))]) (rest := []) dL_law_301 v_L_18 li_X11_butt hg.obC rfl rfl rfl (Nat.le_of_ble_eq_true rfl) (Nat.le_of_ble_eq_true rfl) (p_butt hG hcl (tx := fun j => if j < 900 then mN (A 3 j) else 0) hfr ((xs ((6 * k) + 1))) hV5 hTp htb hs.2.2.2.2.2.2.2 hkW) (fun M1 hM => ?_)
  obtain ⟨Mb, V1, R1, hkb, hx1, hx2, hx3, hR1, hc⟩ := butt_c hM hg.2.2.1
  obtain ⟨hg1, hk1⟩ := hg.cB hkb hx1 hx2 hx3 hR1
  refine aj.aload_n dL_law_304 rfl ?_
  refine aj.aload_n dL_law_305 rfl ?_
  refine aj.iload_n dL_law_306 rfl ?_
  refine aj.iconst (v := 1) dL_law_307 rfl ?_
  refine aj.iaddN (a := 6 * k) (b := 1) dL_law_308 rfl rfl ?_
  refine aj.sci hX (j := (6 * k) + 1) rfl (by omega) hL dL_law_309 ?_
  refine aj.callE1 (d' := 65) (bc := bc) (bs := bs) (kc := 0) (ks := 0) (As := [.int (xs ((6 * k) + 1))]) (rest := [.int _]) dL_law_310 v_L_22 li_X12_butt hg1.obR rfl rfl rfl (Nat.le_of_ble_eq_true rfl) (Nat.le_of_ble_eq_true rfl) (q_butt hG ((xs ((6 * k) + 1))) (fun j => if j < 900 then mN (A 3 j) else 0) hg1.2.2.2.2.1 hI5 htx htb) (fun M2 hM => ?_)
  rw [← h00] at hM
  obtain ⟨I1, A1, hg2, hs2⟩ := butt_f hg hs (by omega) (dOk_run _ _) hkb hg1 hk1 hc hM
  refine aj.icmp_eq (tgt := 1694) dL_law_313 rfl (fun c313 => ?_) (fun c313 => ?_)
  · refine aj.pick [0, 1, 2, 3] rfl ?_
    exact hn M2 ⟨t, n, V1, W0, R1, I1, A1, L, hg2, hs2.more (by omega) hkT⟩
  · exact absurd (by rw [h00]) c313
theorem lc_beatsN {G : zG} {l : Launch} {nm : String} {a b bS Ls k : Nat} {xs : Nat → Int32} {M : zM} {Q : Option Value → zM → Prop} {bc bs : Nat} {t : Nat} {V0 : Nat → Nat → Int32} {W0 : Nat → Nat → Int64} {R : Nat → Nat → Option Nat} {I : Nat → Int32} {A : Nat → Nat → Int32} {L : Nat → Nat → Int64} (hg : gM a b t 0 M V0 W0 R I A L) (hs : gS a (hm b t 0 M) V0 W0 R I A L (100 * k)) (hR : R 0 1 = none) (hX : zX G bS Ls xs) (hL : Ls < 2 ^ 31) (hk6 : 6 * k + 6 ≤ Ls) (hkT : 100 * (k + 1) < 2 ^ 24) (hn : ∀ M', lS a b M' (k + 1) → aj G l (kL nm) 84 1694 [(3, .int (nI (6 * k))), (0, .ref bS), (1, .ref a), (2, .ref b)] [] M' bc bs Q) : aj G l (kL nm) 84 1006 [(3, .int (nI (6 * k))), (0, .ref bS), (1, .ref a), (2, .ref b)] [] M (bc + 4) (bs + 2392) Q := by
  obtain ⟨T, sl, ol, hH⟩ := hs.cH
  have hB := hH.2.2.2
  have hkW := hg.2.2.2.1
  have hfr : a + 87 ≤ M.2 := by
    have z1 := hg.1
    have z2 := hg.2.1
    omega
  refine aj.aload_n dL_law_1006 rfl ?_
  refine aj.aload_n dL_law_1007 rfl ?_
  refine aj.iload_n dL_law_1008 rfl ?_
  refine aj.iconst (v := 1) dL_law_1009 rfl ?_
  refine aj.iaddN (a := 6 * k) (b := 1) dL_law_1010 rfl rfl ?_
  refine aj.sci hX (j := (6 * k) + 1) rfl (by omega) hL dL_law_1011 ?_
  refine aj.aload_n dL_law_1012 rfl ?_
  refine aj.iload_n dL_law_1013 rfl ?_
  refine aj.iconst (v := 2) dL_law_1014 rfl ?_
  refine aj.iaddN (a := 6 * k) (b := 2) dL_law_1015 rfl rfl ?_
  refine aj.sci hX (j := (6 * k) + 2) rfl (by omega) hL dL_law_1016 ?_
  refine aj.aload_n dL_law_1017 rfl ?_
  refine aj.iload_n dL_law_1018 rfl ?_
  refine aj.iconst (v := 3) dL_law_1019 rfl ?_
  refine aj.iaddN (a := 6 * k) (b := 3) dL_law_1020 rfl rfl ?_
  refine aj.sci hX (j := (6 * k) + 3) rfl (by omega) hL dL_law_1021 ?_
  refine aj.aload_n dL_law_1022 rfl ?_
  refine aj.iload_n dL_law_1023 rfl ?_
  refine aj.iconst (v := 4) dL_law_1024 rfl ?_
  refine aj.iaddN (a := 6 * k) (b := 4) dL_law_1025 rfl rfl ?_
  refine aj.sci hX (j := (6 * k) + 4) rfl (by omega) hL dL_law_1026 ?_
  refine aj.callE1 (d' := 7) (bc := bc) (bs := bs) (kc := 4) (ks := 2392) (As := [.int (xs ((6 * k) + 1)), .int (xs ((6 * k) + 2)), .int (xs ((6 * k) + 3)), .int (xs ((6 * k) + 4))]) (rest := []) dL_law_1027 v_L_130 li_X11_beats hg.obC rfl rfl rfl (Nat.le_of_ble_eq_true rfl) (Nat.le_of_ble_eq_true rfl) (p_beatsN ((xs ((6 * k) + 1))) ((xs ((6 * k) + 2))) ((xs ((6 * k) + 3))) ((xs ((6 * k) + 4))) hkW hH hR hfr hg.2.2.1) (fun M1 hM => ?_)
  refine aj.tr ?_
  obtain ⟨t1, n1, R1, hg1, hs1⟩ := beats_N hg hs hM
  refine aj.aload_n dL_law_1030 rfl ?_
  refine aj.aload_n dL_law_1031 rfl ?_
  refine aj.iload_n dL_law_1032 rfl ?_
  refine aj.iconst (v := 1) dL_law_1033 rfl ?_
  refine aj.iaddN (a := 6 * k) (b := 1) dL_law_1034 rfl rfl ?_
  refine aj.sci hX (j := (6 * k) + 1) rfl (by omega) hL dL_law_1035 ?_
  refine aj.aload_n dL_law_1036 rfl ?_
  refine aj.iload_n dL_law_1037 rfl ?_
  refine aj.iconst (v := 2) dL_law_1038 rfl ?_
  refine aj.iaddN (a := 6 * k) (b := 2) dL_law_1039 rfl rfl ?_
  refine aj.sci hX (j := (6 * k) + 2) rfl (by omega) hL dL_law_1040 ?_
  refine aj.aload_n dL_law_1041 rfl ?_
  refine aj.iload_n dL_law_1042 rfl ?_
  refine aj.iconst (v := 3) dL_law_1043 rfl ?_
  refine aj.iaddN (a := 6 * k) (b := 3) dL_law_1044 rfl rfl ?_
  refine aj.sci hX (j := (6 * k) + 3) rfl (by omega) hL dL_law_1045 ?_
  refine aj.aload_n dL_law_1046 rfl ?_
  refine aj.iload_n dL_law_1047 rfl ?_
  refine aj.iconst (v := 4) dL_law_1048 rfl ?_
  refine aj.iaddN (a := 6 * k) (b := 4) dL_law_1049 rfl rfl ?_
  refine aj.sci hX (j := (6 * k) + 4) rfl (by omega) hL dL_law_1050 ?_
  refine aj.callE1 (d' := 83) (bc := bc) (bs := bs) (kc := 0) (ks := 0) (As := [.int (xs ((6 * k) + 1)), .int (xs ((6 * k) + 2)), .int (xs ((6 * k) + 3)), .int (xs ((6 * k) + 4))]) (rest := [.long _]) dL_law_1051 v_L_134 li_X12_beats hg1.obR rfl rfl rfl (Nat.le_of_ble_eq_true rfl) (Nat.le_of_ble_eq_true rfl) (q_beats ((xs ((6 * k) + 1))) ((xs ((6 * k) + 2))) ((xs ((6 * k) + 3))) ((xs ((6 * k) + 4))) hg1.2.2.2.2.1 hB) (fun M2 hM => ?_)
  obtain ⟨I', A', L', hM, ⟨i5, i13, i14⟩, ⟨a1, a2, a3, a32, a33⟩, l34⟩ := hM
  obtain ⟨hg2, hk2⟩ := hg1.r hM
  refine aj.lif_eq (tgt := 1694) dL_law_1054 dL_law_1055 rfl (fun c1054 => ?_) (fun c1054 => ?_)
  · refine aj.pick [0, 1, 2, 3] rfl ?_
    exact hn M2 ⟨t1, n1, V0, W0, R1, I', A', L', hg2, ((hs1.kp hk2).cong i5 i13 i14 a1 a2 a3 a32 a33 l34).more (by omega) hkT⟩
  · exact absurd (rfl) c1054
theorem lc_beatsS {G : zG} {l : Launch} {nm : String} {a b bS Ls k : Nat} {xs : Nat → Int32} {M : zM} {Q : Option Value → zM → Prop} {bc bs : Nat} {t : Nat} {V0 : Nat → Nat → Int32} {W0 : Nat → Nat → Int64} {R : Nat → Nat → Option Nat} {I : Nat → Int32} {A : Nat → Nat → Int32} {L : Nat → Nat → Int64} {p q : Nat} {f g s : Nat → Int32} {w : Int64} (hg : gM a b t 4 M V0 W0 R I A L) (hs : gS a (hm b t 4 M) V0 W0 R I A L (100 * k)) (hR : R 0 1 = some t) (hbt : b + 20 ≤ t) (hmt : mt M M t p q p q f g s w) (hX : zX G bS Ls xs) (hL : Ls < 2 ^ 31) (hk6 : 6 * k + 6 ≤ Ls) (hkT : 100 * (k + 1) < 2 ^ 24) (hn : ∀ M', lS a b M' (k + 1) → aj G l (kL nm) 84 1694 [(3, .int (nI (6 * k))), (0, .ref bS), (1, .ref a), (2, .ref b)] [] M' bc bs Q) : aj G l (kL nm) 84 1006 [(3, .int (nI (6 * k))), (0, .ref bS), (1, .ref a), (2, .ref b)] [] M bc bs Q := by
  obtain ⟨T, sl, ol, hT, hbF, hB⟩ := beats_S hs
  have hkW := hg.2.2.2.1
  have hab := hg.1
  refine aj.aload_n dL_law_1006 rfl ?_
  refine aj.aload_n dL_law_1007 rfl ?_
  refine aj.iload_n dL_law_1008 rfl ?_
  refine aj.iconst (v := 1) dL_law_1009 rfl ?_
  refine aj.iaddN (a := 6 * k) (b := 1) dL_law_1010 rfl rfl ?_
  refine aj.sci hX (j := (6 * k) + 1) rfl (by omega) hL dL_law_1011 ?_
  refine aj.aload_n dL_law_1012 rfl ?_
  refine aj.iload_n dL_law_1013 rfl ?_
  refine aj.iconst (v := 2) dL_law_1014 rfl ?_
  refine aj.iaddN (a := 6 * k) (b := 2) dL_law_1015 rfl rfl ?_
  refine aj.sci hX (j := (6 * k) + 2) rfl (by omega) hL dL_law_1016 ?_
  refine aj.aload_n dL_law_1017 rfl ?_
  refine aj.iload_n dL_law_1018 rfl ?_
  refine aj.iconst (v := 3) dL_law_1019 rfl ?_
  refine aj.iaddN (a := 6 * k) (b := 3) dL_law_1020 rfl rfl ?_
  refine aj.sci hX (j := (6 * k) + 3) rfl (by omega) hL dL_law_1021 ?_
  refine aj.aload_n dL_law_1022 rfl ?_
  refine aj.iload_n dL_law_1023 rfl ?_
  refine aj.iconst (v := 4) dL_law_1024 rfl ?_
  refine aj.iaddN (a := 6 * k) (b := 4) dL_law_1025 rfl rfl ?_
  refine aj.sci hX (j := (6 * k) + 4) rfl (by omega) hL dL_law_1026 ?_
  refine aj.callE1 (d' := 7) (bc := bc) (bs := bs) (kc := 0) (ks := 0) (As := [.int (xs ((6 * k) + 1)), .int (xs ((6 * k) + 2)), .int (xs ((6 * k) + 3)), .int (xs ((6 * k) + 4))]) (rest := []) dL_law_1027 v_L_130 li_X11_beats hg.obC rfl rfl rfl (Nat.le_of_ble_eq_true rfl) (Nat.le_of_ble_eq_true rfl) (p_beatsS ((xs ((6 * k) + 1))) ((xs ((6 * k) + 2))) ((xs ((6 * k) + 3))) ((xs ((6 * k) + 4))) hkW (Or.inr (by omega)) hT hR hbF hs.2.1.1 hB hmt) (fun M1 hM => ?_)
  obtain ⟨Mb, p1, q1, f1, g1, s1, w1, hMb, hm1⟩ := hM
  obtain ⟨hg1, hk1⟩ := hg.bS hMb hm1 hR
  have hs1 := hs.kp hk1
  refine aj.aload_n dL_law_1030 rfl ?_
  refine aj.aload_n dL_law_1031 rfl ?_
  refine aj.iload_n dL_law_1032 rfl ?_
  refine aj.iconst (v := 1) dL_law_1033 rfl ?_
  refine aj.iaddN (a := 6 * k) (b := 1) dL_law_1034 rfl rfl ?_
  refine aj.sci hX (j := (6 * k) + 1) rfl (by omega) hL dL_law_1035 ?_
  refine aj.aload_n dL_law_1036 rfl ?_
  refine aj.iload_n dL_law_1037 rfl ?_
  refine aj.iconst (v := 2) dL_law_1038 rfl ?_
  refine aj.iaddN (a := 6 * k) (b := 2) dL_law_1039 rfl rfl ?_
  refine aj.sci hX (j := (6 * k) + 2) rfl (by omega) hL dL_law_1040 ?_
  refine aj.aload_n dL_law_1041 rfl ?_
  refine aj.iload_n dL_law_1042 rfl ?_
  refine aj.iconst (v := 3) dL_law_1043 rfl ?_
  refine aj.iaddN (a := 6 * k) (b := 3) dL_law_1044 rfl rfl ?_
  refine aj.sci hX (j := (6 * k) + 3) rfl (by omega) hL dL_law_1045 ?_
  refine aj.aload_n dL_law_1046 rfl ?_
  refine aj.iload_n dL_law_1047 rfl ?_
  refine aj.iconst (v := 4) dL_law_1048 rfl ?_
  refine aj.iaddN (a := 6 * k) (b := 4) dL_law_1049 rfl rfl ?_
  refine aj.sci hX (j := (6 * k) + 4) rfl (by omega) hL dL_law_1050 ?_
  refine aj.callE1 (d' := 83) (bc := bc) (bs := bs) (kc := 0) (ks := 0) (As := [.int (xs ((6 * k) + 1)), .int (xs ((6 * k) + 2)), .int (xs ((6 * k) + 3)), .int (xs ((6 * k) + 4))]) (rest := [.long _]) dL_law_1051 v_L_134 li_X12_beats hg1.obR rfl rfl rfl (Nat.le_of_ble_eq_true rfl) (Nat.le_of_ble_eq_true rfl) (q_beats ((xs ((6 * k) + 1))) ((xs ((6 * k) + 2))) ((xs ((6 * k) + 3))) ((xs ((6 * k) + 4))) hg1.2.2.2.2.1 hB) (fun M2 hM => ?_)
  obtain ⟨I', A', L', hM, ⟨i5, i13, i14⟩, ⟨a1, a2, a3, a32, a33⟩, l34⟩ := hM
  obtain ⟨hg2, hk2⟩ := hg1.r hM
  refine aj.lif_eq (tgt := 1694) dL_law_1054 dL_law_1055 rfl (fun c1054 => ?_) (fun c1054 => ?_)
  · refine aj.pick [0, 1, 2, 3] rfl ?_
    exact hn M2 ⟨t, 4, V0, W0, R, I', A', L', hg2, ((hs1.kp hk2).cong i5 i13 i14 a1 a2 a3 a32 a33 l34).more (by omega) hkT⟩
  · exact absurd (rfl) c1054
theorem lc_beats {G : zG} {l : Launch} {nm : String} {a b bS Ls k : Nat} {xs : Nat → Int32} {M : zM} {Q : Option Value → zM → Prop} {bc bs : Nat} (hX : zX G bS Ls xs) (hL : Ls < 2 ^ 31) (hk6 : 6 * k + 6 ≤ Ls) (hkT : 100 * (k + 1) < 2 ^ 24) (hSt : lS a b M k) (hn : ∀ M', lS a b M' (k + 1) → aj G l (kL nm) 84 1694 [(3, .int (nI (6 * k))), (0, .ref bS), (1, .ref a), (2, .ref b)] [] M' bc bs Q) : aj G l (kL nm) 84 1006 [(3, .int (nI (6 * k))), (0, .ref bS), (1, .ref a), (2, .ref b)] [] M (bc + 4) (bs + 2392) Q := by
  obtain ⟨t, n, V0, W0, R, I, A, L, hg, hs⟩ := hSt
  rcases hg.2.2.2.2.2 with ⟨h1, h2⟩ | ⟨h1, h2, h3, h4, p, q, f, g, s, w, h5⟩
  · subst h1
    exact lc_beatsN hg hs h2 hX hL hk6 hkT hn
  · subst h1
    exact aj.more (Nat.le_add_right _ _) (Nat.le_add_right _ _) (lc_beatsS hg hs h2 h3 h5 hX hL hk6 hkT hn)
