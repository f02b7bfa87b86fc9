theorem z_uu (M : zM) (a : Nat) (c c' : zC) : z_up (z_up M a c) a c' = z_up M a c' := by
  unfold z_up
  refine Prod.ext ?_ rfl
  funext q
  by_cases h : q = a
  · simp only [if_pos h]
  · simp only [if_neg h]
/-- a row of numbers as a plain butt has it -/
def plF (f : Nat → Int32) : Nat → Int32 := fun k => if k < 1040 then nI (dE0 k) else f k
def plL (f : Nat → Int32) (i : Nat) : Nat → Int32 := fun k => if k < i then 0 else f k
theorem plL_s (f : Nat → Int32) (i : Nat) : upd (plL f i) i 0 = plL f (i + 1) := by
  funext k
  by_cases h : k = i
  · subst h; rw [pk_us]; exact (if_pos (by omega)).symm
  · rw [pk_un h]
    unfold plL
    by_cases h2 : k < i
    · rw [if_pos h2, if_pos (by omega)]
    · rw [if_neg h2, if_neg (by omega)]
theorem plL_e (f : Nat → Int32) : upd (upd (upd (upd (upd (plL f 1040) 1 10) 2 10) 3 10) 4 1) 5 10 = plF f := by
  funext k
  unfold plF
  by_cases h5 : k = 5
  · subst h5; rfl
  · rw [pk_un h5]
    by_cases h4 : k = 4
    · subst h4; rfl
    · rw [pk_un h4]
      by_cases h3 : k = 3
      · subst h3; rfl
      · rw [pk_un h3]
        by_cases h2 : k = 2
        · subst h2; rfl
        · rw [pk_un h2]
          by_cases h1 : k = 1
          · subst h1; rfl
          · rw [pk_un h1]
            unfold plL
            by_cases h : k < 1040
            · rw [if_pos h, if_pos h]
              unfold dE0
              rw [nu_n h5, nu_n h4, nu_n h3, nu_n h2, nu_n h1]
              rfl
            · rw [if_neg h, if_neg h]
theorem plain_loop {G : zG} {l : Launch} {M : zM} {p N : Nat} {f : Nat → Int32} (hN : 1040 ≤ N) (hN2 : N < 2 ^ 31) : ∀ (n i : Nat), i + n = 1040 → aj G l kX12_plain 0 2 [(1, .int (nI i)), (0, .ref p)] [] (z_up M p (.inl (0, N, .inl (plL f i)))) 0 0 (zv (fun M' => M' = z_up M p (.inl (0, N, .inl (plF f))))) := by
  intro n
  induction n with
  | zero =>
    intro i hin
    refine aj.iload_n dX12_plain_2 rfl ?_
    refine aj.sipush (v := 1040) dX12_plain_3 rfl ?_
    refine aj.icmp_geN (a := i) (b := 1040) (tgt := 19) dX12_plain_6 rfl rfl (by omega) (by omega) rfl (fun c6 => ?_) (fun c6 => ?_)
    · refine aj.aload_n dX12_plain_19 rfl ?_
      refine aj.iconst (v := 1) dX12_plain_20 rfl ?_
      refine aj.bipush (v := 10) dX12_plain_21 rfl ?_
      refine aj.iast (a := p) dX12_plain_23 (z_up_s _ _ _) (by rw [show 1 = nI 1 from rfl]; exact vp_in_nI (by omega) (by omega)) ?_
      rw [z_uu]
      refine aj.aload_n dX12_plain_24 rfl ?_
      refine aj.iconst (v := 2) dX12_plain_25 rfl ?_
      refine aj.bipush (v := 10) dX12_plain_26 rfl ?_
      refine aj.iast (a := p) dX12_plain_28 (z_up_s _ _ _) (by rw [show 2 = nI 2 from rfl]; exact vp_in_nI (by omega) (by omega)) ?_
      rw [z_uu]
      refine aj.aload_n dX12_plain_29 rfl ?_
      refine aj.iconst (v := 3) dX12_plain_30 rfl ?_
      refine aj.bipush (v := 10) dX12_plain_31 rfl ?_
      refine aj.iast (a := p) dX12_plain_33 (z_up_s _ _ _) (by rw [show 3 = nI 3 from rfl]; exact vp_in_nI (by omega) (by omega)) ?_
      rw [z_uu]
      refine aj.aload_n dX12_plain_34 rfl ?_
      refine aj.iconst (v := 4) dX12_plain_35 rfl ?_
      refine aj.iconst (v := 1) dX12_plain_36 rfl ?_
      refine aj.iast (a := p) dX12_plain_37 (z_up_s _ _ _) (by rw [show 4 = nI 4 from rfl]; exact vp_in_nI (by omega) (by omega)) ?_
      rw [z_uu]
      refine aj.aload_n dX12_plain_38 rfl ?_
      refine aj.iconst (v := 5) dX12_plain_39 rfl ?_
      refine aj.bipush (v := 10) dX12_plain_40 rfl ?_
      refine aj.iast (a := p) dX12_plain_42 (z_up_s _ _ _) (by rw [show 5 = nI 5 from rfl]; exact vp_in_nI (by omega) (by omega)) ?_
      rw [z_uu]
      exact aj.vret rfl dX12_plain_43 ⟨rfl, by rw [← plL_e, show i = 1040 by omega]; rfl⟩
    · exact absurd c6 (by omega)
  | succ n ih =>
    intro i hin
    refine aj.iload_n dX12_plain_2 rfl ?_
    refine aj.sipush (v := 1040) dX12_plain_3 rfl ?_
    refine aj.icmp_geN (a := i) (b := 1040) (tgt := 19) dX12_plain_6 rfl rfl (by omega) (by omega) rfl (fun c6 => ?_) (fun c6 => ?_)
    · exact absurd c6 (by omega)
    · refine aj.aload_n dX12_plain_9 rfl ?_
      refine aj.iload_n dX12_plain_10 rfl ?_
      refine aj.iconst (v := 0) dX12_plain_11 rfl ?_
      refine aj.iast (a := p) dX12_plain_12 (z_up_s _ _ _) (by rw [show nI i = nI i from rfl]; exact vp_in_nI (by omega) (by omega)) ?_
      rw [z_uu, nI_clamp (by omega)]
      refine aj.iincN (a := i) (c := 1) (lv' := [(1, .int (nI (i + 1))), (0, .ref p)]) dX12_plain_13 rfl (Nat.le_of_ble_eq_true rfl) rfl rfl rfl ?_
      refine aj.goto (tgt := 2) dX12_plain_16 rfl ?_
      refine aj.pick [0, 1] rfl ?_
      have e := plL_s f i
      rw [e]
      exact ih (i + 1) (by omega)
theorem c_plain {G : zG} {l : Launch} {M : zM} {p N : Nat} {f : Nat → Int32} (hN : 1040 ≤ N) (hN2 : N < 2 ^ 31) (hp : M.1 p = some (.inl (0, N, .inl f))) : am G l kX12_plain 0 [.ref p] M 0 0 (zv (fun M' => M' = z_up M p (.inl (0, N, .inl (plF f))))) := by
  refine am.of (by decide) (Nat.le_of_ble_eq_true rfl) ?_
  have hM : M = z_up M p (.inl (0, N, .inl (plL f 0))) := by
    unfold z_up
    refine Prod.ext ?_ rfl
    funext q
    show M.1 q = if q = p then _ else M.1 q
    by_cases h : q = p
    · subst h; rw [if_pos rfl, hp]; rfl
    · rw [if_neg h]
  refine aj.iconst (v := 0) dX12_plain_0 rfl ?_
  refine aj.istore_n (lv' := [(1, .int 0), (0, .ref p)]) dX12_plain_1 (Nat.le_of_ble_eq_true rfl) rfl ?_
  rw [hM, z_uu]
  refine aj.pick [0, 1] rfl ?_
  exact plain_loop hN hN2 1040 0 (by omega)
theorem butt_loop {G : zG} {l : Launch} {b : Nat} {M0 : zM} {I0 : Nat → Int32} {A0 : Nat → Nat → Int32} {L : Nat → Nat → Int64} {tx : Nat → Nat} {n : Nat} {x : Int32} {Q : Option Value → zM → Prop} {av : Nat → Nat} {fm : Nat} (hG : zSt G av fm) (hC : rC tx n I0 A0) {Df : dT} (hk : ∀ M : zM, rD b M0 M I0 A0 L tx n Df → aj G l kX12_butt 65 136 [(0, .ref b), (1, .int x)] [] M 0 0 Q) : ∀ (m : Nat) (D : dT) (M : zM), dLoop m D = Df → pLen D.1 ≤ m → pN0 D.1 → rD b M0 M I0 A0 L tx n D → aj G l kX12_butt 65 109 [(0, .ref b), (1, .int x)] [] M 0 0 Q := by
  intro m
  induction m with
  | zero =>
    intro D M hDf hln hN hD
    obtain ⟨I1, A1, acc, hR, hf⟩ := hD
    have hT := hR.T
    have hh0 := hR.hd
    rw [pLift_hd] at hh0
    have hin : ∃ e, D.1 = .inl e := by
      match hq : D.1 with
      | .inl e => exact ⟨e, rfl⟩
      | .inr (cs, []) => rw [hq] at hT; exact (tk_0 hT).elim
      | .inr (cs, t :: ts) => rw [hq] at hln; exact absurd hln (by show ¬ ts.length + 1 ≤ 0; omega)
    obtain ⟨e, he⟩ := hin
    have hw : pWr (pLift acc D.1) ≠ 0 := fun z => absurd (hh0.2.2.1.mp z) (by rw [he]; show ¬ 99 < 98; decide)
    refine aj.aload_n dX12_butt_109 rfl ?_
    have hw110 := hR.hd
    refine aj.rWr rfl dX12_butt_110 hR ?_
    refine aj.if_neN (a := pWr (pLift acc D.1)) (tgt := 136) dX12_butt_113 rfl (by omega) rfl (fun c113 => ?_) (fun c113 => ?_)
    · subst hDf
      exact hk M ⟨_, _, _, hR, hf⟩
    · exact absurd c113 hw
  | succ m ih =>
    intro D M hDf hln hN hD
    obtain ⟨I1, A1, acc, hR, hf⟩ := hD
    have hT := hR.T
    have hh0 := hR.hd
    rw [pLift_hd] at hh0
    refine aj.aload_n dX12_butt_109 rfl ?_
    have hw110 := hR.hd
    refine aj.rWr rfl dX12_butt_110 hR ?_
    refine aj.if_neN (a := pWr (pLift acc D.1)) (tgt := 136) dX12_butt_113 rfl (by omega) rfl (fun c113 => ?_) (fun c113 => ?_)
    · have e9 : dLoop (m + 1) D = D := if_pos (Or.inl (by
        match hq : D.1 with
        | .inl e => rfl
        | .inr (cs, ts) => rw [hq] at c113; exact absurd rfl c113))
      rw [e9] at hDf
      subst hDf
      exact hk M ⟨_, _, _, hR, hf⟩
    · refine aj.aload_n dX12_butt_116 rfl ?_
      have hw117 := hR.hd
      refine aj.rKd rfl dX12_butt_117 hR (by omega) ?_
      refine aj.bipush (v := 24) dX12_butt_120 rfl ?_
      refine aj.icmp_eqN (a := pHd (pLift acc D.1)) (b := 24) (tgt := 136) dX12_butt_122 rfl rfl (by omega) (by omega) rfl (fun c122 => ?_) (fun c122 => ?_)
      · have e9 : dLoop (m + 1) D = D := if_pos (Or.inr (by rw [pLift_hd] at c122; exact c122))
        rw [e9] at hDf
        subst hDf
        exact hk M ⟨_, _, _, hR, hf⟩
      · refine aj.aload_n dX12_butt_125 rfl ?_
        refine aj.rCall0 (d' := 63) (As := []) (rest := []) hR dX12_butt_126 v_X12_202 li_X12_readLine rfl rfl rfl (Nat.le_of_ble_eq_true rfl) (Nat.le_of_ble_eq_true rfl) (d_readLine hG hC hN ⟨_, _, _, hR, hf⟩) (fun M hR => ?_)
        obtain ⟨I2, A2, acc2, hR, hf2⟩ := hR
        refine aj.aload_n dX12_butt_129 rfl ?_
        refine aj.rCall0 (d' := 7) (As := []) (rest := []) hR dX12_butt_130 v_X12_199 li_X12_closes rfl rfl rfl (Nat.le_of_ble_eq_true rfl) (Nat.le_of_ble_eq_true rfl) (d_closes hG hC ⟨_, _, _, hR, hf2⟩) (fun M hR => ?_)
        refine aj.goto (tgt := 109) dX12_butt_133 rfl ?_
        have h98 := hh0.2.2.1.mp c113
        rw [pLift_hd] at c122
        have hT' : pT D.1 := by
          match hq : D.1 with
          | .inl e => rw [hq] at h98; exact absurd (show 99 < 98 from h98) (by decide)
          | .inr (cs, ts) => rw [hq] at hT; exact hT
        have g1 := dLine_G hT' h98 c122
        have g2 := dClose_G g1.1
        have e9 : dLoop (m + 1) D = dLoop m (dClose (dLine D)) := if_neg (fun z => z.elim (fun z => by omega) c122)
        rw [e9] at hDf
        exact ih _ M hDf (by omega) (pN0_exp (pN0_line hN)) hR
/-- what reading leaves in the reference -/
def rE (b : Nat) (M0 M : zM) (I0 : Nat → Int32) (A0 : Nat → Nat → Int32) (L : Nat → Nat → Int64) (D : dT) : Prop := ∃ I' A', mW b M0 M I' A' L ∧ I' 13 = nI (dFk D) ∧ I' 14 = dFp D ∧ (∀ j, (j < 6 ∨ 16 ≤ j) → I' j = I0 j) ∧ (∀ j, j ≠ 1 → j ≠ 4 → A' j = A0 j) ∧ ((∃ e, D.1 = .inl e) → A' 1 = A0 1) ∧ ((∃ cs ts, D.1 = .inr (cs, ts)) → (∀ k, k < 29 → k < 7 ∨ 13 ≤ k → A' 1 k = nI (D.2.1 k)) ∧ mOK (A' 1) D.2.2.1 D.2.2.2 0 ∧ ∀ k, 1040 ≤ k → A' 1 k = A0 1 k)
theorem lwIs_of {B : Nat → Int32} {acc : List Nat} {j : Nat} {o : Option (List Nat)} {t : Bool} {ws : List Nat} (h : rLw B acc j o) (ha : acc.length ≤ 900) (hc : ∀ (k : Nat) (h : k < acc.length), B (140 + k) = nI acc[k]) (hd : dLaw o t ws) : lwIs B j o t ws := by
  match o, h with
  | none, h => exact h
  | some cs, h =>
    obtain ⟨h1, h2, fr, h3, h4, h5⟩ := h
    have hd' := hd cs rfl
    refine ⟨h1, ⟨h2, ⟨fr, h3, by omega, fun k hk => ?_⟩, hd'.1⟩, hd'.2⟩
    have hk2 : fr + k < acc.length := by omega
    have := h5 k hk
    rw [List.getElem?_eq_getElem hk2] at this
    rw [show 140 + fr + k = 140 + (fr + k) by omega, hc _ hk2, Option.some.inj this]
theorem bd_E {x : Int32} {e m : Nat} (h : x = nI e) (he : e ≤ m) (hm : m < 2 ^ 31) : bd x m := by
  have e1 : mN x = e := by rw [h]; exact mN_nI (by omega)
  exact ⟨by rw [e1]; exact h, by rw [e1]; exact he⟩
theorem mOK_of {B : Nat → Int32} {acc : List Nat} {D : dT} (hE : ∀ k, k < 29 → k < 7 ∨ 13 ≤ k → B k = nI (D.2.1 k)) (hn : dNum D.2.1) (h0 : rLw B acc 0 D.2.2.1) (h1 : rLw B acc 1 D.2.2.2) (ha : acc.length ≤ 900) (hc : ∀ (k : Nat) (h : k < acc.length), B (140 + k) = nI acc[k]) (hd0 : dLaw D.2.2.1 false [0, 1, 2, 3, 4]) (hd1 : dLaw D.2.2.2 true [0, 5, 6]) : mOK B D.2.2.1 D.2.2.2 0 := by
  obtain ⟨g1, g2, g3, g4, g5, g6, g7, g8, g9⟩ := hn
  have hm : ∀ k, k < 29 → k < 7 ∨ 13 ≤ k → D.2.1 k < 2 ^ 31 → mN (B k) = D.2.1 k := fun k k1 k2 k3 => by rw [hE k k1 k2]; exact mN_nI k3
  refine ⟨⟨bd_E (hE 1 (by decide) (by decide)) (by omega) (by decide), bd_E (hE 2 (by decide) (by decide)) g2 (by decide), ?_⟩, ⟨bd_E (hE 3 (by decide) (by decide)) g3 (by decide), bd_E (hE 4 (by decide) (by decide)) g4 (by decide), bd_E (hE 5 (by decide) (by decide)) g5 (by decide)⟩, bd_E (hE 6 (by decide) (by decide)) g6 (by decide), fun s hs => bd_E (hE (13 + s) (by omega) (by omega)) (g7 s hs) (by decide), fun s hs => bd_E (hE (21 + s) (by omega) (by omega)) (by rw [g9 (21 + s) (by omega) (by omega) (by omega)]; omega) (by decide), bd_E (hE 25 (by decide) (by decide)) (by rw [g9 25 (by decide) (by decide) (by decide)]; exact Nat.le_refl 0) (by decide), bd_E (hE 26 (by decide) (by decide)) g8 (by decide), bd_E (hE 27 (by decide) (by decide)) (by rw [g9 27 (by decide) (by decide) (by decide)]; exact Nat.le_refl 0) (by decide), by decide, lwIs_of h0 ha hc hd0, lwIs_of h1 ha hc hd1⟩
  rw [hm 1 (by decide) (by decide) (by omega), hm 2 (by decide) (by decide) (by omega)]
  exact g1
theorem butt_cpy {G : zG} {l : Launch} {b : Nat} {M0 : zM} {I : Nat → Int32} {A : Nat → Nat → Int32} {L : Nat → Nat → Int64} {Q : Option Value → zM → Prop}   (hk : ∀ M : zM, mW b M0 M I (va_up A 1 (va_cpy (A 4) (A 1) 0 0 1040)) L → aj G l kX12_butt 65 205 [(0, .ref b)] [] M 0 0 Q) : ∀ (n i : Nat) (M : zM), i + n = 1040 → mW b M0 M I (va_up A 1 (va_cpy (A 4) (A 1) 0 0 i)) L → aj G l kX12_butt 65 180 [(2, .int (nI i)), (0, .ref b)] [] M 0 0 Q := by
  intro n
  induction n with
  | zero =>
    intro i M hin hM
    obtain ⟨u, v, w, hA⟩ := hM
    have hi : i = 1040 := by omega
    refine aj.iload_n dX12_butt_180 rfl ?_
    refine aj.sipush (v := 1040) dX12_butt_181 rfl ?_
    refine aj.icmp_geN (a := i) (b := 1040) (tgt := 205) dX12_butt_184 rfl rfl (by omega) (by omega) rfl (fun c184 => ?_) (fun c184 => ?_)
    · refine aj.pick [1] rfl ?_
      rw [hi] at hA
      exact hk M ⟨_, _, _, hA⟩
    · exact absurd c184 (by omega)
  | succ n ih =>
    intro i M hin hM
    obtain ⟨u, v, w, hA⟩ := hM
    refine aj.iload_n dX12_butt_180 rfl ?_
    refine aj.sipush (v := 1040) dX12_butt_181 rfl ?_
    refine aj.icmp_geN (a := i) (b := 1040) (tgt := 205) dX12_butt_184 rfl rfl (by omega) (by omega) rfl (fun c184 => ?_) (fun c184 => ?_)
    · exact absurd c184 (by omega)
    · refine aj.aload_n dX12_butt_187 rfl ?_
      refine gM1 rfl dX12_butt_188 hA ?_
      refine aj.iload_n dX12_butt_191 rfl ?_
      refine aj.aload_n dX12_butt_192 rfl ?_
      refine gM4 rfl dX12_butt_193 hA ?_
      refine aj.iload_n dX12_butt_196 rfl ?_
      refine aM4N (i := i) dX12_butt_197 hA rfl (by omega) ?_
      refine sM1N (i := i) dX12_butt_198 hA rfl (by omega) (fun M hA => ?_)
      refine aj.iincN (a := i) (c := 1) (lv' := [(2, .int (nI (i + 1))), (0, .ref b)]) dX12_butt_199 rfl (Nat.le_of_ble_eq_true rfl) rfl rfl rfl ?_
      refine aj.goto (tgt := 180) dX12_butt_202 rfl ?_
      refine aj.pick [0, 1] rfl ?_
      exact ih (i + 1) M (by omega) ⟨_, _, _, by
        rw [bx_uu] at hA
        have e := cpy_step (f := A 4) (g := A 1) (sp := 0) (dp := 0) (i := i)
        rw [← e]
        exact (by rw [show 0 + i = i by omega]; exact hA)⟩
theorem butt_end {G : zG} {l : Launch} {b : Nat} {M0 : zM} {I0 : Nat → Int32} {A0 : Nat → Nat → Int32} {L : Nat → Nat → Int64} {tx : Nat → Nat} {n : Nat} {x : Int32} {D : dT} (hn : n ≤ 900) (hO : dOk D) (M : zM) (hD : rD b M0 M I0 A0 L tx n D) : aj G l kX12_butt 65 136 [(0, .ref b), (1, .int x)] [] M 0 0 (zr (.int (dRes D)) (fun M' => rE b M0 M' I0 A0 L D)) := by
  obtain ⟨I1, A1, acc, ⟨I, A, ⟨u, v, w, hA⟩, hF, hS⟩, hf⟩ := hD
  have hIj : ∀ j, (j < 6 ∨ 16 ≤ j) → I j = I0 j := fun j hj => (hF.1 j (by omega) (by omega) (by omega) (by omega) (by omega) (by omega)).trans (hf.1 j (by omega) (by omega) (by omega) (by omega) (by omega) (by omega) (by omega))
  have hAj : ∀ j, j ≠ 4 → A j = A0 j := fun j hj => (hF.2.1 j hj).trans (hf.2.1 j hj)
  match hq : D.1 with
  | .inl e =>
    rw [hq] at hS
    have h11 : I 11 = nI e.1 := hS.1
    have h14 : 1 ≤ e.1 ∧ e.1 ≤ 4 := hS.2.1
    have h12 : I 12 = nI e.2 := hS.2.2
    refine aj.aload_n dX12_butt_136 rfl ?_
    refine aj.aload_n dX12_butt_137 rfl ?_
    refine gM11 rfl dX12_butt_138 hA ?_
    refine pM13 rfl dX12_butt_141 hA (fun M hA => ?_)
    refine aj.aload_n dX12_butt_144 rfl ?_
    refine aj.aload_n dX12_butt_145 rfl ?_
    refine gM11 rfl dX12_butt_146 hA ?_
    refine aj.if_neN (a := e.1) (tgt := 156) dX12_butt_149 h11 (by omega) rfl (fun c149 => ?_) (fun c149 => ?_)
    · refine aj.aload_n dX12_butt_156 rfl ?_
      refine gM12 rfl dX12_butt_157 hA ?_
      refine pM14 rfl dX12_butt_160 hA (fun M hA => ?_)
      refine aj.aload_n dX12_butt_163 rfl ?_
      refine gM11 rfl dX12_butt_164 hA ?_
      refine aj.if_eqN (a := e.1) (tgt := 178) dX12_butt_167 h11 (by omega) rfl (fun c167 => ?_) (fun c167 => ?_)
      · exact absurd c167 (by omega)
      · refine aj.bipush (v := (-30)) dX12_butt_170 rfl ?_
        refine aj.aload_n dX12_butt_172 rfl ?_
        refine gM11 rfl dX12_butt_173 hA ?_
        refine aj.isub dX12_butt_176 ?_
        exact aj.iret rfl dX12_butt_177 ⟨by unfold dRes; rw [hq]; exact congrArg (fun z => some (Value.int ((-30 : Int32) - z))) h11, _, A, ⟨_, _, _, hA⟩, by rw [va_up_ne _ _ (by decide), va_up_self]; unfold dFk; rw [hq]; exact h11, by rw [va_up_self]; unfold dFp; rw [hq]; exact h12, fun j hj => by rw [va_up_ne _ _ (by omega), va_up_ne _ _ (by omega)]; exact hIj j hj, fun j h1 h4 => hAj j h4, fun _ => hAj 1 (by decide), fun ⟨cs, ts, z⟩ => by rw [hq] at z; cases z⟩
    · exact absurd c149 (by omega)
  | .inr (cs, ts) =>
    rw [hq] at hS
    obtain ⟨h11, ⟨p, hp, hts, h6, h7, h9, h10⟩, hsz, hct, hcd⟩ := hS
    have hcs := hO.1 _ _ hq
    subst hcs
    obtain ⟨-, hnum, hl0, hl1⟩ := hO.2 _ _ hq
    obtain ⟨hE, -, hw0, hw1⟩ := hf.2.2 ⟨_, _, hq⟩
    rw [List.append_nil] at hsz hct hcd
    have hacc : acc.length ≤ 900 := by
      obtain ⟨t, r, hl, -⟩ := lx_ne tx n p
      rw [hts, hl] at hsz
      have : acc.length + (r.length + 1) ≤ n + 1 := hsz
      omega
    have hR0 : dRes D = nI (D.2.1 0) := by unfold dRes; rw [hq]
    refine aj.aload_n dX12_butt_136 rfl ?_
    refine aj.aload_n dX12_butt_137 rfl ?_
    refine gM11 rfl dX12_butt_138 hA ?_
    refine pM13 rfl dX12_butt_141 hA (fun M hA => ?_)
    refine aj.aload_n dX12_butt_144 rfl ?_
    refine aj.aload_n dX12_butt_145 rfl ?_
    refine gM11 rfl dX12_butt_146 hA ?_
    refine aj.if_neN (a := 0) (tgt := 156) dX12_butt_149 h11 (by omega) rfl (fun c149 => ?_) (fun c149 => ?_)
    · exact absurd rfl c149
    · refine aj.iconst (v := (-1)) dX12_butt_152 rfl ?_
      refine aj.goto (tgt := 160) dX12_butt_153 rfl ?_
      refine pM14 rfl dX12_butt_160 hA (fun M hA => ?_)
      refine aj.aload_n dX12_butt_163 rfl ?_
      refine gM11 rfl dX12_butt_164 hA ?_
      refine aj.if_eqN (a := 0) (tgt := 178) dX12_butt_167 h11 (by omega) rfl (fun c167 => ?_) (fun c167 => ?_)
      · refine aj.iconst (v := 0) dX12_butt_178 rfl ?_
        refine aj.istore_n (lv' := [(2, .int 0), (0, .ref b), (1, .int x)]) dX12_butt_179 (Nat.le_of_ble_eq_true rfl) rfl ?_
        refine aj.pick [0, 1] rfl ?_
        refine butt_cpy (A := A) (I := _) (fun M hM => ?_) 1040 0 M (by omega) ⟨_, _, _, by rw [cpy_0, va_up_id]; exact hA⟩
        obtain ⟨u, v, w, hA⟩ := hM
        have hcp : ∀ k, k < 1040 → (va_cpy (A 4) (A 1) 0 0 1040) k = A 4 k := fun k hk => by rw [pk_cpy_in (by omega) (by omega)]; congr 1; omega
        have hb4 : ∀ k, k < 139 → (va_cpy (A 4) (A 1) 0 0 1040) k = A1 4 k := fun k hk => (hcp k (by omega)).trans (hF.2.2 k hk)
        have hE' : ∀ k, k < 29 → k < 7 ∨ 13 ≤ k → (va_cpy (A 4) (A 1) 0 0 1040) k = nI (D.2.1 k) := fun k k1 k2 => (hb4 k (by omega)).trans (hE k k1 k2)
        have hOK : mOK (va_cpy (A 4) (A 1) 0 0 1040) D.2.2.1 D.2.2.2 0 := mOK_of hE' hnum (hw0.cong0 (hb4 _ (by decide)) (hb4 _ (by decide)) (hb4 _ (by decide))) (hw1.cong0 (hb4 _ (by decide)) (hb4 _ (by decide)) (hb4 _ (by decide))) hacc (fun k hk => (hcp _ (by omega)).trans (hcd k hk)) hl0 hl1
        refine aj.aload_n dX12_butt_205 rfl ?_
        refine gM1 rfl dX12_butt_206 hA ?_
        refine aj.iconst (v := 0) dX12_butt_209 rfl ?_
        refine aM1N (i := 0) dX12_butt_210 hA rfl (by omega) ?_
        exact aj.iret rfl dX12_butt_211 ⟨congrArg (fun z => some (Value.int z)) (by rw [hR0]; exact hE' 0 (by decide) (by decide)), _, _, ⟨_, _, _, hA⟩, by rw [va_up_ne _ _ (by decide), va_up_self]; unfold dFk; rw [hq]; exact h11, by rw [va_up_self]; unfold dFp; rw [hq], fun j hj => by rw [va_up_ne _ _ (by omega), va_up_ne _ _ (by omega)]; exact hIj j hj, fun j h1 h4 => by rw [va_up_ne _ _ h1]; exact hAj j h4, fun ⟨e, z⟩ => (by rw [hq] at z; cases z), fun _ => ⟨fun k k1 k2 => by rw [va_up_self]; exact hE' k k1 k2, by rw [va_up_self]; exact hOK, fun k hk => by rw [va_up_self, pk_cpy_out (by omega), hAj 1 (by decide)]⟩⟩
      · exact absurd rfl c167
