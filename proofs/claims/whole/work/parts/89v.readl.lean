theorem k_buttInit {G : zG} {l : Launch} {b i : Nat} {M0 M : zM} {cs : List zC} (hN : nB b M0 M i cs (.inr (0, [.int 0, .int 0, .int 0, .int 0, .int 0, .int 0, .int 0, .int 0, .null, .null, .null])) []) : am G l kX0_init 1 [.ref (b + i)] M 1 4 (zv (fun M' => nB b M0 M' i cs (.inr (0, [.int 10, .int 10, .int 10, .int 1, .int 10, .int 0, .int 0, .int 0, .ref (b + (cs.length + 0)), .null, .null])) [.inl (0, 4, .inl (fun _ => 0))])) := by
  refine am.of (by decide) (Nat.le_of_ble_eq_true rfl) ?_
  refine aj.aload_n dX0_init_0 rfl ?_
  refine aj.objInit dX0_init_1 w202 w147 w148 (Nat.le_of_ble_eq_true rfl) (Nat.le_of_ble_eq_true rfl) ?_
  refine aj.aload_n dX0_init_4 rfl ?_
  refine aj.bipush (v := 10) dX0_init_5 rfl ?_
  refine nB.put (f := 0) (cq := (RX0, TX0, 11)) hN dX0_init_7 rfl (Nat.le_of_ble_eq_true rfl) w203 rfl rfl rfl (Nat.le_of_ble_eq_true rfl) (fun M hN => ?_)
  refine aj.aload_n dX0_init_10 rfl ?_
  refine aj.bipush (v := 10) dX0_init_11 rfl ?_
  refine nB.put (f := 1) (cq := (RX0, TX0, 11)) hN dX0_init_13 rfl (Nat.le_of_ble_eq_true rfl) w206 rfl rfl rfl (Nat.le_of_ble_eq_true rfl) (fun M hN => ?_)
  refine aj.aload_n dX0_init_16 rfl ?_
  refine aj.bipush (v := 10) dX0_init_17 rfl ?_
  refine nB.put (f := 2) (cq := (RX0, TX0, 11)) hN dX0_init_19 rfl (Nat.le_of_ble_eq_true rfl) w209 rfl rfl rfl (Nat.le_of_ble_eq_true rfl) (fun M hN => ?_)
  refine aj.aload_n dX0_init_22 rfl ?_
  refine aj.iconst (v := 1) dX0_init_23 rfl ?_
  refine nB.put (f := 3) (cq := (RX0, TX0, 11)) hN dX0_init_24 rfl (Nat.le_of_ble_eq_true rfl) w212 rfl rfl rfl (Nat.le_of_ble_eq_true rfl) (fun M hN => ?_)
  refine aj.aload_n dX0_init_27 rfl ?_
  refine aj.bipush (v := 10) dX0_init_28 rfl ?_
  refine nB.put (f := 4) (cq := (RX0, TX0, 11)) hN dX0_init_30 rfl (Nat.le_of_ble_eq_true rfl) w215 rfl rfl rfl (Nat.le_of_ble_eq_true rfl) (fun M hN => ?_)
  refine aj.aload_n dX0_init_33 rfl ?_
  refine aj.iconst (v := 0) dX0_init_34 rfl ?_
  refine nB.put (f := 5) (cq := (RX0, TX0, 11)) hN dX0_init_35 rfl (Nat.le_of_ble_eq_true rfl) w218 rfl rfl rfl (Nat.le_of_ble_eq_true rfl) (fun M hN => ?_)
  refine aj.aload_n dX0_init_38 rfl ?_
  refine aj.iconst (v := 0) dX0_init_39 rfl ?_
  refine nB.put (f := 6) (cq := (RX0, TX0, 11)) hN dX0_init_40 rfl (Nat.le_of_ble_eq_true rfl) w221 rfl rfl rfl (Nat.le_of_ble_eq_true rfl) (fun M hN => ?_)
  refine aj.aload_n dX0_init_43 rfl ?_
  refine aj.iconst (v := 0) dX0_init_44 rfl ?_
  refine nB.put (f := 7) (cq := (RX0, TX0, 11)) hN dX0_init_45 rfl (Nat.le_of_ble_eq_true rfl) w224 rfl rfl rfl (Nat.le_of_ble_eq_true rfl) (fun M hN => ?_)
  refine aj.aload_n dX0_init_48 rfl ?_
  refine aj.iconst (v := 4) dX0_init_49 rfl ?_
  refine nB.newI (N := 4) hN dX0_init_50 (by decide) rfl (by decide) (fun M hN => ?_)
  refine nB.putF (f := 8) (cq := (RX0, TX0, 11)) hN dX0_init_52 rfl (Nat.le_of_ble_eq_true rfl) w227 rfl rfl rfl rfl rfl (Nat.le_of_ble_eq_true rfl) (fun M hN => ?_)
  refine aj.aload_n dX0_init_55 rfl ?_
  refine aj.null dX0_init_56 ?_
  refine nB.put (f := 9) (cq := (RX0, TX0, 11)) hN dX0_init_57 rfl (Nat.le_of_ble_eq_true rfl) w228 rfl rfl rfl (Nat.le_of_ble_eq_true rfl) (fun M hN => ?_)
  refine aj.aload_n dX0_init_60 rfl ?_
  refine aj.null dX0_init_61 ?_
  refine nB.put (f := 10) (cq := (RX0, TX0, 11)) hN dX0_init_62 rfl (Nat.le_of_ble_eq_true rfl) w232 rfl rfl rfl (Nat.le_of_ble_eq_true rfl) (fun M hN => ?_)
  exact aj.vret rfl dX0_init_65 ⟨rfl, hN⟩
/-- a memory without what lies above -/
def trM (M : zM) : zM := (fun x => if x < M.2 then M.1 x else none, M.2)
theorem aj.tr {G : zG} {l : Launch} {k : zY} {d pc bc bs : Nat} {lv : List (Nat × Value)} {st : List Value} {M : zM} {Q : Option Value → zM → Prop} (h : aj G l k d pc lv st (trM M) bc bs Q) : aj G l k d pc lv st M bc bs Q := by
  intro p e R s m args below meth c H locs cells slots LS C hS hV hL h1 h2 h3 h4
  refine h p e R s m args below meth c H locs cells slots LS C ⟨hS.1, hS.2.1, hS.2.2.1, fun a c hc => ?_⟩ hV hL h1 h2 h3 h4
  have hc2 : (if a < M.2 then M.1 a else none) = some c := hc
  by_cases e : a < M.2
  · rw [if_pos e] at hc2
    exact hS.2.2.2 a c hc2
  · rw [if_neg e] at hc2
    cases hc2
theorem nB_kA {a : Nat} {M0 M M' : zM} {V : Nat → Nat → Int32} {W : Nat → Nat → Int64} {R : Nat → Nat → Option Nat} {d c : zC} {xs : List zC} (hA : kA a M0 M V W R) (ha : a + 87 ≤ M0.2) (hN : nB M0.2 M M' 0 [d] c xs) : ∃ M1, kA a M1 (trM M') V W R ∧ M1.2 = M0.2 + (1 + xs.length) ∧ (∀ x, x < M0.2 → M1.1 x = M0.1 x) ∧ M1.1 M0.2 = some c ∧ (∀ j, j < xs.length → M1.1 (M0.2 + (1 + j)) = xs[j]?) ∧ ∀ x, M1.2 ≤ x → M1.1 x = none := by
  obtain ⟨h1, h2, h3, h4, h5, h6⟩ := hN
  obtain ⟨k1, k2, k3⟩ := hA
  have hl : M'.2 = M0.2 + (1 + xs.length) := h2
  have e : ∀ x, M0.2 ≤ x → (if x < M0.2 then M0.1 x else (trM M').1 x) = (trM M').1 x := fun x hx => if_neg (by omega)
  have ht : ∀ x, x < M'.2 → (trM M').1 x = M'.1 x := fun x hx => if_pos hx
  refine ⟨(fun x => if x < M0.2 then M0.1 x else (trM M').1 x, M'.2), ⟨rfl, fun x hx => ?_, fun i hi => ?_⟩, hl, fun x hx => if_pos hx, (e _ (Nat.le_refl _)).trans ((ht _ (by omega)).trans h4), fun j hj => (e _ (by omega)).trans ((ht _ (by omega)).trans (h6 j hj)), fun x hx => ?_⟩
  · by_cases q : x < M0.2
    · rw [ht x (by omega), h3 x q]
      exact (k2 x hx).trans (if_pos q).symm
    · exact (e x (by omega)).symm
  · have hi2 := hi
    unfold kIn at hi2
    rw [ht (a + i) (by omega), h3 (a + i) (by omega)]
    exact k3 i hi
  · have hx2 : M'.2 ≤ x := hx
    exact (e x (by omega)).trans (if_neg (by omega))
theorem tokB_kv {tx : Nat → Nat} {n a : Nat} : kvl (tokB tx n a).1 := by
  have e1 : kws.length = 22 := rfl
  have e2 : sgs.length = 12 := rfl
  unfold tokB
  split
  · exact Or.inl (by show 24 ≤ 25; decide)
  · split
    · have hk := List.idxOf_le_length (a := wordL tx a (advTo cSm tx n a - a)) (l := kws)
      exact Or.inl (by show kws.idxOf _ ≤ 25; omega)
    · split
      · show kvl (if 3 < advTo cDg tx n a - a then 25 else 23)
        split <;> exact Or.inl (by decide)
      · show kvl (if tx a ∈ sgs then 30 + sgs.idxOf (tx a) else 25)
        split
        · rename_i h
          have := List.idxOf_lt_length_of_mem h
          exact Or.inr ⟨by omega, by omega⟩
        · exact Or.inl (by decide)
theorem lx_V {tx : Nat → Nat} {n : Nat} (hn : n ≤ 900) : ∀ (m p : Nat), p ≤ n → n - p = m → ∀ t ∈ lx tx n p, tkV t := by
  intro m
  induction m using Nat.strongRecOn with
  | _ m ih =>
    intro p hp hm
    have hl := advTo_le cWh tx (n := n) (p := p) hp
    have hv : tkV (tk3 (tokA tx n p)) := ⟨tokB_kv, tokB_n, by show (tokB tx n (advTo cWh tx n p)).2.2.1 ≤ 900; rw [tokB_s]; omega⟩
    by_cases h : (tokA tx n p).1 = 24
    · rw [lx_24 h]
      intro t ht
      rw [List.mem_singleton.mp ht]
      exact hv
    · rw [lx_c hp h]
      intro t ht
      rcases List.mem_cons.mp ht with e | e
      · rw [e]; exact hv
      · have h2 : ¬ n ≤ advTo cWh tx n p := fun q => h (tokB_24.mpr q)
        have hb := tokB_b (tx := tx) (n := n) (a := advTo cWh tx n p) (by omega)
        have hge := advTo_ge cWh tx n p
        have hb' : advTo cWh tx n p < (tokA tx n p).2.2.2 ∧ (tokA tx n p).2.2.2 ≤ n := hb
        exact ih (n - (tokA tx n p).2.2.2) (by omega) _ hb'.2 rfl t e
/-- what the reading of the rest costs -/
def bcD : pS → Nat
  | .inl _ => 0
  | .inr (_, ts) => ts.length + 2
def bsD : pS → Nat
  | .inl _ => 0
  | .inr (_, ts) => 3 * ts.length + 902
theorem bcD_le (S : pS) : bcD S ≤ pLen S + 2 ∧ bsD S ≤ 3 * pLen S + 902 := by
  match S with
  | .inl _ => exact ⟨Nat.zero_le _, Nat.zero_le _⟩
  | .inr (_, ts) => exact ⟨Nat.le_refl _, Nat.le_refl _⟩
theorem bcD_eq {S : pS} (h : pHd S < 98) : bcD S = pLen S + 2 ∧ bsD S = 3 * pLen S + 902 := by
  obtain ⟨cs, t, ts, hS, -⟩ := pHd_in (S := S) rfl h
  rw [hS]
  exact ⟨rfl, rfl⟩
theorem pExp_le (k : Nat) (hk : k < 98) (S : pS) : pLen (pExp k S) + 1 ≤ pLen S ∨ ∃ e, pExp k S = .inl e := by
  unfold pExp
  split
  · rename_i h
    obtain ⟨cs, t, ts, hS, -⟩ := pHd_in h hk
    rw [hS]
    exact Or.inl (Nat.le_refl _)
  · exact Or.inr (pFail_in 2 S)
theorem cost_lw {st : Bool} {S : pS} (hT : pT S) (hN : pN0 S) (h98 : pHd S < 98) (h24 : pHd S ≠ 24) : bcD (pExp 30 (pCl (dLw st S))) + 2 ≤ bcD S ∧ bsD (pExp 30 (pCl (dLw st S))) + (2 + lwK st S) ≤ bsD S := by
  have he := bcD_eq h98
  rw [he.1, he.2]
  have hg := dLw_G st hT rfl h98 h24
  obtain ⟨cs0, t0, ts0, hS, -⟩ := pHd_in (S := S) rfl h98
  have hc0 : cs0 = [] := hN _ _ hS
  have hsz : pSz S = pLen S := by rw [hS, hc0]; exact Nat.zero_add _
  have hx := pExp_le 30 (by decide) (pCl (dLw st S))
  have hb := bcD_le (pExp 30 (pCl (dLw st S)))
  rw [pCl_len] at hx
  have hk : lwK st S + pLen (dLw st S) + 1 ≤ pLen S ∨ (lwK st S = 900 ∧ ∃ e, dLw st S = .inl e) := by
    unfold lwK
    match hD : dLw st S with
    | .inl e => exact Or.inr ⟨rfl, e, rfl⟩
    | .inr (cs, ts) =>
      rw [hD] at hg
      have h2 : cs.length + ts.length + 1 ≤ pSz S := hg.2.1
      exact Or.inl (by show cs.length + ts.length + 1 ≤ pLen S; omega)
  rcases hk with hk | ⟨hk, e, hD⟩
  · rcases hx with hx | ⟨e, hx⟩
    · omega
    · rw [hx]
      show 0 + 2 ≤ _ ∧ 0 + (2 + lwK st S) ≤ _
      omega
  · rw [hD, show pCl (.inl e) = .inl e from rfl, pExp_inl 30 (by decide), hk]
    show 0 + 2 ≤ _ ∧ 0 + (2 + 900) ≤ _
    omega
theorem cost_D {D : dT} (hT : pT D.1) (hN : pN0 D.1) (h98 : pHd D.1 < 98) (h24 : pHd D.1 ≠ 24) : bcD (dClose (dLine D)).1 + lnC D ≤ bcD D.1 ∧ bsD (dClose (dLine D)).1 + lnS D ≤ bsD D.1 := by
  by_cases h8 : pHd D.1 = 8
  · rw [show lnC D = 2 from if_pos (Or.inl h8), show lnS D = 2 + lwK true D.1 from if_pos h8, show (dClose (dLine D)).1 = pExp 30 (dLine D).1 from rfl, dLine_8 h8]
    exact cost_lw hT hN h98 h24
  · by_cases h9 : pHd D.1 = 9
    · rw [show lnC D = 2 from if_pos (Or.inr h9), show lnS D = 2 + lwK false D.1 from (if_neg h8).trans (if_pos h9), show (dClose (dLine D)).1 = pExp 30 (dLine D).1 from rfl, dLine_9 h9]
      exact cost_lw hT hN h98 h24
    · rw [show lnC D = 0 from if_neg (by omega), show lnS D = 0 from (if_neg h8).trans (if_neg h9)]
      have he := bcD_eq h98
      have hg := dLine_G hT h98 h24
      have hc := dClose_G hg.1
      have hb := bcD_le (dClose (dLine D)).1
      omega
theorem dLoop_stop {D : dT} (h : pHd D.1 = 99 ∨ pHd D.1 = 24) : ∀ m, dLoop m D = D
  | 0 => rfl
  | m + 1 => if_pos h
theorem dLoop_go {D : dT} (h : ¬ (pHd D.1 = 99 ∨ pHd D.1 = 24)) (m : Nat) : dLoop (m + 1) D = dLoop m (dClose (dLine D)) := if_neg h
theorem pLen_0 {S : pS} (hT : pT S) (h : pLen S = 0) : pHd S = 99 := by
  match S, hT, h with
  | .inl _, _, _ => rfl
  | .inr (cs, ts), hT, h =>
    obtain ⟨pre, e, h1, -⟩ := hT
    have h2 : ts.length = 0 := h
    rw [h1, List.length_append] at h2
    have h3 : pre.length + 1 = 0 := h2
    omega
def rdV (D : dT) (t : Nat) : Value := match D.1 with
  | .inl _ => .null
  | .inr _ => .ref t
/-- the fields behind a line's end -/
theorem bE_close {F g : Nat → Int32} {E : Nat → Nat} (h : bE F g E) : bE (upd F 6 (F 6 + 1)) g (nu E 0 (E 0 + 1)) := by
  obtain ⟨E0, E1, E2, E3, E4, E5, E6, E7, Eg, E64⟩ := h
  refine ⟨E0, E1, E2, E3, E4, E5, ?_, E7, fun s hs => ?_, E64⟩
  · rw [pk_us, nu_s, E6]
    exact nI_1 _
  · rw [nu_n (by omega)]
    exact Eg s hs
theorem read_lp {G : zG} {l : Launch} {a : Nat} {M0 : zM} {V0 : Nat → Nat → Int32} {W : Nat → Nat → Int64} {R : Nat → Nat → Option Nat} {T : List tkT} (hcl : zCl G) (ha : a + 87 ≤ M0.2) (hC0 : uC V0 T) {Df : dT} : ∀ (m i : Nat) (D : dT) (M : zM), i + m = 900 → pLen D.1 ≤ m → pN0 D.1 → dLoop (m + 1) D = Df → uDc a M0 M V0 W R T D → aj G l kX5_read 61 98 [(4, .int (nI i)), (3, .ref M0.2), (0, .ref (a + 2))] [] M (bcD D.1) (bsD D.1) (fun r M' => r = some (rdV Df M0.2) ∧ uDc a M0 M' V0 W R T Df) := by
  intro m
  induction m with
  | zero =>
    intro i D M hi hl hN hDf hDc
    obtain ⟨M1, V1, F, g, l1, l2, hK, hR, hI⟩ := id hDc
    have hC : uC V1 T := hC0.of hK.1
    have hT := hR.tk hC
    have hh0 := hR.hd hC
    have hst : pHd D.1 = 99 ∨ pHd D.1 = 24 := Or.inl (pLen_0 hT (by omega))
    refine aj.iload dX5_read_98 rfl ?_
    refine aj.sipush (v := 900) dX5_read_100 rfl ?_
    refine aj.icmp_geN (a := i) (b := 900) (tgt := 151) dX5_read_103 rfl rfl (by omega) (by omega) rfl (fun c103 => ?_) (fun c103 => ?_)
    · refine aj.aload_n dX5_read_151 rfl ?_
      refine aj.uFlt hR w176 dX5_read_152 ?_
      refine aj.if_neN (a := pWr D.1) (tgt := 162) dX5_read_155 rfl (by omega) rfl (fun c155 => ?_) (fun c155 => ?_)
      · refine aj.null dX5_read_162 ?_
        refine aj.aret rfl (Or.inl ⟨_, rfl⟩) (Or.inl rfl) dX5_read_163 ⟨?_, ?_⟩
        · rw [← hDf, dLoop_stop hst]
          unfold rdV
          match hD1 : D.1 with
          | .inl e => rfl
          | .inr z => exact absurd (show pWr D.1 = 0 by rw [hD1]; rfl) c155
        · rw [← hDf, dLoop_stop hst]
          exact ⟨M1, V1, F, g, l1, l2, hK, hR, hI⟩
      · refine aj.aload_n dX5_read_158 rfl ?_
        refine aj.goto (tgt := 163) dX5_read_159 rfl ?_
        refine aj.aret rfl (Or.inl ⟨_, rfl⟩) (Or.inr ⟨_, rfl⟩) dX5_read_163 ⟨?_, ?_⟩
        · rw [← hDf, dLoop_stop hst]
          unfold rdV
          match hD1 : D.1 with
          | .inl e => exact absurd (hh0.2.2.1.mp c155) (by rw [hD1]; show ¬ 99 < 98; decide)
          | .inr z => rfl
        · rw [← hDf, dLoop_stop hst]
          exact ⟨M1, V1, F, g, l1, l2, hK, hR, hI⟩
    · exact absurd c103 (by omega)
  | succ m ih =>
    intro i D M hi hl hN hDf hDc
    obtain ⟨M1, V1, F, g, l1, l2, hK, hR, hI⟩ := id hDc
    have hC : uC V1 T := hC0.of hK.1
    have hT := hR.tk hC
    have hh0 := hR.hd hC
    refine aj.iload dX5_read_98 rfl ?_
    refine aj.sipush (v := 900) dX5_read_100 rfl ?_
    refine aj.icmp_geN (a := i) (b := 900) (tgt := 151) dX5_read_103 rfl rfl (by omega) (by omega) rfl (fun c103 => ?_) (fun c103 => ?_)
    · exact absurd c103 (by omega)
    · refine aj.aload_n dX5_read_106 rfl ?_
      refine aj.uFlt hR w176 dX5_read_107 ?_
      refine aj.if_neN (a := pWr D.1) (tgt := 151) dX5_read_110 rfl (by omega) rfl (fun c110 => ?_) (fun c110 => ?_)
      · have hst : pHd D.1 = 99 ∨ pHd D.1 = 24 := Or.inl (by
          match hD1 : D.1 with
          | .inl e => rfl
          | .inr z => exact absurd (show pWr D.1 = 0 by rw [hD1]; rfl) c110)
        refine aj.aload_n dX5_read_151 rfl ?_
        refine aj.uFlt hR w176 dX5_read_152 ?_
        refine aj.if_neN (a := pWr D.1) (tgt := 162) dX5_read_155 rfl (by omega) rfl (fun c155 => ?_) (fun c155 => ?_)
        · refine aj.null dX5_read_162 ?_
          refine aj.aret rfl (Or.inl ⟨_, rfl⟩) (Or.inl rfl) dX5_read_163 ⟨?_, ?_⟩
          · rw [← hDf, dLoop_stop hst]
            unfold rdV
            match hD1 : D.1 with
            | .inl e => rfl
            | .inr z => exact absurd (show pWr D.1 = 0 by rw [hD1]; rfl) c155
          · rw [← hDf, dLoop_stop hst]
            exact ⟨M1, V1, F, g, l1, l2, hK, hR, hI⟩
        · refine aj.aload_n dX5_read_158 rfl ?_
          refine aj.goto (tgt := 163) dX5_read_159 rfl ?_
          refine aj.aret rfl (Or.inl ⟨_, rfl⟩) (Or.inr ⟨_, rfl⟩) dX5_read_163 ⟨?_, ?_⟩
          · rw [← hDf, dLoop_stop hst]
            unfold rdV
            match hD1 : D.1 with
            | .inl e => exact absurd (hh0.2.2.1.mp c155) (by rw [hD1]; show ¬ 99 < 98; decide)
            | .inr z => rfl
          · rw [← hDf, dLoop_stop hst]
            exact ⟨M1, V1, F, g, l1, l2, hK, hR, hI⟩
      · refine aj.aload_n dX5_read_113 rfl ?_
        refine aj.uTok hR w172 dX5_read_114 ?_
        refine aj.sipush (v := 4000) dX5_read_117 rfl ?_
        refine aj.icmp_eq (tgt := 151) dX5_read_120 rfl (fun c120 => ?_) (fun c120 => ?_)
        · have q120 : pHd D.1 = 24 := (pTk_k hC hR kx24 (by decide) (by decide)).mp c120
          have hst : pHd D.1 = 99 ∨ pHd D.1 = 24 := Or.inr q120
          refine aj.aload_n dX5_read_151 rfl ?_
          refine aj.uFlt hR w176 dX5_read_152 ?_
          refine aj.if_neN (a := pWr D.1) (tgt := 162) dX5_read_155 rfl (by omega) rfl (fun c155 => ?_) (fun c155 => ?_)
          · refine aj.null dX5_read_162 ?_
            refine aj.aret rfl (Or.inl ⟨_, rfl⟩) (Or.inl rfl) dX5_read_163 ⟨?_, ?_⟩
            · rw [← hDf, dLoop_stop hst]
              unfold rdV
              match hD1 : D.1 with
              | .inl e => rfl
              | .inr z => exact absurd (show pWr D.1 = 0 by rw [hD1]; rfl) c155
            · rw [← hDf, dLoop_stop hst]
              exact ⟨M1, V1, F, g, l1, l2, hK, hR, hI⟩
          · refine aj.aload_n dX5_read_158 rfl ?_
            refine aj.goto (tgt := 163) dX5_read_159 rfl ?_
            refine aj.aret rfl (Or.inl ⟨_, rfl⟩) (Or.inr ⟨_, rfl⟩) dX5_read_163 ⟨?_, ?_⟩
            · rw [← hDf, dLoop_stop hst]
              unfold rdV
              match hD1 : D.1 with
              | .inl e => exact absurd (hh0.2.2.1.mp c155) (by rw [hD1]; show ¬ 99 < 98; decide)
              | .inr z => rfl
            · rw [← hDf, dLoop_stop hst]
              exact ⟨M1, V1, F, g, l1, l2, hK, hR, hI⟩
        · have q120 : ¬ pHd D.1 = 24 := fun z => c120 ((pTk_k hC hR kx24 (by decide) (by decide)).mpr z)
          refine aj.aload_n dX5_read_123 rfl ?_
          refine aj.aload_n dX5_read_124 rfl ?_
          have h98 : pHd D.1 < 98 := hh0.2.2.1.mp c110
          have hgo : ¬ (pHd D.1 = 99 ∨ pHd D.1 = 24) := by omega
          have hco := cost_D hT hN h98 q120
          have hlg := dLine_G hT h98 q120
          have hcg := dClose_G hlg.1
          obtain ⟨fs, hb⟩ := hR.ob
          refine aj.more (bc' := bcD (dClose (dLine D)).1 + lnC D) (bs' := bsD (dClose (dLine D)).1 + lnS D) hco.1 hco.2 ?_
          refine aj.callV0 (d' := 60) (As := [.ref M0.2]) (rest := []) dX5_read_125 v_X5_69 li_X5_readLine hb rfl rfl rfl (Nat.le_of_ble_eq_true rfl) (Nat.le_of_ble_eq_true rfl) (u_readLine hcl ha hC0 hN h98 q120 hDc) (fun M hDc => ?_)
          obtain ⟨M1, V1, F, g, l1, l2, hK, hR, hI⟩ := hDc
          have hC : uC V1 T := hC0.of hK.1
          refine aj.aload_n dX5_read_128 rfl ?_
          refine aj.sipush (v := 2059) dX5_read_129 rfl ?_
          refine aj.uC0 (d' := 2) (As := [.int 2059]) (rest := []) hR dX5_read_132 v_X5_52 li_X5_take rfl rfl rfl (Nat.le_of_ble_eq_true rfl) (Nat.le_of_ble_eq_true rfl) (u_take hC 30 kx30 (by decide) (by decide) (by decide) hR) (fun M hR => ?_)
          refine aj.aload_n dX5_read_135 rfl ?_
          refine aj.dup dX5_read_136 rfl ?_
          refine aj.bG6 hK hR ha w222 dX5_read_137 ?_
          refine aj.iconst (v := 1) dX5_read_140 rfl ?_
          refine aj.iadd dX5_read_141 ?_
          refine aj.bP6 hK hR ha w222 dX5_read_142 (fun M1 M hK hR hrb0 => ?_)
          refine aj.iincN (a := i) (c := 1) (lv' := [(4, .int (nI (i + 1))), (3, .ref M0.2), (0, .ref (a + 2))]) dX5_read_145 rfl (Nat.le_of_ble_eq_true rfl) rfl rfl rfl ?_
          refine aj.goto (tgt := 98) dX5_read_148 rfl ?_
          refine aj.pick [0, 1, 2] rfl ?_
          refine ih (i + 1) (dClose (dLine D)) M (by omega) (by omega) (pN0_exp (pN0_line hN)) ((dLoop_go hgo (m + 1)).symm.trans hDf) ⟨M1, V1, _, g, l1, l2, hK, hR, fun z => ?_⟩
          obtain ⟨cs, ts, z⟩ := z
          obtain ⟨he, h1, h2⟩ := hI (pExp_in (k := 30) (by decide) z)
          rw [hrb0]
          exact ⟨bE_close he, h1, h2⟩
