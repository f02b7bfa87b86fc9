/-- a byte as it lies on the tape -/
def sb (c : Nat) : Int32 := vp_nar .byte (nI c)
theorem sb_lo : ∀ c, c < 128 → sb c = nI c := by decide
theorem sb_hi0 : ∀ c, c < 128 → sb (c + 128) < 0 := by decide
theorem sb_hi {c : Nat} (h : 128 ≤ c) (h2 : c < 256) : sb c < 0 := by
  have := sb_hi0 (c - 128) (by omega)
  rwa [show c - 128 + 128 = c by omega] at this
theorem sb_rg {c lo hi : Nat} (h : c < 256) (hlo : lo < 128) (hhi : hi < 128) : (nI lo ≤ sb c ∧ sb c ≤ nI hi) ↔ (lo ≤ c ∧ c ≤ hi) := by
  by_cases q : c < 128
  · rw [sb_lo c q, nI_leI (by omega) (by omega), nI_leI (by omega) (by omega)]
  · have hn := sb_hi (c := c) (by omega) h
    refine ⟨fun z => absurd z.1 ?_, fun z => absurd z.2 (by omega)⟩
    have h0 := Int32.lt_iff_toInt_lt.mp hn
    rw [Int32.le_iff_toInt_le, nI_toInt (by omega)]
    have : (0 : Int32).toInt = 0 := rfl
    omega
theorem sb_eq {c d : Nat} (h : c < 256) (hd : d < 128) : sb c = nI d ↔ c = d := by
  by_cases q : c < 128
  · rw [sb_lo c q, nI_eq (by omega) (by omega)]
  · have hn := sb_hi (c := c) (by omega) h
    refine ⟨fun z => ?_, fun z => absurd z (by omega)⟩
    rw [z] at hn
    exact absurd hn (nI_pos (by omega))
theorem words_flat : (zch.getD 0 []).drop 0 = flat cws := by decide
theorem cws_ns : ∀ w ∈ cws, ∀ c ∈ w, c ≠ 32 := by decide
abbrev alk (tx : Nat → Nat) (st be : Nat) (wd : List Nat) (j : Nat) : Prop := ∀ i, i < j → st + i < be ∧ tx (st + i) = wd.getD i 0
theorem word_l1 {G : zG} {l : Launch} {a : Nat} {M0 M : zM} {V : Nat → Nat → Int32} {W : Nat → Nat → Int64} {R : Nat → Nat → Option Nat} {Q : Option Value → zM → Prop} {av : Nat → Nat} {fm : Nat} (hG : zSt G av fm) {tx : Nat → Nat} (st : Nat) {x_st : Int32} (e_st : x_st = nI st) (be : Nat) {x_be : Int32} (e_be : x_be = nI be) (hb9 : be ≤ 900) (hsb : st ≤ be) (hd : ∀ j, st ≤ j → j < be → V 1 j = nI (tx j)) (hb : ∀ k, tx k < 256) (wd : List Nat) (ws : List (List Nat)) (c k : Nat) (hc : c ≤ 22) (hdr : (zch.getD 0 []).drop k = flat (wd :: ws)) (hns : ∀ x ∈ wd, x ≠ 32) (hA : kA a M0 M V W R) (hk : aj G l kX9_wordOf 4 13 [(6, .int (nI (k + wd.length))), (5, .int (zb (alk tx st be wd wd.length))), (4, .int (nI (st + wd.length))), (3, .int (nI (1000 + c))), (0, .ref (a + 1)), (1, .int x_st), (2, .int x_be)] [] M 0 0 Q) : ∀ (m j : Nat), j + m = wd.length → aj G l kX9_wordOf 4 13 [(6, .int (nI (k + j))), (5, .int (zb (alk tx st be wd j))), (4, .int (nI (st + j))), (3, .int (nI (1000 + c))), (0, .ref (a + 1)), (1, .int x_st), (2, .int x_be)] [] M 0 0 Q := by
  have hl := zc_len hdr (by have := flat_l (w := wd) (ws := ws); omega)
  have hfl := flat_l (w := wd) (ws := ws)
  have h108 : (zch.getD 0 []).length = 108 := by decide
  intro m
  induction m with
  | zero =>
    intro j hj
    have e : j = wd.length := by omega
    rw [e]
    exact hk
  | succ m ih =>
    intro j hj
    have hz := zc_at hdr j
    have hz8 : zc 0 (k + j) < 128 := zc_l (by decide)
    have hz : zc 0 (k + j) = wd.getD j 0 := by rw [hz]; exact flat_in (by omega)
    have hz32 := hns _ (getD_mem (w := wd) (j := j) (by omega))
    have hbj := hb (st + j)
    refine aj.iload dX9_wordOf_13 rfl ?_
    refine aj.ldcS 0 rfl rfl dX9_wordOf_15 ?_
    refine aj.callT hG (d' := 1) (As := []) (rest := [.int (nI (k + j))]) (by decide) dX9_wordOf_17 v_X9_56 ⟨w461, w462⟩ rfl rfl rfl (Nat.le_of_ble_eq_true rfl) (Nat.le_of_ble_eq_true rfl) (s_length hG _ 0 (by decide)) ?_
    refine aj.icmp_geN (a := k + j) (b := (zch.getD 0 []).length) (tgt := 112) dX9_wordOf_20 rfl rfl (by omega) (by omega) rfl (fun c20 => ?_) (fun c20 => ?_)
    · exact absurd c20 (by omega)
    · refine aj.ldcS 0 rfl rfl dX9_wordOf_23 ?_
      refine aj.iload dX9_wordOf_25 rfl ?_
      refine aj.callT hG (d' := 3) (As := [.int (nI (k + j))]) (rest := []) (by decide) dX9_wordOf_27 v_X9_60 ⟨w471, w472⟩ rfl rfl rfl (Nat.le_of_ble_eq_true rfl) (Nat.le_of_ble_eq_true rfl) (s_charAt hG _ 0 (by decide) (k + j) (by omega)) ?_
      refine aj.istore (lv' := [(7, .int (nI (zc 0 (k + j)))), (6, .int (nI (k + j))), (5, .int (zb (alk tx st be wd j))), (4, .int (nI (st + j))), (3, .int (nI (1000 + c))), (0, .ref (a + 1)), (1, .int x_st), (2, .int x_be)]) dX9_wordOf_30 (Nat.le_of_ble_eq_true rfl) rfl ?_
      refine aj.iload dX9_wordOf_32 rfl ?_
      refine aj.bipush (v := 32) dX9_wordOf_34 rfl ?_
      refine aj.icmp_eqN (a := zc 0 (k + j)) (b := 32) (tgt := 84) dX9_wordOf_36 rfl rfl (by omega) (by omega) rfl (fun c36 => ?_) (fun c36 => ?_)
      · exact absurd c36 (by omega)
      · refine aj.iload dX9_wordOf_39 rfl ?_
        refine aj.if_eqB (tgt := 75) dX9_wordOf_41 rfl (fun c41 => ?_) (fun c41 => ?_)
        · refine aj.iconst (v := 0) dX9_wordOf_75 rfl ?_
          refine aj.istore (lv' := [(5, .int 0), (7, .int (nI (zc 0 (k + j)))), (6, .int (nI (k + j))), (4, .int (nI (st + j))), (3, .int (nI (1000 + c))), (0, .ref (a + 1)), (1, .int x_st), (2, .int x_be)]) dX9_wordOf_76 (Nat.le_of_ble_eq_true rfl) rfl ?_
          refine aj.iincN (a := st + j) (c := 1) (lv' := [(4, .int (nI (st + j + 1))), (5, .int 0), (7, .int (nI (zc 0 (k + j)))), (6, .int (nI (k + j))), (3, .int (nI (1000 + c))), (0, .ref (a + 1)), (1, .int x_st), (2, .int x_be)]) dX9_wordOf_78 rfl (Nat.le_of_ble_eq_true rfl) rfl rfl rfl ?_
          refine aj.goto (tgt := 106) dX9_wordOf_81 rfl ?_
          refine aj.iincN (a := k + j) (c := 1) (lv' := [(6, .int (nI (k + j + 1))), (4, .int (nI (st + j + 1))), (5, .int 0), (7, .int (nI (zc 0 (k + j)))), (3, .int (nI (1000 + c))), (0, .ref (a + 1)), (1, .int x_st), (2, .int x_be)]) dX9_wordOf_106 rfl (Nat.le_of_ble_eq_true rfl) rfl rfl rfl ?_
          refine aj.goto (tgt := 13) dX9_wordOf_109 rfl ?_
          refine aj.pick [0, 2, 1, 4, 5, 6, 7] rfl ?_
          have e := ih (j + 1) (by omega)
          rw [zb_f (show ¬ alk tx st be wd (j + 1) from fun z => c41 (fun i hi => z i (by omega)))] at e
          exact e
        · refine aj.iload dX9_wordOf_44 rfl ?_
          refine aj.if_ltN (a := st + j) (tgt := 75) dX9_wordOf_46 rfl (by omega) rfl ?_
          refine aj.iload dX9_wordOf_49 rfl ?_
          refine aj.iload_n dX9_wordOf_51 rfl ?_
          refine aj.icmp_geN (a := st + j) (b := be) (tgt := 75) dX9_wordOf_52 rfl e_be (by omega) (by omega) rfl (fun c52 => ?_) (fun c52 => ?_)
          · refine aj.iconst (v := 0) dX9_wordOf_75 rfl ?_
            refine aj.istore (lv' := [(5, .int 0), (7, .int (nI (zc 0 (k + j)))), (6, .int (nI (k + j))), (4, .int (nI (st + j))), (3, .int (nI (1000 + c))), (0, .ref (a + 1)), (1, .int x_st), (2, .int x_be)]) dX9_wordOf_76 (Nat.le_of_ble_eq_true rfl) rfl ?_
            refine aj.iincN (a := st + j) (c := 1) (lv' := [(4, .int (nI (st + j + 1))), (5, .int 0), (7, .int (nI (zc 0 (k + j)))), (6, .int (nI (k + j))), (3, .int (nI (1000 + c))), (0, .ref (a + 1)), (1, .int x_st), (2, .int x_be)]) dX9_wordOf_78 rfl (Nat.le_of_ble_eq_true rfl) rfl rfl rfl ?_
            refine aj.goto (tgt := 106) dX9_wordOf_81 rfl ?_
            refine aj.iincN (a := k + j) (c := 1) (lv' := [(6, .int (nI (k + j + 1))), (4, .int (nI (st + j + 1))), (5, .int 0), (7, .int (nI (zc 0 (k + j)))), (3, .int (nI (1000 + c))), (0, .ref (a + 1)), (1, .int x_st), (2, .int x_be)]) dX9_wordOf_106 rfl (Nat.le_of_ble_eq_true rfl) rfl rfl rfl ?_
            refine aj.goto (tgt := 13) dX9_wordOf_109 rfl ?_
            refine aj.pick [0, 2, 1, 4, 5, 6, 7] rfl ?_
            have e := ih (j + 1) (by omega)
            rw [zb_f (show ¬ alk tx st be wd (j + 1) from fun z => absurd (z j (by omega)).1 (by omega))] at e
            exact e
          · refine aj.iload dX9_wordOf_55 rfl ?_
            refine aj.aload_n dX9_wordOf_57 rfl ?_
            refine aj.kN (i := 1) (n := 900) (v := nI 900) rfl (by decide) (by decide) dX9_wordOf_58 hA rfl ?_
            refine aj.icmp_geN (a := st + j) (b := 900) (tgt := 75) dX9_wordOf_59 rfl rfl (by omega) (by omega) rfl (fun c59 => ?_) (fun c59 => ?_)
            · exact absurd c59 (by omega)
            · refine aj.aload_n dX9_wordOf_62 rfl ?_
              refine aj.iload dX9_wordOf_63 rfl ?_
              refine aj.kLb (i := 1) (j := st + j) rfl dX9_wordOf_65 hA rfl (by omega) (by decide) ?_
              refine aj.iload dX9_wordOf_66 rfl ?_
              refine aj.icmp_neN (a := tx (st + j)) (b := zc 0 (k + j)) (tgt := 75) dX9_wordOf_68 (hd (st + j) (by omega) (by omega)) rfl (by omega) (by omega) rfl (fun c68 => ?_) (fun c68 => ?_)
              · refine aj.iconst (v := 0) dX9_wordOf_75 rfl ?_
                refine aj.istore (lv' := [(5, .int 0), (7, .int (nI (zc 0 (k + j)))), (6, .int (nI (k + j))), (4, .int (nI (st + j))), (3, .int (nI (1000 + c))), (0, .ref (a + 1)), (1, .int x_st), (2, .int x_be)]) dX9_wordOf_76 (Nat.le_of_ble_eq_true rfl) rfl ?_
                refine aj.iincN (a := st + j) (c := 1) (lv' := [(4, .int (nI (st + j + 1))), (5, .int 0), (7, .int (nI (zc 0 (k + j)))), (6, .int (nI (k + j))), (3, .int (nI (1000 + c))), (0, .ref (a + 1)), (1, .int x_st), (2, .int x_be)]) dX9_wordOf_78 rfl (Nat.le_of_ble_eq_true rfl) rfl rfl rfl ?_
                refine aj.goto (tgt := 106) dX9_wordOf_81 rfl ?_
                refine aj.iincN (a := k + j) (c := 1) (lv' := [(6, .int (nI (k + j + 1))), (4, .int (nI (st + j + 1))), (5, .int 0), (7, .int (nI (zc 0 (k + j)))), (3, .int (nI (1000 + c))), (0, .ref (a + 1)), (1, .int x_st), (2, .int x_be)]) dX9_wordOf_106 rfl (Nat.le_of_ble_eq_true rfl) rfl rfl rfl ?_
                refine aj.goto (tgt := 13) dX9_wordOf_109 rfl ?_
                refine aj.pick [0, 2, 1, 4, 5, 6, 7] rfl ?_
                have e := ih (j + 1) (by omega)
                rw [zb_f (show ¬ alk tx st be wd (j + 1) from fun z => c68 (by have := (z j (by omega)).2; omega))] at e
                exact e
              · refine aj.iconst (v := 1) dX9_wordOf_71 rfl ?_
                refine aj.goto (tgt := 76) dX9_wordOf_72 rfl ?_
                refine aj.istore (lv' := [(5, .int 1), (7, .int (nI (zc 0 (k + j)))), (6, .int (nI (k + j))), (4, .int (nI (st + j))), (3, .int (nI (1000 + c))), (0, .ref (a + 1)), (1, .int x_st), (2, .int x_be)]) dX9_wordOf_76 (Nat.le_of_ble_eq_true rfl) rfl ?_
                refine aj.iincN (a := st + j) (c := 1) (lv' := [(4, .int (nI (st + j + 1))), (5, .int 1), (7, .int (nI (zc 0 (k + j)))), (6, .int (nI (k + j))), (3, .int (nI (1000 + c))), (0, .ref (a + 1)), (1, .int x_st), (2, .int x_be)]) dX9_wordOf_78 rfl (Nat.le_of_ble_eq_true rfl) rfl rfl rfl ?_
                refine aj.goto (tgt := 106) dX9_wordOf_81 rfl ?_
                refine aj.iincN (a := k + j) (c := 1) (lv' := [(6, .int (nI (k + j + 1))), (4, .int (nI (st + j + 1))), (5, .int 1), (7, .int (nI (zc 0 (k + j)))), (3, .int (nI (1000 + c))), (0, .ref (a + 1)), (1, .int x_st), (2, .int x_be)]) dX9_wordOf_106 rfl (Nat.le_of_ble_eq_true rfl) rfl rfl rfl ?_
                refine aj.goto (tgt := 13) dX9_wordOf_109 rfl ?_
                refine aj.pick [0, 2, 1, 4, 5, 6, 7] rfl ?_
                have e := ih (j + 1) (by omega)
                rw [zb_t (show alk tx st be wd (j + 1) from fun i hi => if q : i = j then (by rw [q]; exact ⟨by omega, by omega⟩) else c41 i (by omega))] at e
                exact e
theorem word_out {G : zG} {l : Launch} {a : Nat} {M0 M : zM} {V : Nat → Nat → Int32} {W : Nat → Nat → Int64} {R : Nat → Nat → Option Nat} {av : Nat → Nat} {fm : Nat} (hG : zSt G av fm) {tx : Nat → Nat} (st : Nat) {x_st : Int32} (e_st : x_st = nI st) (be : Nat) {x_be : Int32} (e_be : x_be = nI be) (hb9 : be ≤ 900) (hsb : st ≤ be) (hd : ∀ j, st ≤ j → j < be → V 1 j = nI (tx j)) (hb : ∀ k, tx k < 256) (hA : kA a M0 M V W R) : ∀ (ws : List (List Nat)) (c k : Nat), c + ws.length = 22 → k ≤ 108 → (zch.getD 0 []).drop k = flat ws → (∀ wd ∈ ws, ∀ x ∈ wd, x ≠ 32) → aj G l kX9_wordOf 4 13 [(6, .int (nI k)), (5, .int 1), (4, .int x_st), (3, .int (nI (1000 + c))), (0, .ref (a + 1)), (1, .int x_st), (2, .int x_be)] [] M 0 0 (zr (.int (nI (1000 + (c + ws.idxOf (wordL tx st (be - st)))))) (fun M' => M' = M)) := by
  have h108 : (zch.getD 0 []).length = 108 := by decide
  intro ws
  induction ws with
  | nil =>
    intro c k hc hk hdr hns
    have hk9 : k = 108 := by
      have := congrArg List.length hdr
      rw [List.length_drop, h108] at this
      have e : (flat []).length = 0 := rfl
      omega
    refine aj.iload dX9_wordOf_13 rfl ?_
    refine aj.ldcS 0 rfl rfl dX9_wordOf_15 ?_
    refine aj.callT hG (d' := 1) (As := []) (rest := [.int (nI k)]) (by decide) dX9_wordOf_17 v_X9_56 ⟨w461, w462⟩ rfl rfl rfl (Nat.le_of_ble_eq_true rfl) (Nat.le_of_ble_eq_true rfl) (s_length hG _ 0 (by decide)) ?_
    refine aj.icmp_geN (a := k) (b := (zch.getD 0 []).length) (tgt := 112) dX9_wordOf_20 rfl rfl (by omega) (by omega) rfl (fun c20 => ?_) (fun c20 => ?_)
    · refine aj.iload_n dX9_wordOf_112 rfl ?_
      exact aj.iret rfl dX9_wordOf_113 ⟨by have e : c = 22 := hc; rw [e]; rfl, rfl⟩
    · exact absurd c20 (by omega)
  | cons wd ws ih =>
    intro c k hc hk hdr hns
    have hc' : c + (ws.length + 1) = 22 := hc
    have hl := zc_len hdr (by have := flat_l (w := wd) (ws := ws); omega)
    have hfl := flat_l (w := wd) (ws := ws)
    have hnw := hns wd List.mem_cons_self
    have hz := zc_at hdr wd.length
    rw [flat_32] at hz
    have e1 := word_l1 (l := l) (Q := zr (.int (nI (1000 + (c + (wd :: ws).idxOf (wordL tx st (be - st)))))) (fun M' => M' = M)) hG st e_st be e_be hb9 hsb hd hb wd ws c k (by omega) hdr hnw hA ?_ wd.length 0 (by omega)
    · rw [zb_t (show alk tx st be wd 0 from fun i hi => absurd hi (by omega)), show nI (st + 0) = x_st from e_st.symm] at e1
      exact e1
    · refine aj.iload dX9_wordOf_13 rfl ?_
      refine aj.ldcS 0 rfl rfl dX9_wordOf_15 ?_
      refine aj.callT hG (d' := 1) (As := []) (rest := [.int (nI (k + wd.length))]) (by decide) dX9_wordOf_17 v_X9_56 ⟨w461, w462⟩ rfl rfl rfl (Nat.le_of_ble_eq_true rfl) (Nat.le_of_ble_eq_true rfl) (s_length hG _ 0 (by decide)) ?_
      refine aj.icmp_geN (a := k + wd.length) (b := (zch.getD 0 []).length) (tgt := 112) dX9_wordOf_20 rfl rfl (by omega) (by omega) rfl (fun c20 => ?_) (fun c20 => ?_)
      · exact absurd c20 (by omega)
      · refine aj.ldcS 0 rfl rfl dX9_wordOf_23 ?_
        refine aj.iload dX9_wordOf_25 rfl ?_
        refine aj.callT hG (d' := 3) (As := [.int (nI (k + wd.length))]) (rest := []) (by decide) dX9_wordOf_27 v_X9_60 ⟨w471, w472⟩ rfl rfl rfl (Nat.le_of_ble_eq_true rfl) (Nat.le_of_ble_eq_true rfl) (s_charAt hG _ 0 (by decide) (k + wd.length) (by omega)) ?_
        refine aj.istore (lv' := [(7, .int (nI (zc 0 (k + wd.length)))), (6, .int (nI (k + wd.length))), (5, .int (zb (alk tx st be wd wd.length))), (4, .int (nI (st + wd.length))), (3, .int (nI (1000 + c))), (0, .ref (a + 1)), (1, .int x_st), (2, .int x_be)]) dX9_wordOf_30 (Nat.le_of_ble_eq_true rfl) rfl ?_
        refine aj.iload dX9_wordOf_32 rfl ?_
        refine aj.bipush (v := 32) dX9_wordOf_34 rfl ?_
        refine aj.icmp_eqN (a := zc 0 (k + wd.length)) (b := 32) (tgt := 84) dX9_wordOf_36 rfl rfl (by omega) (by omega) rfl (fun c36 => ?_) (fun c36 => ?_)
        · refine aj.iload dX9_wordOf_84 rfl ?_
          refine aj.if_eqB (tgt := 97) dX9_wordOf_86 rfl (fun c86 => ?_) (fun c86 => ?_)
          · refine aj.iincN (a := 1000 + c) (c := 1) (lv' := [(3, .int (nI (1000 + c + 1))), (7, .int (nI (zc 0 (k + wd.length)))), (6, .int (nI (k + wd.length))), (5, .int (zb (alk tx st be wd wd.length))), (4, .int (nI (st + wd.length))), (0, .ref (a + 1)), (1, .int x_st), (2, .int x_be)]) dX9_wordOf_97 rfl (Nat.le_of_ble_eq_true rfl) rfl rfl rfl ?_
            refine aj.iload_n dX9_wordOf_100 rfl ?_
            refine aj.istore (lv' := [(4, .int x_st), (3, .int (nI (1000 + c + 1))), (7, .int (nI (zc 0 (k + wd.length)))), (6, .int (nI (k + wd.length))), (5, .int (zb (alk tx st be wd wd.length))), (0, .ref (a + 1)), (1, .int x_st), (2, .int x_be)]) dX9_wordOf_101 (Nat.le_of_ble_eq_true rfl) rfl ?_
            refine aj.iconst (v := 1) dX9_wordOf_103 rfl ?_
            refine aj.istore (lv' := [(5, .int 1), (4, .int x_st), (3, .int (nI (1000 + c + 1))), (7, .int (nI (zc 0 (k + wd.length)))), (6, .int (nI (k + wd.length))), (0, .ref (a + 1)), (1, .int x_st), (2, .int x_be)]) dX9_wordOf_104 (Nat.le_of_ble_eq_true rfl) rfl ?_
            refine aj.iincN (a := k + wd.length) (c := 1) (lv' := [(6, .int (nI (k + wd.length + 1))), (5, .int 1), (4, .int x_st), (3, .int (nI (1000 + c + 1))), (7, .int (nI (zc 0 (k + wd.length)))), (0, .ref (a + 1)), (1, .int x_st), (2, .int x_be)]) dX9_wordOf_106 rfl (Nat.le_of_ble_eq_true rfl) rfl rfl rfl ?_
            refine aj.goto (tgt := 13) dX9_wordOf_109 rfl ?_
            refine aj.pick [0, 1, 2, 3, 5, 6, 7] rfl ?_
            have hne : wd ≠ wordL tx st (be - st) := by
              intro e
              have hlen : wd.length = be - st := by rw [e, wordL_len]
              exact c86 (fun i hi => ⟨by omega, by rw [e, wordL_at tx _ _ _ (by omega)]⟩)
            rw [idx_ne hne, show 1000 + (c + (ws.idxOf (wordL tx st (be - st)) + 1)) = 1000 + ((c + 1) + ws.idxOf (wordL tx st (be - st))) by omega]
            exact ih (c + 1) (k + wd.length + 1) (by omega) (by omega) (by rw [show k + wd.length + 1 = k + (wd.length + 1) by omega, ← List.drop_drop, hdr, flat_dr]) (fun x hx => hns x (List.mem_cons_of_mem _ hx))
          · refine aj.iload dX9_wordOf_89 rfl ?_
            refine aj.iload_n dX9_wordOf_91 rfl ?_
            refine aj.icmp_neN (a := st + wd.length) (b := be) (tgt := 97) dX9_wordOf_92 rfl e_be (by omega) (by omega) rfl (fun c92 => ?_) (fun c92 => ?_)
            · refine aj.iincN (a := 1000 + c) (c := 1) (lv' := [(3, .int (nI (1000 + c + 1))), (7, .int (nI (zc 0 (k + wd.length)))), (6, .int (nI (k + wd.length))), (5, .int (zb (alk tx st be wd wd.length))), (4, .int (nI (st + wd.length))), (0, .ref (a + 1)), (1, .int x_st), (2, .int x_be)]) dX9_wordOf_97 rfl (Nat.le_of_ble_eq_true rfl) rfl rfl rfl ?_
              refine aj.iload_n dX9_wordOf_100 rfl ?_
              refine aj.istore (lv' := [(4, .int x_st), (3, .int (nI (1000 + c + 1))), (7, .int (nI (zc 0 (k + wd.length)))), (6, .int (nI (k + wd.length))), (5, .int (zb (alk tx st be wd wd.length))), (0, .ref (a + 1)), (1, .int x_st), (2, .int x_be)]) dX9_wordOf_101 (Nat.le_of_ble_eq_true rfl) rfl ?_
              refine aj.iconst (v := 1) dX9_wordOf_103 rfl ?_
              refine aj.istore (lv' := [(5, .int 1), (4, .int x_st), (3, .int (nI (1000 + c + 1))), (7, .int (nI (zc 0 (k + wd.length)))), (6, .int (nI (k + wd.length))), (0, .ref (a + 1)), (1, .int x_st), (2, .int x_be)]) dX9_wordOf_104 (Nat.le_of_ble_eq_true rfl) rfl ?_
              refine aj.iincN (a := k + wd.length) (c := 1) (lv' := [(6, .int (nI (k + wd.length + 1))), (5, .int 1), (4, .int x_st), (3, .int (nI (1000 + c + 1))), (7, .int (nI (zc 0 (k + wd.length)))), (0, .ref (a + 1)), (1, .int x_st), (2, .int x_be)]) dX9_wordOf_106 rfl (Nat.le_of_ble_eq_true rfl) rfl rfl rfl ?_
              refine aj.goto (tgt := 13) dX9_wordOf_109 rfl ?_
              refine aj.pick [0, 1, 2, 3, 5, 6, 7] rfl ?_
              have hne : wd ≠ wordL tx st (be - st) := by
                intro e
                have hlen : wd.length = be - st := by rw [e, wordL_len]
                omega
              rw [idx_ne hne, show 1000 + (c + (ws.idxOf (wordL tx st (be - st)) + 1)) = 1000 + ((c + 1) + ws.idxOf (wordL tx st (be - st))) by omega]
              exact ih (c + 1) (k + wd.length + 1) (by omega) (by omega) (by rw [show k + wd.length + 1 = k + (wd.length + 1) by omega, ← List.drop_drop, hdr, flat_dr]) (fun x hx => hns x (List.mem_cons_of_mem _ hx))
            · refine aj.iload_n dX9_wordOf_95 rfl ?_
              have hw : wd = wordL tx st (be - st) := list_ext (by rw [wordL_len]; omega) (fun j hj => by rw [wordL_at tx _ _ _ (by omega)]; exact ((c86 j hj).2).symm)
              exact aj.iret rfl dX9_wordOf_96 ⟨by rw [← hw, List.idxOf_cons_self]; rfl, rfl⟩
        · exact absurd hz c36
theorem k_wordOf {G : zG} {l : Launch} {a : Nat} {M0 M : zM} {V : Nat → Nat → Int32} {W : Nat → Nat → Int64} {R : Nat → Nat → Option Nat} {av : Nat → Nat} {fm : Nat} (hG : zSt G av fm) {tx : Nat → Nat} (st : Nat) {x_st : Int32} (e_st : x_st = nI st) (be : Nat) {x_be : Int32} (e_be : x_be = nI be) (hb9 : be ≤ 900) (hsb : st ≤ be) (hd : ∀ j, st ≤ j → j < be → V 1 j = nI (tx j)) (hb : ∀ k, tx k < 256) (hA : kA a M0 M V W R) : am G l kX9_wordOf 4 [.ref (a + 1), .int x_st, .int x_be] M 0 0 (zr (.int (nI (1000 + cws.idxOf (wordL tx st (be - st))))) (fun M' => M' = M)) := by
  refine am.of (by decide) (Nat.le_of_ble_eq_true rfl) ?_
  refine aj.sipush (v := 1000) dX9_wordOf_0 rfl ?_
  refine aj.istore_n (lv' := [(3, .int 1000), (0, .ref (a + 1)), (1, .int x_st), (2, .int x_be)]) dX9_wordOf_3 (Nat.le_of_ble_eq_true rfl) rfl ?_
  refine aj.iload_n dX9_wordOf_4 rfl ?_
  refine aj.istore (lv' := [(4, .int x_st), (3, .int 1000), (0, .ref (a + 1)), (1, .int x_st), (2, .int x_be)]) dX9_wordOf_5 (Nat.le_of_ble_eq_true rfl) rfl ?_
  refine aj.iconst (v := 1) dX9_wordOf_7 rfl ?_
  refine aj.istore (lv' := [(5, .int 1), (4, .int x_st), (3, .int 1000), (0, .ref (a + 1)), (1, .int x_st), (2, .int x_be)]) dX9_wordOf_8 (Nat.le_of_ble_eq_true rfl) rfl ?_
  refine aj.iconst (v := 0) dX9_wordOf_10 rfl ?_
  refine aj.istore (lv' := [(6, .int 0), (5, .int 1), (4, .int x_st), (3, .int 1000), (0, .ref (a + 1)), (1, .int x_st), (2, .int x_be)]) dX9_wordOf_11 (Nat.le_of_ble_eq_true rfl) rfl ?_
  refine aj.pick [0, 1, 2, 3, 4, 5, 6] rfl ?_
  have h := word_out (l := l) hG st e_st be e_be hb9 hsb hd hb hA cws 0 0 rfl (by omega) words_flat cws_ns
  rw [Nat.zero_add] at h
  exact h
