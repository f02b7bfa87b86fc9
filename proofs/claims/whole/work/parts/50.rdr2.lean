theorem r_eats {G : zG} {l : Launch} {b : Nat} {M0 M : zM} {I0 : Nat → Int32} {A0 : Nat → Nat → Int32} {L : Nat → Nat → Int64} {tx : Nat → Nat} {n : Nat} {S : pS} {av : Nat → Nat} {fm : Nat} (hG : zSt G av fm) (hC : rC tx n I0 A0) (k : Nat) {x_k : Int32} (e_k : x_k = nI k) (hk : k < 98) (hk2 : k ≠ 24) (hR : rW b M0 M I0 A0 L tx n S) : am G l kX12_eats 6 [.ref b, .int x_k] M 0 0 (zr (.int (zb (pHd S = k))) (fun M' => rW b M0 M' I0 A0 L tx n (if pHd S = k then pNext S else S))) := by
  refine am.of (by decide) (Nat.le_of_ble_eq_true rfl) ?_
  refine aj.aload_n dX12_eats_0 rfl ?_
  refine aj.iload_n dX12_eats_1 rfl ?_
  refine aj.rCall1 (d' := 0) (As := [.int x_k]) (rest := []) hR dX12_eats_2 v_X12_132 li_X12_is rfl rfl rfl (Nat.le_of_ble_eq_true rfl) (Nat.le_of_ble_eq_true rfl) (r_is k e_k hk hR) (fun M hR => ?_)
  refine aj.if_neB (tgt := 10) dX12_eats_5 rfl (fun c5 => ?_) (fun c5 => ?_)
  · refine aj.aload_n dX12_eats_10 rfl ?_
    refine aj.rCall0 (d' := 5) (As := []) (rest := []) hR dX12_eats_11 v_X12_135 li_X12_next rfl rfl rfl (Nat.le_of_ble_eq_true rfl) (Nat.le_of_ble_eq_true rfl) (r_next hG hC (c5) (by omega) (by omega) hR) (fun M hR => ?_)
    refine aj.iconst (v := 1) dX12_eats_14 rfl ?_
    exact aj.zret (ty := .boolean) rfl rfl dX12_eats_15 ⟨by rw [zb_t c5], by rw [if_pos c5]; exact hR⟩
  · refine aj.iconst (v := 0) dX12_eats_8 rfl ?_
    exact aj.zret (ty := .boolean) rfl rfl dX12_eats_9 ⟨by rw [zb_f c5], by rw [if_neg c5]; exact hR⟩
theorem r_goesIn {G : zG} {l : Launch} {b : Nat} {M0 M : zM} {I0 : Nat → Int32} {A0 : Nat → Nat → Int32} {L : Nat → Nat → Int64} {tx : Nat → Nat} {n : Nat} {S : pS} {av : Nat → Nat} {fm : Nat} (hG : zSt G av fm) (hC : rC tx n I0 A0) (r : Nat) {x : Int32} (ex : x = nI (6 - r)) (hr : r ≤ 6) {k : Nat} (hh : pHd S = k) (hk : k < 98) (hk2 : k ≠ 24) (hR : rW b M0 M I0 A0 L tx n S) : am G l kX12_goesIn 6 [.ref b, .int x] M 0 0 (zr (.int (zb (¬ r = 0))) (fun M' => rW b M0 M' I0 A0 L tx n (pGo r S))) := by
  have hh0 := hR.hd
  refine am.of (by decide) (Nat.le_of_ble_eq_true rfl) ?_
  refine aj.iload_n dX12_goesIn_0 rfl ?_
  refine aj.bipush (v := 6) dX12_goesIn_1 rfl ?_
  refine aj.icmp_neN (a := 6 - r) (b := 6) (tgt := 11) dX12_goesIn_3 ex rfl (by omega) (by omega) rfl (fun c3 => ?_) (fun c3 => ?_)
  · refine aj.aload_n dX12_goesIn_11 rfl ?_
    refine aj.rWr rfl dX12_goesIn_12 hR ?_
    refine aj.if_neN (a := pWr S) (tgt := 22) dX12_goesIn_15 rfl (by omega) rfl (fun c15 => ?_) (fun c15 => ?_)
    · exact absurd (hh0.2.2.1.mpr (by omega)) (by omega)
    · refine aj.aload_n dX12_goesIn_18 rfl ?_
      refine aj.rCall0 (d' := 5) (As := []) (rest := []) hR dX12_goesIn_19 v_X12_135 li_X12_next rfl rfl rfl (Nat.le_of_ble_eq_true rfl) (Nat.le_of_ble_eq_true rfl) (r_next hG hC hh hk hk2 hR) (fun M hR => ?_)
      have hh1 := hR.hd
      have hw4 : pWr (pNext S) = 0 := by obtain ⟨cs, t, ts, rfl, -⟩ := pHd_in hh hk; rfl
      refine aj.aload_n dX12_goesIn_22 rfl ?_
      refine aj.rWr rfl dX12_goesIn_23 hR ?_
      refine aj.if_neN (a := pWr (pNext S)) (tgt := 33) dX12_goesIn_26 rfl (by omega) rfl (fun c26 => ?_) (fun c26 => ?_)
      · exact absurd (hw4) (by omega)
      · refine aj.iconst (v := 1) dX12_goesIn_29 rfl ?_
        refine aj.goto (tgt := 34) dX12_goesIn_30 rfl ?_
        exact aj.zret (ty := .boolean) rfl rfl dX12_goesIn_34 ⟨by rw [zb_t (by omega)], by unfold pGo; rw [if_neg (by omega)]; exact hR⟩
  · refine aj.aload_n dX12_goesIn_6 rfl ?_
    refine aj.iconst (v := 4) dX12_goesIn_7 rfl ?_
    refine aj.rCall0 (d' := 0) (As := [.int 4]) (rest := []) hR dX12_goesIn_8 v_X12_138 li_X12_fails rfl rfl rfl (Nat.le_of_ble_eq_true rfl) (Nat.le_of_ble_eq_true rfl) (r_fails 4 rfl (by decide) hR) (fun M hR => ?_)
    have hh1 := hR.hd
    obtain ⟨e4, he4⟩ := pFail_in 4 S
    have hw4 : pWr (pFail 4 S) ≠ 0 := fun z => absurd (hh1.2.2.1.mp z) (by rw [he4]; show ¬ 99 < 98; decide)
    refine aj.aload_n dX12_goesIn_11 rfl ?_
    refine aj.rWr rfl dX12_goesIn_12 hR ?_
    refine aj.if_neN (a := pWr (pFail 4 S)) (tgt := 22) dX12_goesIn_15 rfl (by omega) rfl (fun c15 => ?_) (fun c15 => ?_)
    · refine aj.aload_n dX12_goesIn_22 rfl ?_
      refine aj.rWr rfl dX12_goesIn_23 hR ?_
      refine aj.if_neN (a := pWr (pFail 4 S)) (tgt := 33) dX12_goesIn_26 rfl (by omega) rfl (fun c26 => ?_) (fun c26 => ?_)
      · refine aj.iconst (v := 0) dX12_goesIn_33 rfl ?_
        exact aj.zret (ty := .boolean) rfl rfl dX12_goesIn_34 ⟨by rw [zb_f (by omega)], by unfold pGo; rw [if_pos (by omega)]; exact hR⟩
      · exact absurd c26 hw4
    · exact absurd c15 hw4
def wdV (o : Option Nat) : Int32 := match o with
  | some w => nI w
  | none => -1
theorem r_wordOf {G : zG} {l : Launch} {b : Nat} {M0 M : zM} {I0 : Nat → Int32} {A0 : Nat → Nat → Int32} {L : Nat → Nat → Int64} {tx : Nat → Nat} {n : Nat} {S : pS} (k : Nat) {x_k : Int32} (e_k : x_k = nI k) (st : Bool) (h15 : I0 15 = if st then 0 else 1) (hk : k ≤ 99) (hR : rW b M0 M I0 A0 L tx n S) : am G l kX12_wordOf 0 [.ref b, .int x_k] M 0 0 (zr (.int (wdV (wdOf st k))) (fun M' => rW b M0 M' I0 A0 L tx n S)) := by
  have hR' := hR
  obtain ⟨I, A, ⟨u, v, w, hA⟩, hF, hS⟩ := hR
  have hI : I 15 = if st then 0 else 1 := (hF.1 15 (by decide) (by decide) (by decide) (by decide) (by decide) (by decide)).trans h15
  refine am.of (by decide) (Nat.le_of_ble_eq_true rfl) ?_
  cases st with
  | false =>
    refine aj.aload_n dX12_wordOf_0 rfl ?_
    refine gM15 rfl dX12_wordOf_1 hA ?_
    rw [hI]
    show aj G l kX12_wordOf 0 4 _ [.int 1] M 0 0 _
    refine aj.if_neN (a := 1) (tgt := 11) dX12_wordOf_4 rfl (by omega) rfl (fun c4 => ?_) (fun c4 => ?_)
    · refine aj.iconst (v := 0) dX12_wordOf_11 rfl ?_
      refine aj.istore_n (lv' := [(2, .int 0), (0, .ref b), (1, .int x_k)]) dX12_wordOf_12 (Nat.le_of_ble_eq_true rfl) rfl ?_
      refine aj.iload_n dX12_wordOf_13 rfl ?_
      subst e_k
      by_cases ck : k = 6 ∨ k = 7 ∨ k = 14 ∨ k = 15 ∨ k = 16 ∨ k = 17 ∨ k = 18
      · rcases ck with rfl | rfl | rfl | rfl | rfl | rfl | rfl
        · refine aj.swIn (tgt := 92) (off := 78) dX12_wordOf_14 (by decide) (by decide) (by decide) rfl ?_
          refine aj.iload_n dX12_wordOf_92 rfl ?_
          refine aj.if_eqN (a := 0) (tgt := 100) dX12_wordOf_93 rfl (by omega) rfl (fun c93 => ?_) (fun c93 => ?_)
          · refine aj.iconst (v := (-1)) dX12_wordOf_100 rfl ?_
            exact aj.iret rfl dX12_wordOf_101 ⟨rfl, hR'⟩
          · exact absurd rfl c93
        · refine aj.swIn (tgt := 80) (off := 66) dX12_wordOf_14 (by decide) (by decide) (by decide) rfl ?_
          refine aj.iconst (v := 0) dX12_wordOf_80 rfl ?_
          exact aj.iret rfl dX12_wordOf_81 ⟨rfl, hR'⟩
        · refine aj.swIn (tgt := 82) (off := 68) dX12_wordOf_14 (by decide) (by decide) (by decide) rfl ?_
          refine aj.iload_n dX12_wordOf_82 rfl ?_
          refine aj.if_eqN (a := 0) (tgt := 90) dX12_wordOf_83 rfl (by omega) rfl (fun c83 => ?_) (fun c83 => ?_)
          · refine aj.iconst (v := (-1)) dX12_wordOf_90 rfl ?_
            exact aj.iret rfl dX12_wordOf_91 ⟨rfl, hR'⟩
          · exact absurd rfl c83
        · refine aj.swIn (tgt := 102) (off := 88) dX12_wordOf_14 (by decide) (by decide) (by decide) rfl ?_
          refine aj.iload_n dX12_wordOf_102 rfl ?_
          refine aj.if_eqN (a := 0) (tgt := 110) dX12_wordOf_103 rfl (by omega) rfl (fun c103 => ?_) (fun c103 => ?_)
          · refine aj.iconst (v := (-1)) dX12_wordOf_110 rfl ?_
            exact aj.iret rfl dX12_wordOf_111 ⟨rfl, hR'⟩
          · exact absurd rfl c103
        · refine aj.swIn (tgt := 112) (off := 98) dX12_wordOf_14 (by decide) (by decide) (by decide) rfl ?_
          refine aj.iload_n dX12_wordOf_112 rfl ?_
          refine aj.if_eqN (a := 0) (tgt := 120) dX12_wordOf_113 rfl (by omega) rfl (fun c113 => ?_) (fun c113 => ?_)
          · refine aj.iconst (v := (-1)) dX12_wordOf_120 rfl ?_
            exact aj.iret rfl dX12_wordOf_121 ⟨rfl, hR'⟩
          · exact absurd rfl c113
        · refine aj.swIn (tgt := 122) (off := 108) dX12_wordOf_14 (by decide) (by decide) (by decide) rfl ?_
          refine aj.iload_n dX12_wordOf_122 rfl ?_
          refine aj.if_eqN (a := 0) (tgt := 130) dX12_wordOf_123 rfl (by omega) rfl (fun c123 => ?_) (fun c123 => ?_)
          · refine aj.iconst (v := 5) dX12_wordOf_130 rfl ?_
            exact aj.iret rfl dX12_wordOf_131 ⟨rfl, hR'⟩
          · exact absurd rfl c123
        · refine aj.swIn (tgt := 132) (off := 118) dX12_wordOf_14 (by decide) (by decide) (by decide) rfl ?_
          refine aj.iload_n dX12_wordOf_132 rfl ?_
          refine aj.if_eqN (a := 0) (tgt := 140) dX12_wordOf_133 rfl (by omega) rfl (fun c133 => ?_) (fun c133 => ?_)
          · refine aj.bipush (v := 6) dX12_wordOf_140 rfl ?_
            exact aj.iret rfl dX12_wordOf_142 ⟨rfl, hR'⟩
          · exact absurd rfl c133
      · have ew : wdOf false k = none := by unfold wdOf; (repeat' split) <;> first | rfl | omega
        rw [ew]
        by_cases cr : k < 6 ∨ 18 < k
        · refine aj.swOut (tgt := 143) dX12_wordOf_14 (by rw [nI_toInt (by omega)]; omega) rfl ?_
          refine aj.iconst (v := (-1)) dX12_wordOf_143 rfl ?_
          exact aj.iret rfl dX12_wordOf_144 ⟨rfl, hR'⟩
        · rcases (show k = 8 ∨ k = 9 ∨ k = 10 ∨ k = 11 ∨ k = 12 ∨ k = 13 by omega) with rfl | rfl | rfl | rfl | rfl | rfl
          · refine aj.swIn (tgt := 143) (off := 129) dX12_wordOf_14 (by decide) (by decide) (by decide) rfl ?_
            refine aj.iconst (v := (-1)) dX12_wordOf_143 rfl ?_
            exact aj.iret rfl dX12_wordOf_144 ⟨rfl, hR'⟩
          · refine aj.swIn (tgt := 143) (off := 129) dX12_wordOf_14 (by decide) (by decide) (by decide) rfl ?_
            refine aj.iconst (v := (-1)) dX12_wordOf_143 rfl ?_
            exact aj.iret rfl dX12_wordOf_144 ⟨rfl, hR'⟩
          · refine aj.swIn (tgt := 143) (off := 129) dX12_wordOf_14 (by decide) (by decide) (by decide) rfl ?_
            refine aj.iconst (v := (-1)) dX12_wordOf_143 rfl ?_
            exact aj.iret rfl dX12_wordOf_144 ⟨rfl, hR'⟩
          · refine aj.swIn (tgt := 143) (off := 129) dX12_wordOf_14 (by decide) (by decide) (by decide) rfl ?_
            refine aj.iconst (v := (-1)) dX12_wordOf_143 rfl ?_
            exact aj.iret rfl dX12_wordOf_144 ⟨rfl, hR'⟩
          · refine aj.swIn (tgt := 143) (off := 129) dX12_wordOf_14 (by decide) (by decide) (by decide) rfl ?_
            refine aj.iconst (v := (-1)) dX12_wordOf_143 rfl ?_
            exact aj.iret rfl dX12_wordOf_144 ⟨rfl, hR'⟩
          · refine aj.swIn (tgt := 143) (off := 129) dX12_wordOf_14 (by decide) (by decide) (by decide) rfl ?_
            refine aj.iconst (v := (-1)) dX12_wordOf_143 rfl ?_
            exact aj.iret rfl dX12_wordOf_144 ⟨rfl, hR'⟩
    · exact absurd c4 (by decide)
  | true =>
    refine aj.aload_n dX12_wordOf_0 rfl ?_
    refine gM15 rfl dX12_wordOf_1 hA ?_
    rw [hI]
    show aj G l kX12_wordOf 0 4 _ [.int 0] M 0 0 _
    refine aj.if_neN (a := 0) (tgt := 11) dX12_wordOf_4 rfl (by omega) rfl (fun c4 => ?_) (fun c4 => ?_)
    · exact absurd rfl c4
    · refine aj.iconst (v := 1) dX12_wordOf_7 rfl ?_
      refine aj.goto (tgt := 12) dX12_wordOf_8 rfl ?_
      refine aj.istore_n (lv' := [(2, .int 1), (0, .ref b), (1, .int x_k)]) dX12_wordOf_12 (Nat.le_of_ble_eq_true rfl) rfl ?_
      refine aj.iload_n dX12_wordOf_13 rfl ?_
      subst e_k
      by_cases ck : k = 6 ∨ k = 7 ∨ k = 14 ∨ k = 15 ∨ k = 16 ∨ k = 17 ∨ k = 18
      · rcases ck with rfl | rfl | rfl | rfl | rfl | rfl | rfl
        · refine aj.swIn (tgt := 92) (off := 78) dX12_wordOf_14 (by decide) (by decide) (by decide) rfl ?_
          refine aj.iload_n dX12_wordOf_92 rfl ?_
          refine aj.if_eqN (a := 1) (tgt := 100) dX12_wordOf_93 rfl (by omega) rfl (fun c93 => ?_) (fun c93 => ?_)
          · exact absurd c93 (by decide)
          · refine aj.iconst (v := 2) dX12_wordOf_96 rfl ?_
            refine aj.goto (tgt := 101) dX12_wordOf_97 rfl ?_
            exact aj.iret rfl dX12_wordOf_101 ⟨rfl, hR'⟩
        · refine aj.swIn (tgt := 80) (off := 66) dX12_wordOf_14 (by decide) (by decide) (by decide) rfl ?_
          refine aj.iconst (v := 0) dX12_wordOf_80 rfl ?_
          exact aj.iret rfl dX12_wordOf_81 ⟨rfl, hR'⟩
        · refine aj.swIn (tgt := 82) (off := 68) dX12_wordOf_14 (by decide) (by decide) (by decide) rfl ?_
          refine aj.iload_n dX12_wordOf_82 rfl ?_
          refine aj.if_eqN (a := 1) (tgt := 90) dX12_wordOf_83 rfl (by omega) rfl (fun c83 => ?_) (fun c83 => ?_)
          · exact absurd c83 (by decide)
          · refine aj.iconst (v := 1) dX12_wordOf_86 rfl ?_
            refine aj.goto (tgt := 91) dX12_wordOf_87 rfl ?_
            exact aj.iret rfl dX12_wordOf_91 ⟨rfl, hR'⟩
        · refine aj.swIn (tgt := 102) (off := 88) dX12_wordOf_14 (by decide) (by decide) (by decide) rfl ?_
          refine aj.iload_n dX12_wordOf_102 rfl ?_
          refine aj.if_eqN (a := 1) (tgt := 110) dX12_wordOf_103 rfl (by omega) rfl (fun c103 => ?_) (fun c103 => ?_)
          · exact absurd c103 (by decide)
          · refine aj.iconst (v := 3) dX12_wordOf_106 rfl ?_
            refine aj.goto (tgt := 111) dX12_wordOf_107 rfl ?_
            exact aj.iret rfl dX12_wordOf_111 ⟨rfl, hR'⟩
        · refine aj.swIn (tgt := 112) (off := 98) dX12_wordOf_14 (by decide) (by decide) (by decide) rfl ?_
          refine aj.iload_n dX12_wordOf_112 rfl ?_
          refine aj.if_eqN (a := 1) (tgt := 120) dX12_wordOf_113 rfl (by omega) rfl (fun c113 => ?_) (fun c113 => ?_)
          · exact absurd c113 (by decide)
          · refine aj.iconst (v := 4) dX12_wordOf_116 rfl ?_
            refine aj.goto (tgt := 121) dX12_wordOf_117 rfl ?_
            exact aj.iret rfl dX12_wordOf_121 ⟨rfl, hR'⟩
        · refine aj.swIn (tgt := 122) (off := 108) dX12_wordOf_14 (by decide) (by decide) (by decide) rfl ?_
          refine aj.iload_n dX12_wordOf_122 rfl ?_
          refine aj.if_eqN (a := 1) (tgt := 130) dX12_wordOf_123 rfl (by omega) rfl (fun c123 => ?_) (fun c123 => ?_)
          · exact absurd c123 (by decide)
          · refine aj.iconst (v := (-1)) dX12_wordOf_126 rfl ?_
            refine aj.goto (tgt := 131) dX12_wordOf_127 rfl ?_
            exact aj.iret rfl dX12_wordOf_131 ⟨rfl, hR'⟩
        · refine aj.swIn (tgt := 132) (off := 118) dX12_wordOf_14 (by decide) (by decide) (by decide) rfl ?_
          refine aj.iload_n dX12_wordOf_132 rfl ?_
          refine aj.if_eqN (a := 1) (tgt := 140) dX12_wordOf_133 rfl (by omega) rfl (fun c133 => ?_) (fun c133 => ?_)
          · exact absurd c133 (by decide)
          · refine aj.iconst (v := (-1)) dX12_wordOf_136 rfl ?_
            refine aj.goto (tgt := 142) dX12_wordOf_137 rfl ?_
            exact aj.iret rfl dX12_wordOf_142 ⟨rfl, hR'⟩
      · have ew : wdOf true k = none := by unfold wdOf; (repeat' split) <;> first | rfl | omega
        rw [ew]
        by_cases cr : k < 6 ∨ 18 < k
        · refine aj.swOut (tgt := 143) dX12_wordOf_14 (by rw [nI_toInt (by omega)]; omega) rfl ?_
          refine aj.iconst (v := (-1)) dX12_wordOf_143 rfl ?_
          exact aj.iret rfl dX12_wordOf_144 ⟨rfl, hR'⟩
        · rcases (show k = 8 ∨ k = 9 ∨ k = 10 ∨ k = 11 ∨ k = 12 ∨ k = 13 by omega) with rfl | rfl | rfl | rfl | rfl | rfl
          · refine aj.swIn (tgt := 143) (off := 129) dX12_wordOf_14 (by decide) (by decide) (by decide) rfl ?_
            refine aj.iconst (v := (-1)) dX12_wordOf_143 rfl ?_
            exact aj.iret rfl dX12_wordOf_144 ⟨rfl, hR'⟩
          · refine aj.swIn (tgt := 143) (off := 129) dX12_wordOf_14 (by decide) (by decide) (by decide) rfl ?_
            refine aj.iconst (v := (-1)) dX12_wordOf_143 rfl ?_
            exact aj.iret rfl dX12_wordOf_144 ⟨rfl, hR'⟩
          · refine aj.swIn (tgt := 143) (off := 129) dX12_wordOf_14 (by decide) (by decide) (by decide) rfl ?_
            refine aj.iconst (v := (-1)) dX12_wordOf_143 rfl ?_
            exact aj.iret rfl dX12_wordOf_144 ⟨rfl, hR'⟩
          · refine aj.swIn (tgt := 143) (off := 129) dX12_wordOf_14 (by decide) (by decide) (by decide) rfl ?_
            refine aj.iconst (v := (-1)) dX12_wordOf_143 rfl ?_
            exact aj.iret rfl dX12_wordOf_144 ⟨rfl, hR'⟩
          · refine aj.swIn (tgt := 143) (off := 129) dX12_wordOf_14 (by decide) (by decide) (by decide) rfl ?_
            refine aj.iconst (v := (-1)) dX12_wordOf_143 rfl ?_
            exact aj.iret rfl dX12_wordOf_144 ⟨rfl, hR'⟩
          · refine aj.swIn (tgt := 143) (off := 129) dX12_wordOf_14 (by decide) (by decide) (by decide) rfl ?_
            refine aj.iconst (v := (-1)) dX12_wordOf_143 rfl ?_
            exact aj.iret rfl dX12_wordOf_144 ⟨rfl, hR'⟩
/-- a number between bounds -/
def pTake (lo hi : Nat) (S : pS) : pS := if pHd S = 23 then (if lo ≤ pNm S ∧ pNm S ≤ hi then pNext S else pFail 3 S) else pFail 2 S
def lx64 (a : Nat) : Int64 := (nI a).toInt64
