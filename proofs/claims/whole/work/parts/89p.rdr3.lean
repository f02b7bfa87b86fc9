def wdC (o : Option Nat) : Int32 := match o with
  | some w => nI (cwN w)
  | none => -1
theorem toInt_ne {x v : Int32} (h : ¬ x = v) : x.toInt ≠ v.toInt := fun e => h (Int32.toInt_inj.mp e)
theorem aj.uStr {G : zG} {l : Launch} {k : zY} {d pc bc bs : Nat} {lv : List (Nat × Value)} {st : List Value} {M : zM} {Q : Option Value → zM → Prop} {a : Nat} {M0 : zM} {V0 : Nat → Nat → Int32} {W : Nat → Nat → Int64} {R : Nat → Nat → Option Nat} {T : List tkT} {tr : Prop} {S : pS} {idx : Nat} {x : Int32} (hx : V0 2 3 = x) (hR : uW a M0 M V0 W R T tr S) (hl : Cond.fieldLink k.1.cls idx (TX5 5).1 (TX5 5).2.1 (TX5 5).2.2.1 ∈ z_W) (hd : decode k.2.1 pc = .ok (.getfield idx, 3)) (h : aj G l k d (pc + 3) lv (.int x :: st) M bc bs Q) : aj G l k d pc lv (.ref (a + 2) :: st) M bc bs Q := by
  obtain ⟨V, hA, -, h3, -, -⟩ := hR
  refine gX5_inStrays (i := 2) rfl hA hl hd ?_
  rw [h3, hx]; exact h
theorem en3000 : (-1 : Int32) = enc 3000 := by decide +kernel
theorem en3001 : (-2 : Int32) = enc 3001 := by decide +kernel
theorem en3002 : (-3 : Int32) = enc 3002 := by decide +kernel
theorem en3003 : (-4 : Int32) = enc 3003 := by decide +kernel
theorem en3004 : (-5 : Int32) = enc 3004 := by decide +kernel
theorem en3005 : (-6 : Int32) = enc 3005 := by decide +kernel
theorem en3006 : (-9 : Int32) = enc 3006 := by decide +kernel
theorem en3007 : (-7 : Int32) = enc 3007 := by decide +kernel
theorem en3008 : (-8 : Int32) = enc 3008 := by decide +kernel
theorem en3009 : (-10 : Int32) = enc 3009 := by decide +kernel
theorem u_lawWord {G : zG} {l : Launch} {a : Nat} {M0 M : zM} {V0 : Nat → Nat → Int32} {W : Nat → Nat → Int64} {R : Nat → Nat → Option Nat} {T : List tkT} {tr : Prop} {S : pS} (hC : uC V0 T) (st : Bool) (hst : V0 2 3 = if st then 1 else 0) (hR : uW a M0 M V0 W R T tr S) : am G l kX5_lawWord 0 [.ref (a + 2)] M 0 0 (zr (.int (wdC (wdOf st (pHd S)))) (fun M' => uW a M0 M' V0 W R T tr S)) := by
  have hrg := pTk_rg hC hR
  refine am.of (by decide) (Nat.le_of_ble_eq_true rfl) ?_
  cases st with
  | false =>
    have hst2 : V0 2 3 = 0 := hst
    refine aj.aload_n dX5_lawWord_0 rfl ?_
    refine aj.uTok hR w172 dX5_lawWord_1 ?_
    by_cases q6 : pHd S = 6
    · rw [(pTk_k hC hR kx6 (by decide) (by decide)).mpr q6]
      refine aj.swIn (tgt := 99) (off := 95) dX5_lawWord_4 (by decide) (by decide) (by decide) rfl ?_
      refine aj.aload_n dX5_lawWord_99 rfl ?_
      refine aj.uStr hst2 hR w175 dX5_lawWord_100 ?_
      refine aj.if_eqN (a := 0) (tgt := 110) dX5_lawWord_103 rfl (by omega) rfl (fun c103 => ?_) (fun c103 => ?_)
      · refine aj.iconst (v := (-1)) dX5_lawWord_110 rfl ?_
        exact aj.iret rfl dX5_lawWord_111 ⟨by rw [q6]; rfl, hR⟩
      · exact absurd c103 (by decide)
    by_cases q7 : pHd S = 7
    · rw [(pTk_k hC hR kx7 (by decide) (by decide)).mpr q7]
      refine aj.swIn (tgt := 84) (off := 80) dX5_lawWord_4 (by decide) (by decide) (by decide) rfl ?_
      refine aj.iconst (v := 4) dX5_lawWord_84 rfl ?_
      exact aj.iret rfl dX5_lawWord_85 ⟨by rw [q7]; rfl, hR⟩
    by_cases q14 : pHd S = 14
    · rw [(pTk_k hC hR kx14 (by decide) (by decide)).mpr q14]
      refine aj.swIn (tgt := 86) (off := 82) dX5_lawWord_4 (by decide) (by decide) (by decide) rfl ?_
      refine aj.aload_n dX5_lawWord_86 rfl ?_
      refine aj.uStr hst2 hR w175 dX5_lawWord_87 ?_
      refine aj.if_eqN (a := 0) (tgt := 97) dX5_lawWord_90 rfl (by omega) rfl (fun c90 => ?_) (fun c90 => ?_)
      · refine aj.iconst (v := (-1)) dX5_lawWord_97 rfl ?_
        exact aj.iret rfl dX5_lawWord_98 ⟨by rw [q14]; rfl, hR⟩
      · exact absurd c90 (by decide)
    by_cases q15 : pHd S = 15
    · rw [(pTk_k hC hR kx15 (by decide) (by decide)).mpr q15]
      refine aj.swIn (tgt := 112) (off := 108) dX5_lawWord_4 (by decide) (by decide) (by decide) rfl ?_
      refine aj.aload_n dX5_lawWord_112 rfl ?_
      refine aj.uStr hst2 hR w175 dX5_lawWord_113 ?_
      refine aj.if_eqN (a := 0) (tgt := 123) dX5_lawWord_116 rfl (by omega) rfl (fun c116 => ?_) (fun c116 => ?_)
      · refine aj.iconst (v := (-1)) dX5_lawWord_123 rfl ?_
        exact aj.iret rfl dX5_lawWord_124 ⟨by rw [q15]; rfl, hR⟩
      · exact absurd c116 (by decide)
    by_cases q16 : pHd S = 16
    · rw [(pTk_k hC hR kx16 (by decide) (by decide)).mpr q16]
      refine aj.swIn (tgt := 125) (off := 121) dX5_lawWord_4 (by decide) (by decide) (by decide) rfl ?_
      refine aj.aload_n dX5_lawWord_125 rfl ?_
      refine aj.uStr hst2 hR w175 dX5_lawWord_126 ?_
      refine aj.if_eqN (a := 0) (tgt := 136) dX5_lawWord_129 rfl (by omega) rfl (fun c129 => ?_) (fun c129 => ?_)
      · refine aj.iconst (v := (-1)) dX5_lawWord_136 rfl ?_
        exact aj.iret rfl dX5_lawWord_137 ⟨by rw [q16]; rfl, hR⟩
      · exact absurd c129 (by decide)
    by_cases q17 : pHd S = 17
    · rw [(pTk_k hC hR kx17 (by decide) (by decide)).mpr q17]
      refine aj.swIn (tgt := 138) (off := 134) dX5_lawWord_4 (by decide) (by decide) (by decide) rfl ?_
      refine aj.aload_n dX5_lawWord_138 rfl ?_
      refine aj.uStr hst2 hR w175 dX5_lawWord_139 ?_
      refine aj.if_eqN (a := 0) (tgt := 149) dX5_lawWord_142 rfl (by omega) rfl (fun c142 => ?_) (fun c142 => ?_)
      · refine aj.iconst (v := 5) dX5_lawWord_149 rfl ?_
        exact aj.iret rfl dX5_lawWord_150 ⟨by rw [q17]; rfl, hR⟩
      · exact absurd c142 (by decide)
    by_cases q18 : pHd S = 18
    · rw [(pTk_k hC hR kx18 (by decide) (by decide)).mpr q18]
      refine aj.swIn (tgt := 151) (off := 147) dX5_lawWord_4 (by decide) (by decide) (by decide) rfl ?_
      refine aj.aload_n dX5_lawWord_151 rfl ?_
      refine aj.uStr hst2 hR w175 dX5_lawWord_152 ?_
      refine aj.if_eqN (a := 0) (tgt := 162) dX5_lawWord_155 rfl (by omega) rfl (fun c155 => ?_) (fun c155 => ?_)
      · refine aj.bipush (v := 6) dX5_lawWord_162 rfl ?_
        exact aj.iret rfl dX5_lawWord_164 ⟨by rw [q18]; rfl, hR⟩
      · exact absurd c155 (by decide)
    have ew : wdOf false (pHd S) = none := by unfold wdOf; (repeat' split) <;> first | rfl | omega
    rcases hrg.2 with hm1 | ⟨t, hv, ht, hpt⟩
    · rw [hm1]
      refine aj.swOut (tgt := 165) dX5_lawWord_4 (by decide) rfl ?_
      refine aj.iconst (v := (-1)) dX5_lawWord_165 rfl ?_
      exact aj.iret rfl dX5_lawWord_166 ⟨by rw [ew]; rfl, hR⟩
    · have hl := ctk_le hv
      have z6 : ctk t ≠ 1006 := fun z => q6 (ht.trans ((ctk_eq hv (k := 6) (by decide) (by decide)).mp (z.trans (by decide +kernel))))
      have z7 : ctk t ≠ 1007 := fun z => q7 (ht.trans ((ctk_eq hv (k := 7) (by decide) (by decide)).mp (z.trans (by decide +kernel))))
      have z14 : ctk t ≠ 1017 := fun z => q14 (ht.trans ((ctk_eq hv (k := 14) (by decide) (by decide)).mp (z.trans (by decide +kernel))))
      have z15 : ctk t ≠ 1018 := fun z => q15 (ht.trans ((ctk_eq hv (k := 15) (by decide) (by decide)).mp (z.trans (by decide +kernel))))
      have z16 : ctk t ≠ 1019 := fun z => q16 (ht.trans ((ctk_eq hv (k := 16) (by decide) (by decide)).mp (z.trans (by decide +kernel))))
      have z17 : ctk t ≠ 1020 := fun z => q17 (ht.trans ((ctk_eq hv (k := 17) (by decide) (by decide)).mp (z.trans (by decide +kernel))))
      have z18 : ctk t ≠ 1021 := fun z => q18 (ht.trans ((ctk_eq hv (k := 18) (by decide) (by decide)).mp (z.trans (by decide +kernel))))
      by_cases cr : ctk t < 1006 ∨ 1021 < ctk t
      · rw [hpt]
        refine aj.swOut (tgt := 165) dX5_lawWord_4 (by rw [nI_toInt (by omega)]; omega) rfl ?_
        refine aj.iconst (v := (-1)) dX5_lawWord_165 rfl ?_
        exact aj.iret rfl dX5_lawWord_166 ⟨by rw [ew]; rfl, hR⟩
      · rcases (show ctk t = 1008 ∨ ctk t = 1009 ∨ ctk t = 1010 ∨ ctk t = 1011 ∨ ctk t = 1012 ∨ ctk t = 1013 ∨ ctk t = 1014 ∨ ctk t = 1015 ∨ ctk t = 1016 by omega) with z1008 | z1009 | z1010 | z1011 | z1012 | z1013 | z1014 | z1015 | z1016
        · rw [hpt, z1008]
          refine aj.swIn (tgt := 165) (off := 161) dX5_lawWord_4 (by decide) (by decide) (by decide) rfl ?_
          refine aj.iconst (v := (-1)) dX5_lawWord_165 rfl ?_
          exact aj.iret rfl dX5_lawWord_166 ⟨by rw [ew]; rfl, hR⟩
        · rw [hpt, z1009]
          refine aj.swIn (tgt := 165) (off := 161) dX5_lawWord_4 (by decide) (by decide) (by decide) rfl ?_
          refine aj.iconst (v := (-1)) dX5_lawWord_165 rfl ?_
          exact aj.iret rfl dX5_lawWord_166 ⟨by rw [ew]; rfl, hR⟩
        · rw [hpt, z1010]
          refine aj.swIn (tgt := 165) (off := 161) dX5_lawWord_4 (by decide) (by decide) (by decide) rfl ?_
          refine aj.iconst (v := (-1)) dX5_lawWord_165 rfl ?_
          exact aj.iret rfl dX5_lawWord_166 ⟨by rw [ew]; rfl, hR⟩
        · rw [hpt, z1011]
          refine aj.swIn (tgt := 165) (off := 161) dX5_lawWord_4 (by decide) (by decide) (by decide) rfl ?_
          refine aj.iconst (v := (-1)) dX5_lawWord_165 rfl ?_
          exact aj.iret rfl dX5_lawWord_166 ⟨by rw [ew]; rfl, hR⟩
        · rw [hpt, z1012]
          refine aj.swIn (tgt := 165) (off := 161) dX5_lawWord_4 (by decide) (by decide) (by decide) rfl ?_
          refine aj.iconst (v := (-1)) dX5_lawWord_165 rfl ?_
          exact aj.iret rfl dX5_lawWord_166 ⟨by rw [ew]; rfl, hR⟩
        · rw [hpt, z1013]
          refine aj.swIn (tgt := 165) (off := 161) dX5_lawWord_4 (by decide) (by decide) (by decide) rfl ?_
          refine aj.iconst (v := (-1)) dX5_lawWord_165 rfl ?_
          exact aj.iret rfl dX5_lawWord_166 ⟨by rw [ew]; rfl, hR⟩
        · rw [hpt, z1014]
          refine aj.swIn (tgt := 165) (off := 161) dX5_lawWord_4 (by decide) (by decide) (by decide) rfl ?_
          refine aj.iconst (v := (-1)) dX5_lawWord_165 rfl ?_
          exact aj.iret rfl dX5_lawWord_166 ⟨by rw [ew]; rfl, hR⟩
        · rw [hpt, z1015]
          refine aj.swIn (tgt := 165) (off := 161) dX5_lawWord_4 (by decide) (by decide) (by decide) rfl ?_
          refine aj.iconst (v := (-1)) dX5_lawWord_165 rfl ?_
          exact aj.iret rfl dX5_lawWord_166 ⟨by rw [ew]; rfl, hR⟩
        · rw [hpt, z1016]
          refine aj.swIn (tgt := 165) (off := 161) dX5_lawWord_4 (by decide) (by decide) (by decide) rfl ?_
          refine aj.iconst (v := (-1)) dX5_lawWord_165 rfl ?_
          exact aj.iret rfl dX5_lawWord_166 ⟨by rw [ew]; rfl, hR⟩
  | true =>
    have hst2 : V0 2 3 = 1 := hst
    refine aj.aload_n dX5_lawWord_0 rfl ?_
    refine aj.uTok hR w172 dX5_lawWord_1 ?_
    by_cases q6 : pHd S = 6
    · rw [(pTk_k hC hR kx6 (by decide) (by decide)).mpr q6]
      refine aj.swIn (tgt := 99) (off := 95) dX5_lawWord_4 (by decide) (by decide) (by decide) rfl ?_
      refine aj.aload_n dX5_lawWord_99 rfl ?_
      refine aj.uStr hst2 hR w175 dX5_lawWord_100 ?_
      refine aj.if_eqN (a := 1) (tgt := 110) dX5_lawWord_103 rfl (by omega) rfl (fun c103 => ?_) (fun c103 => ?_)
      · exact absurd c103 (by decide)
      · refine aj.iconst (v := 1) dX5_lawWord_106 rfl ?_
        refine aj.goto (tgt := 111) dX5_lawWord_107 rfl ?_
        exact aj.iret rfl dX5_lawWord_111 ⟨by rw [q6]; rfl, hR⟩
    by_cases q7 : pHd S = 7
    · rw [(pTk_k hC hR kx7 (by decide) (by decide)).mpr q7]
      refine aj.swIn (tgt := 84) (off := 80) dX5_lawWord_4 (by decide) (by decide) (by decide) rfl ?_
      refine aj.iconst (v := 4) dX5_lawWord_84 rfl ?_
      exact aj.iret rfl dX5_lawWord_85 ⟨by rw [q7]; rfl, hR⟩
    by_cases q14 : pHd S = 14
    · rw [(pTk_k hC hR kx14 (by decide) (by decide)).mpr q14]
      refine aj.swIn (tgt := 86) (off := 82) dX5_lawWord_4 (by decide) (by decide) (by decide) rfl ?_
      refine aj.aload_n dX5_lawWord_86 rfl ?_
      refine aj.uStr hst2 hR w175 dX5_lawWord_87 ?_
      refine aj.if_eqN (a := 1) (tgt := 97) dX5_lawWord_90 rfl (by omega) rfl (fun c90 => ?_) (fun c90 => ?_)
      · exact absurd c90 (by decide)
      · refine aj.iconst (v := 0) dX5_lawWord_93 rfl ?_
        refine aj.goto (tgt := 98) dX5_lawWord_94 rfl ?_
        exact aj.iret rfl dX5_lawWord_98 ⟨by rw [q14]; rfl, hR⟩
    by_cases q15 : pHd S = 15
    · rw [(pTk_k hC hR kx15 (by decide) (by decide)).mpr q15]
      refine aj.swIn (tgt := 112) (off := 108) dX5_lawWord_4 (by decide) (by decide) (by decide) rfl ?_
      refine aj.aload_n dX5_lawWord_112 rfl ?_
      refine aj.uStr hst2 hR w175 dX5_lawWord_113 ?_
      refine aj.if_eqN (a := 1) (tgt := 123) dX5_lawWord_116 rfl (by omega) rfl (fun c116 => ?_) (fun c116 => ?_)
      · exact absurd c116 (by decide)
      · refine aj.iconst (v := 2) dX5_lawWord_119 rfl ?_
        refine aj.goto (tgt := 124) dX5_lawWord_120 rfl ?_
        exact aj.iret rfl dX5_lawWord_124 ⟨by rw [q15]; rfl, hR⟩
    by_cases q16 : pHd S = 16
    · rw [(pTk_k hC hR kx16 (by decide) (by decide)).mpr q16]
      refine aj.swIn (tgt := 125) (off := 121) dX5_lawWord_4 (by decide) (by decide) (by decide) rfl ?_
      refine aj.aload_n dX5_lawWord_125 rfl ?_
      refine aj.uStr hst2 hR w175 dX5_lawWord_126 ?_
      refine aj.if_eqN (a := 1) (tgt := 136) dX5_lawWord_129 rfl (by omega) rfl (fun c129 => ?_) (fun c129 => ?_)
      · exact absurd c129 (by decide)
      · refine aj.iconst (v := 3) dX5_lawWord_132 rfl ?_
        refine aj.goto (tgt := 137) dX5_lawWord_133 rfl ?_
        exact aj.iret rfl dX5_lawWord_137 ⟨by rw [q16]; rfl, hR⟩
    by_cases q17 : pHd S = 17
    · rw [(pTk_k hC hR kx17 (by decide) (by decide)).mpr q17]
      refine aj.swIn (tgt := 138) (off := 134) dX5_lawWord_4 (by decide) (by decide) (by decide) rfl ?_
      refine aj.aload_n dX5_lawWord_138 rfl ?_
      refine aj.uStr hst2 hR w175 dX5_lawWord_139 ?_
      refine aj.if_eqN (a := 1) (tgt := 149) dX5_lawWord_142 rfl (by omega) rfl (fun c142 => ?_) (fun c142 => ?_)
      · exact absurd c142 (by decide)
      · refine aj.iconst (v := (-1)) dX5_lawWord_145 rfl ?_
        refine aj.goto (tgt := 150) dX5_lawWord_146 rfl ?_
        exact aj.iret rfl dX5_lawWord_150 ⟨by rw [q17]; rfl, hR⟩
    by_cases q18 : pHd S = 18
    · rw [(pTk_k hC hR kx18 (by decide) (by decide)).mpr q18]
      refine aj.swIn (tgt := 151) (off := 147) dX5_lawWord_4 (by decide) (by decide) (by decide) rfl ?_
      refine aj.aload_n dX5_lawWord_151 rfl ?_
      refine aj.uStr hst2 hR w175 dX5_lawWord_152 ?_
      refine aj.if_eqN (a := 1) (tgt := 162) dX5_lawWord_155 rfl (by omega) rfl (fun c155 => ?_) (fun c155 => ?_)
      · exact absurd c155 (by decide)
      · refine aj.iconst (v := (-1)) dX5_lawWord_158 rfl ?_
        refine aj.goto (tgt := 164) dX5_lawWord_159 rfl ?_
        exact aj.iret rfl dX5_lawWord_164 ⟨by rw [q18]; rfl, hR⟩
    have ew : wdOf true (pHd S) = none := by unfold wdOf; (repeat' split) <;> first | rfl | omega
    rcases hrg.2 with hm1 | ⟨t, hv, ht, hpt⟩
    · rw [hm1]
      refine aj.swOut (tgt := 165) dX5_lawWord_4 (by decide) rfl ?_
      refine aj.iconst (v := (-1)) dX5_lawWord_165 rfl ?_
      exact aj.iret rfl dX5_lawWord_166 ⟨by rw [ew]; rfl, hR⟩
    · have hl := ctk_le hv
      have z6 : ctk t ≠ 1006 := fun z => q6 (ht.trans ((ctk_eq hv (k := 6) (by decide) (by decide)).mp (z.trans (by decide +kernel))))
      have z7 : ctk t ≠ 1007 := fun z => q7 (ht.trans ((ctk_eq hv (k := 7) (by decide) (by decide)).mp (z.trans (by decide +kernel))))
      have z14 : ctk t ≠ 1017 := fun z => q14 (ht.trans ((ctk_eq hv (k := 14) (by decide) (by decide)).mp (z.trans (by decide +kernel))))
      have z15 : ctk t ≠ 1018 := fun z => q15 (ht.trans ((ctk_eq hv (k := 15) (by decide) (by decide)).mp (z.trans (by decide +kernel))))
      have z16 : ctk t ≠ 1019 := fun z => q16 (ht.trans ((ctk_eq hv (k := 16) (by decide) (by decide)).mp (z.trans (by decide +kernel))))
      have z17 : ctk t ≠ 1020 := fun z => q17 (ht.trans ((ctk_eq hv (k := 17) (by decide) (by decide)).mp (z.trans (by decide +kernel))))
      have z18 : ctk t ≠ 1021 := fun z => q18 (ht.trans ((ctk_eq hv (k := 18) (by decide) (by decide)).mp (z.trans (by decide +kernel))))
      by_cases cr : ctk t < 1006 ∨ 1021 < ctk t
      · rw [hpt]
        refine aj.swOut (tgt := 165) dX5_lawWord_4 (by rw [nI_toInt (by omega)]; omega) rfl ?_
        refine aj.iconst (v := (-1)) dX5_lawWord_165 rfl ?_
        exact aj.iret rfl dX5_lawWord_166 ⟨by rw [ew]; rfl, hR⟩
      · rcases (show ctk t = 1008 ∨ ctk t = 1009 ∨ ctk t = 1010 ∨ ctk t = 1011 ∨ ctk t = 1012 ∨ ctk t = 1013 ∨ ctk t = 1014 ∨ ctk t = 1015 ∨ ctk t = 1016 by omega) with z1008 | z1009 | z1010 | z1011 | z1012 | z1013 | z1014 | z1015 | z1016
        · rw [hpt, z1008]
          refine aj.swIn (tgt := 165) (off := 161) dX5_lawWord_4 (by decide) (by decide) (by decide) rfl ?_
          refine aj.iconst (v := (-1)) dX5_lawWord_165 rfl ?_
          exact aj.iret rfl dX5_lawWord_166 ⟨by rw [ew]; rfl, hR⟩
        · rw [hpt, z1009]
          refine aj.swIn (tgt := 165) (off := 161) dX5_lawWord_4 (by decide) (by decide) (by decide) rfl ?_
          refine aj.iconst (v := (-1)) dX5_lawWord_165 rfl ?_
          exact aj.iret rfl dX5_lawWord_166 ⟨by rw [ew]; rfl, hR⟩
        · rw [hpt, z1010]
          refine aj.swIn (tgt := 165) (off := 161) dX5_lawWord_4 (by decide) (by decide) (by decide) rfl ?_
          refine aj.iconst (v := (-1)) dX5_lawWord_165 rfl ?_
          exact aj.iret rfl dX5_lawWord_166 ⟨by rw [ew]; rfl, hR⟩
        · rw [hpt, z1011]
          refine aj.swIn (tgt := 165) (off := 161) dX5_lawWord_4 (by decide) (by decide) (by decide) rfl ?_
          refine aj.iconst (v := (-1)) dX5_lawWord_165 rfl ?_
          exact aj.iret rfl dX5_lawWord_166 ⟨by rw [ew]; rfl, hR⟩
        · rw [hpt, z1012]
          refine aj.swIn (tgt := 165) (off := 161) dX5_lawWord_4 (by decide) (by decide) (by decide) rfl ?_
          refine aj.iconst (v := (-1)) dX5_lawWord_165 rfl ?_
          exact aj.iret rfl dX5_lawWord_166 ⟨by rw [ew]; rfl, hR⟩
        · rw [hpt, z1013]
          refine aj.swIn (tgt := 165) (off := 161) dX5_lawWord_4 (by decide) (by decide) (by decide) rfl ?_
          refine aj.iconst (v := (-1)) dX5_lawWord_165 rfl ?_
          exact aj.iret rfl dX5_lawWord_166 ⟨by rw [ew]; rfl, hR⟩
        · rw [hpt, z1014]
          refine aj.swIn (tgt := 165) (off := 161) dX5_lawWord_4 (by decide) (by decide) (by decide) rfl ?_
          refine aj.iconst (v := (-1)) dX5_lawWord_165 rfl ?_
          exact aj.iret rfl dX5_lawWord_166 ⟨by rw [ew]; rfl, hR⟩
        · rw [hpt, z1015]
          refine aj.swIn (tgt := 165) (off := 161) dX5_lawWord_4 (by decide) (by decide) (by decide) rfl ?_
          refine aj.iconst (v := (-1)) dX5_lawWord_165 rfl ?_
          exact aj.iret rfl dX5_lawWord_166 ⟨by rw [ew]; rfl, hR⟩
        · rw [hpt, z1016]
          refine aj.swIn (tgt := 165) (off := 161) dX5_lawWord_4 (by decide) (by decide) (by decide) rfl ?_
          refine aj.iconst (v := (-1)) dX5_lawWord_165 rfl ?_
          exact aj.iret rfl dX5_lawWord_166 ⟨by rw [ew]; rfl, hR⟩
/-- a reading method's contract -/
def uKc (G : zG) (l : Launch) (a : Nat) (M0 : zM) (V0 : Nat → Nat → Int32) (W : Nat → Nat → Int64) (R : Nat → Nat → Option Nat) (T : List tkT) (y : zY) (d r : Nat) (f : pS → pS) : Prop := ∀ (M : zM) (S : pS) (x : Int32), x = nI (6 - r) → pSz S ≤ 900 → uW a M0 M V0 W R T True S → am G l y d [.ref (a + 2), .int x] M 0 0 (zv (fun M' => uW a M0 M' V0 W R T True (f S)))
def uHc (G : zG) (l : Launch) (a : Nat) (M0 : zM) (V0 : Nat → Nat → Int32) (W : Nat → Nat → Int64) (R : Nat → Nat → Option Nat) (T : List tkT) (st : Bool) (r : Nat) : Prop := uKc G l a M0 V0 W R T kX5_readSum (8 * r + 6) r (pSm st r) ∧ uKc G l a M0 V0 W R T kX5_readTruth (8 * r + 10) r (pTr st r) ∧ uKc G l a M0 V0 W R T kX5_readUnit (8 * r + 8) r (pUn st r)
theorem u_choice {G : zG} {l : Launch} {a : Nat} {M0 : zM} {V0 : Nat → Nat → Int32} {W : Nat → Nat → Int64} {R : Nat → Nat → Option Nat} {T : List tkT} (hC : uC V0 T) (st : Bool) (r : Nat) (hin : uHc G l a M0 V0 W R T st r) : uKc G l a M0 V0 W R T kX5_readChoice (8 * r + 11) r (fun S => pPush 3009 (pExp 13 (pSm st r (pExp 12 (pSm st r (pExp 11 (pTr st r S))))))) := by
  intro M S x ex hs hR
  have hT := hR.tk hC
  refine am.of (by decide) (Nat.le_of_ble_eq_true rfl) ?_
  refine aj.aload_n dX5_readChoice_0 rfl ?_
  refine aj.iload_n dX5_readChoice_1 rfl ?_
  refine aj.uC0 (d' := 8 * r + 10) (As := [.int x]) (rest := []) hR dX5_readChoice_2 v_X5_124 li_X5_readTruth rfl rfl rfl (Nat.le_of_ble_eq_true rfl) (by omega) (hin.2.1 _ S _ ex hs hR) (fun M hR => ?_)
  have hg0 := (pTr_G st r).2 _ hT
  have hT := hg0.1
  have hs := Nat.le_trans hg0.2.1 hs
  refine aj.aload_n dX5_readChoice_5 rfl ?_
  refine aj.sipush (v := 1014) dX5_readChoice_6 rfl ?_
  refine aj.uC0 (d' := 2) (As := [.int 1014]) (rest := []) hR dX5_readChoice_9 v_X5_52 li_X5_take rfl rfl rfl (Nat.le_of_ble_eq_true rfl) (by omega) (u_take hC 11 kx11 (by decide) (by decide) (by decide) hR) (fun M hR => ?_)
  have hg0 := (pExp_G (k := 11) (by decide) (by decide)).2 _ hT
  have hT := hg0.1
  have hs := Nat.le_trans hg0.2.1 hs
  refine aj.aload_n dX5_readChoice_12 rfl ?_
  refine aj.iload_n dX5_readChoice_13 rfl ?_
  refine aj.uC0 (d' := 8 * r + 6) (As := [.int x]) (rest := []) hR dX5_readChoice_14 v_X5_121 li_X5_readSum rfl rfl rfl (Nat.le_of_ble_eq_true rfl) (by omega) (hin.1 _ (pExp 11 (pTr st r S)) _ ex hs hR) (fun M hR => ?_)
  have hg0 := (pSm_G st r).2 _ hT
  have hT := hg0.1
  have hs := Nat.le_trans hg0.2.1 hs
  refine aj.aload_n dX5_readChoice_17 rfl ?_
  refine aj.sipush (v := 1015) dX5_readChoice_18 rfl ?_
  refine aj.uC0 (d' := 2) (As := [.int 1015]) (rest := []) hR dX5_readChoice_21 v_X5_52 li_X5_take rfl rfl rfl (Nat.le_of_ble_eq_true rfl) (by omega) (u_take hC 12 kx12 (by decide) (by decide) (by decide) hR) (fun M hR => ?_)
  have hg0 := (pExp_G (k := 12) (by decide) (by decide)).2 _ hT
  have hT := hg0.1
  have hs := Nat.le_trans hg0.2.1 hs
  refine aj.aload_n dX5_readChoice_24 rfl ?_
  refine aj.iload_n dX5_readChoice_25 rfl ?_
  refine aj.uC0 (d' := 8 * r + 6) (As := [.int x]) (rest := []) hR dX5_readChoice_26 v_X5_121 li_X5_readSum rfl rfl rfl (Nat.le_of_ble_eq_true rfl) (by omega) (hin.1 _ (pExp 12 (pSm st r (pExp 11 (pTr st r S)))) _ ex hs hR) (fun M hR => ?_)
  have hg0 := (pSm_G st r).2 _ hT
  have hT := hg0.1
  have hs := Nat.le_trans hg0.2.1 hs
  refine aj.aload_n dX5_readChoice_29 rfl ?_
  refine aj.sipush (v := 1016) dX5_readChoice_30 rfl ?_
  refine aj.uC0 (d' := 2) (As := [.int 1016]) (rest := []) hR dX5_readChoice_33 v_X5_52 li_X5_take rfl rfl rfl (Nat.le_of_ble_eq_true rfl) (by omega) (u_take hC 13 kx13 (by decide) (by decide) (by decide) hR) (fun M hR => ?_)
  have hg0 := (pExp_G (k := 13) (by decide) (by decide)).2 _ hT
  have hT := hg0.1
  have hs := Nat.le_trans hg0.2.1 hs
  refine aj.aload_n dX5_readChoice_36 rfl ?_
  refine aj.bipush (v := (-10)) dX5_readChoice_37 rfl ?_
  refine aj.uC0 (d' := 0) (As := [.int (-10)]) (rest := []) hR dX5_readChoice_39 v_X5_141 li_X5_put rfl rfl rfl (Nat.le_of_ble_eq_true rfl) (by omega) (u_put 3009 en3009 hs hT hR) (fun M hR => ?_)
  have hp1 := pPush_sz 3009 (pExp 13 (pSm st r (pExp 12 (pSm st r (pExp 11 (pTr st r S))))))
  have hp2 := pPush_len 3009 (pExp 13 (pSm st r (pExp 12 (pSm st r (pExp 11 (pTr st r S))))))
  have hT := pPush_T (c := 3009) hT
  exact aj.vret rfl dX5_readChoice_42 ⟨rfl, hR⟩
theorem wdC_m1 {o : Option Nat} : wdC o = -1 ↔ o = none ∨ ∃ w, o = some w ∧ nI (cwN w) = -1 := by
  cases o with
  | none => exact ⟨fun _ => Or.inl rfl, fun _ => rfl⟩
  | some w => exact ⟨fun z => Or.inr ⟨w, rfl, z⟩, fun z => by
      rcases z with z | ⟨w', z1, z2⟩
      · cases z
      · cases z1; exact z2⟩
theorem wdC_n {st : Bool} {k : Nat} : wdC (wdOf st k) = -1 ↔ ¬ (wdOf st k).isSome := by
  cases h : wdOf st k with
  | none => exact ⟨fun _ z => (Bool.noConfusion z), fun _ => rfl⟩
  | some w =>
    have hw := (wdOf_w h).1
    refine ⟨fun z => ?_, fun z => absurd rfl z⟩
    have hc : cwN w < 7 := by unfold cwN; (repeat' split) <;> omega
    exact absurd (show nI (cwN w) = -1 from z) (fun q => by have := nI_pos (n := cwN w) (by omega); rw [q] at this; exact this (by decide))
theorem en_w {w : Nat} (h : w < 7) : (-11 : Int32) - nI (cwN w) = enc (1000 + w) := by
  unfold enc
  rw [if_neg (by omega), if_pos (by omega), show 1000 + w - 1000 = w by omega]
theorem en_n {k : Nat} (h : k < 1000) : nI k = enc k := by
  unfold enc
  rw [if_pos h]
theorem u_readAtom {G : zG} {l : Launch} {a : Nat} {M0 : zM} {V0 : Nat → Nat → Int32} {W : Nat → Nat → Int64} {R : Nat → Nat → Option Nat} {T : List tkT} (hC : uC V0 T) (st : Bool) (hst : V0 2 3 = if st then 1 else 0) (r : Nat) (hr : r ≤ 6) (hin : ∀ q, r = q + 1 → uHc G l a M0 V0 W R T st q) : uKc G l a M0 V0 W R T kX5_readAtom (8 * r + 4) r (pAt st r) := by
  intro M S x ex hs hR
  have hT := hR.tk hC
  have hh0 := hR.hd hC
  have hnm := pTk_n hC hR
  refine am.of (by decide) (Nat.le_of_ble_eq_true rfl) ?_
  refine aj.aload_n dX5_readAtom_0 rfl ?_
  refine aj.uC1 (d' := 0) (As := []) (rest := []) hR dX5_readAtom_1 v_X5_160 li_X5_lawWord rfl rfl rfl (Nat.le_of_ble_eq_true rfl) (by omega) (u_lawWord hC st hst hR) (fun M hR => ?_)
  refine aj.istore_n (lv' := [(2, .int (wdC (wdOf st (pHd S)))), (0, .ref (a + 2)), (1, .int x)]) dX5_readAtom_4 (Nat.le_of_ble_eq_true rfl) rfl ?_
  refine aj.iload_n dX5_readAtom_5 rfl ?_
  refine aj.iconst (v := (-1)) dX5_readAtom_6 rfl ?_
  refine aj.icmp_eq (tgt := 25) dX5_readAtom_7 rfl (fun c7 => ?_) (fun c7 => ?_)
  · have hwn := wdC_n.mp c7
    refine aj.aload_n dX5_readAtom_25 rfl ?_
    refine aj.uC1 (d' := 0) (As := []) (rest := []) hR dX5_readAtom_26 v_X5_82 li_X5_isNumber rfl rfl rfl (Nat.le_of_ble_eq_true rfl) (by omega) (u_isNumber hC hR) (fun M hR => ?_)
    refine aj.if_eqB (tgt := 47) dX5_readAtom_29 rfl (fun c29 => ?_) (fun c29 => ?_)
    · refine aj.aload_n dX5_readAtom_47 rfl ?_
      refine aj.uTok hR w172 dX5_readAtom_48 ?_
      refine aj.sipush (v := 2040) dX5_readAtom_51 rfl ?_
      refine aj.icmp_ne (tgt := 82) dX5_readAtom_54 rfl (fun c54 => ?_) (fun c54 => ?_)
      · have q54 : ¬ pHd S = 35 := fun z => c54 ((pTk_k hC hR kx35 (by decide) (by decide)).mpr z)
        refine aj.aload_n dX5_readAtom_82 rfl ?_
        refine aj.uTok hR w172 dX5_readAtom_83 ?_
        refine aj.sipush (v := 1013) dX5_readAtom_86 rfl ?_
        refine aj.icmp_ne (tgt := 110) dX5_readAtom_89 rfl (fun c89 => ?_) (fun c89 => ?_)
        · have q89 : ¬ pHd S = 10 := fun z => c89 ((pTk_k hC hR kx10 (by decide) (by decide)).mpr z)
          refine aj.aload_n dX5_readAtom_110 rfl ?_
          refine aj.iconst (v := 2) dX5_readAtom_111 rfl ?_
          refine aj.uC0 (d' := 1) (As := [.int 2]) (rest := []) hR dX5_readAtom_112 v_X5_79 li_X5_fail rfl rfl rfl (Nat.le_of_ble_eq_true rfl) (by omega) (u_fail hC 2 rfl (by decide) hR) (fun M hR => ?_)
          have e1 : pAt st r S = pFail 2 S := by unfold pAt pAtom; rw [if_neg c29, if_neg hwn, if_neg q54, if_neg q89]
          exact aj.vret rfl dX5_readAtom_115 ⟨rfl, by rw [e1]; exact hR⟩
        · have q89 : pHd S = 10 := (pTk_k hC hR kx10 (by decide) (by decide)).mp c89
          refine aj.aload_n dX5_readAtom_92 rfl ?_
          refine aj.iload_n dX5_readAtom_93 rfl ?_
          refine aj.uC1 (d' := 2) (As := [.int x]) (rest := []) hR dX5_readAtom_94 v_X5_147 li_X5_goesWithin rfl rfl rfl (Nat.le_of_ble_eq_true rfl) (by omega) (u_goes hC r ex hr q89 (by decide) hR) (fun M hR => ?_)
          refine aj.if_eqB (tgt := 115) dX5_readAtom_97 rfl (fun c97 => ?_) (fun c97 => ?_)
          · have er : r = 0 := by omega
            subst er
            replace hR : uW a M0 M V0 W R T True (pFail 4 S) := hR
            obtain ⟨e, he⟩ := pFail_in 4 S
            have e1 : pAt st 0 S = .inl e := by unfold pAt pAtom; rw [if_neg c29, if_neg hwn, if_neg q54, if_pos q89, show pGo 0 S = .inl e from he]; rfl
            rw [he] at hR
            exact aj.vret rfl dX5_readAtom_115 ⟨rfl, by rw [e1]; exact hR⟩
          · obtain ⟨q, rfl⟩ : ∃ q, r = q + 1 := ⟨r - 1, by omega⟩
            subst ex
            have hn1 := pNext_lt hT q89 (by decide) (by decide)
            have hT := hn1.1
            have hs : pSz (pNext S) ≤ 900 := by omega
            replace hR : uW a M0 M V0 W R T True (pNext S) := hR
            refine aj.aload_n dX5_readAtom_100 rfl ?_
            refine aj.iload_n dX5_readAtom_101 rfl ?_
            refine aj.iconst (v := 1) dX5_readAtom_102 rfl ?_
            refine aj.iaddN (a := 6 - (q + 1)) (b := 1) dX5_readAtom_103 rfl rfl ?_
            refine aj.uC0 (d' := 8 * q + 11) (As := [.int (nI ((6 - (q + 1)) + 1))]) (rest := []) hR dX5_readAtom_104 v_X5_164 li_X5_readChoice rfl rfl rfl (Nat.le_of_ble_eq_true rfl) (by omega) (u_choice hC st q (hin q rfl) _ (pNext S) _ (show nI ((6 - (q + 1)) + 1) = nI (6 - q) by rw [show 6 - (q + 1) + 1 = 6 - q by omega]) hs hR) (fun M hR => ?_)
            refine aj.goto (tgt := 115) dX5_readAtom_107 rfl ?_
            have e1 : pAt st (q + 1) S = pPush 3009 (pExp 13 (pSm st q (pExp 12 (pSm st q (pExp 11 (pTr st q (pNext S))))))) := by unfold pAt pAtom; rw [if_neg c29, if_neg hwn, if_neg q54, if_pos q89]; rfl
            exact aj.vret rfl dX5_readAtom_115 ⟨rfl, by rw [e1]; exact hR⟩
      · have q54 : pHd S = 35 := (pTk_k hC hR kx35 (by decide) (by decide)).mp c54
        refine aj.aload_n dX5_readAtom_57 rfl ?_
        refine aj.iload_n dX5_readAtom_58 rfl ?_
        refine aj.uC1 (d' := 2) (As := [.int x]) (rest := []) hR dX5_readAtom_59 v_X5_147 li_X5_goesWithin rfl rfl rfl (Nat.le_of_ble_eq_true rfl) (by omega) (u_goes hC r ex hr q54 (by decide) hR) (fun M hR => ?_)
        refine aj.if_eqB (tgt := 115) dX5_readAtom_62 rfl (fun c62 => ?_) (fun c62 => ?_)
        · have er : r = 0 := by omega
          subst er
          replace hR : uW a M0 M V0 W R T True (pFail 4 S) := hR
          obtain ⟨e, he⟩ := pFail_in 4 S
          have e1 : pAt st 0 S = .inl e := by unfold pAt pAtom; rw [if_neg c29, if_neg hwn, if_pos q54, show pGo 0 S = .inl e from he, show (pLv st 0).1 (.inl e) = .inl e from rfl, (pExp_G (k := 36) (by decide) (by decide)).1]
          rw [he] at hR
          exact aj.vret rfl dX5_readAtom_115 ⟨rfl, by rw [e1]; exact hR⟩
        · obtain ⟨q, rfl⟩ : ∃ q, r = q + 1 := ⟨r - 1, by omega⟩
          subst ex
          have hn1 := pNext_lt hT q54 (by decide) (by decide)
          have hT := hn1.1
          have hs : pSz (pNext S) ≤ 900 := by omega
          replace hR : uW a M0 M V0 W R T True (pNext S) := hR
          refine aj.aload_n dX5_readAtom_65 rfl ?_
          refine aj.iload_n dX5_readAtom_66 rfl ?_
          refine aj.iconst (v := 1) dX5_readAtom_67 rfl ?_
          refine aj.iaddN (a := 6 - (q + 1)) (b := 1) dX5_readAtom_68 rfl rfl ?_
          refine aj.uC0 (d' := 8 * q + 6) (As := [.int (nI ((6 - (q + 1)) + 1))]) (rest := []) hR dX5_readAtom_69 v_X5_121 li_X5_readSum rfl rfl rfl (Nat.le_of_ble_eq_true rfl) (by omega) ((hin q rfl).1 _ (pNext S) _ (show nI ((6 - (q + 1)) + 1) = nI (6 - q) by rw [show 6 - (q + 1) + 1 = 6 - q by omega]) hs hR) (fun M hR => ?_)
          have hg0 := (pSm_G st q).2 _ hT
          have hT := hg0.1
          have hs := Nat.le_trans hg0.2.1 hs
          refine aj.aload_n dX5_readAtom_72 rfl ?_
          refine aj.sipush (v := 2041) dX5_readAtom_73 rfl ?_
          refine aj.uC0 (d' := 2) (As := [.int 2041]) (rest := []) hR dX5_readAtom_76 v_X5_52 li_X5_take rfl rfl rfl (Nat.le_of_ble_eq_true rfl) (by omega) (u_take hC 36 kx36 (by decide) (by decide) (by decide) hR) (fun M hR => ?_)
          have hg0 := (pExp_G (k := 36) (by decide) (by decide)).2 _ hT
          have hT := hg0.1
          have hs := Nat.le_trans hg0.2.1 hs
          refine aj.goto (tgt := 115) dX5_readAtom_79 rfl ?_
          have e1 : pAt st (q + 1) S = pExp 36 (pSm st q (pNext S)) := by unfold pAt pAtom; rw [if_neg c29, if_neg hwn, if_pos q54]; rfl
          exact aj.vret rfl dX5_readAtom_115 ⟨rfl, by rw [e1]; exact hR⟩
    · refine aj.aload_n dX5_readAtom_32 rfl ?_
      refine aj.aload_n dX5_readAtom_33 rfl ?_
      refine aj.uTok hR w172 dX5_readAtom_34 ?_
      refine aj.uC0 (d' := 0) (As := [.int (pTk S)]) (rest := []) hR dX5_readAtom_37 v_X5_141 li_X5_put rfl rfl rfl (Nat.le_of_ble_eq_true rfl) (by omega) (u_put (pNm S) (by rw [hnm c29]; exact en_n hh0.2.1) hs hT hR) (fun M hR => ?_)
      have hp1 := pPush_sz (pNm S) S
      have hp2 := pPush_len (pNm S) S
      have hT := pPush_T (c := pNm S) hT
      refine aj.aload_n dX5_readAtom_40 rfl ?_
      refine aj.uC0 (d' := 1) (As := []) (rest := []) hR dX5_readAtom_41 v_X5_76 li_X5_step rfl rfl rfl (Nat.le_of_ble_eq_true rfl) (by omega) (u_step hC (by rw [pPush_hd]; omega) hR) (fun M hR => ?_)
      refine aj.goto (tgt := 115) dX5_readAtom_44 rfl ?_
      have e1 : pAt st r S = pNext (pPush (pNm S) S) := by unfold pAt pAtom; rw [if_pos c29]
      exact aj.vret rfl dX5_readAtom_115 ⟨rfl, by rw [e1]; exact hR⟩
  · have hws : (wdOf st (pHd S)).isSome := Decidable.byContradiction (fun z => c7 (wdC_n.mpr z))
    obtain ⟨wo, hwo⟩ := Option.isSome_iff_exists.mp hws
    have hw7 := (wdOf_w hwo).1
    have hq := wdOf_OK st _ hws
    have hwe : wdC (wdOf st (pHd S)) = nI (cwN wo) := by rw [hwo]; rfl
    refine aj.aload_n dX5_readAtom_10 rfl ?_
    refine aj.bipush (v := (-11)) dX5_readAtom_11 rfl ?_
    refine aj.iload_n dX5_readAtom_13 rfl ?_
    refine aj.isub dX5_readAtom_14 ?_
    refine aj.uC0 (d' := 0) (As := [.int (((-11)) - (wdC (wdOf st (pHd S))))]) (rest := []) hR dX5_readAtom_15 v_X5_141 li_X5_put rfl rfl rfl (Nat.le_of_ble_eq_true rfl) (by omega) (u_put (1000 + wo) (by rw [hwe]; exact en_w hw7) hs hT hR) (fun M hR => ?_)
    have hp1 := pPush_sz (1000 + wo) S
    have hp2 := pPush_len (1000 + wo) S
    have hT := pPush_T (c := 1000 + wo) hT
    refine aj.aload_n dX5_readAtom_18 rfl ?_
    refine aj.uC0 (d' := 1) (As := []) (rest := []) hR dX5_readAtom_19 v_X5_76 li_X5_step rfl rfl rfl (Nat.le_of_ble_eq_true rfl) (by omega) (u_step hC (by rw [pPush_hd]; exact hq.2) hR) (fun M hR => ?_)
    refine aj.goto (tgt := 115) dX5_readAtom_22 rfl ?_
    have e23 : ¬ pHd S = 23 := fun z => by rw [z] at hws; cases st <;> exact absurd hws (by decide)
    have e1 : pAt st r S = pNext (pPush (1000 + wo) S) := by unfold pAt pAtom; rw [if_neg e23, if_pos hws, hwo]; rfl
    exact aj.vret rfl dX5_readAtom_115 ⟨rfl, by rw [e1]; exact hR⟩
