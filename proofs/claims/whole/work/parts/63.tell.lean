theorem z_ss (x y : Int32) : x - (x - y) = y := by
  apply Int32.toBitVec_inj.mp
  simp only [Int32.toBitVec_sub]
  bv_omega
theorem cwN_lt {w : Nat} (h : w < 7) : cwN w < 7 := by
  unfold cwN
  split
  · decide
  · split
    · omega
    · exact h
theorem enc_w {z : Nat} (h : z < 7) : (-11 - nI z : Int32) < 0 ∧ ¬ (0 : Int32) ≤ -11 - nI z ∧ ¬ (-11 : Int32) < -11 - nI z := by
  rcases (show z = 0 ∨ z = 1 ∨ z = 2 ∨ z = 3 ∨ z = 4 ∨ z = 5 ∨ z = 6 by omega) with rfl | rfl | rfl | rfl | rfl | rfl | rfl <;> decide
theorem k_join_3000 {G : zG} {l : Launch} (M : zM) (x y : Int32) : am G l kX2_join 0 [.int (-1), .int x, .int y] M 0 0 (zr (.int (lwBin 3000 x y)) (fun M' => M' = M)) := by
  refine am.of (by decide) (Nat.le_of_ble_eq_true rfl) ?_
  refine aj.iload_n dX2_join_0 rfl ?_
  refine aj.swOut (tgt := 77) dX2_join_1 (by decide) rfl ?_
  refine aj.iload_n dX2_join_77 rfl ?_
  refine aj.iconst (v := (-1)) dX2_join_78 rfl ?_
  refine aj.icmp_ne (tgt := 90) dX2_join_79 rfl (fun c79 => ?_) (fun c79 => ?_)
  · exact absurd c79 (by decide)
  · refine aj.iload_n dX2_join_82 rfl ?_
    refine aj.i2l dX2_join_83 ?_
    refine aj.iload_n dX2_join_84 rfl ?_
    refine aj.i2l dX2_join_85 ?_
    refine aj.ladd dX2_join_86 ?_
    refine aj.goto (tgt := 109) dX2_join_87 rfl ?_
    refine aj.lstore_n (lv' := [(3, .long ((Int32.toInt64 x) + (Int32.toInt64 y))), (0, .int (-1)), (1, .int x), (2, .int y)]) dX2_join_109 (Nat.le_of_ble_eq_true rfl) rfl ?_
    refine aj.lload_n dX2_join_110 rfl ?_
    refine aj.ldc2 dX2_join_111 w782 ?_
    refine aj.lif_le (tgt := 123) dX2_join_114 dX2_join_115 rfl (fun c114 => ?_) (fun c114 => ?_)
    · refine aj.lload_n dX2_join_123 rfl ?_
      refine aj.ldc2 dX2_join_124 w784 ?_
      refine aj.lif_ge (tgt := 136) dX2_join_127 dX2_join_128 rfl (fun c127 => ?_) (fun c127 => ?_)
      · refine aj.lload_n dX2_join_136 rfl ?_
        refine aj.l2i dX2_join_137 ?_
        exact aj.iret rfl dX2_join_138 ⟨by simp [lwBin, lwHeld, *], rfl⟩
      · refine aj.ldc dX2_join_131 w785 ?_
        refine aj.goto (tgt := 138) dX2_join_133 rfl ?_
        exact aj.iret rfl dX2_join_138 ⟨by simp [lwBin, lwHeld, *], rfl⟩
    · refine aj.ldc dX2_join_118 w783 ?_
      refine aj.goto (tgt := 138) dX2_join_120 rfl ?_
      exact aj.iret rfl dX2_join_138 ⟨by simp [lwBin, lwHeld, *], rfl⟩
theorem k_join_3001 {G : zG} {l : Launch} (M : zM) (x y : Int32) : am G l kX2_join 0 [.int (-2), .int x, .int y] M 0 0 (zr (.int (lwBin 3001 x y)) (fun M' => M' = M)) := by
  refine am.of (by decide) (Nat.le_of_ble_eq_true rfl) ?_
  refine aj.iload_n dX2_join_0 rfl ?_
  refine aj.swOut (tgt := 77) dX2_join_1 (by decide) rfl ?_
  refine aj.iload_n dX2_join_77 rfl ?_
  refine aj.iconst (v := (-1)) dX2_join_78 rfl ?_
  refine aj.icmp_ne (tgt := 90) dX2_join_79 rfl (fun c79 => ?_) (fun c79 => ?_)
  · refine aj.iload_n dX2_join_90 rfl ?_
    refine aj.bipush (v := (-2)) dX2_join_91 rfl ?_
    refine aj.icmp_ne (tgt := 104) dX2_join_93 rfl (fun c93 => ?_) (fun c93 => ?_)
    · exact absurd c93 (by decide)
    · refine aj.iload_n dX2_join_96 rfl ?_
      refine aj.i2l dX2_join_97 ?_
      refine aj.iload_n dX2_join_98 rfl ?_
      refine aj.i2l dX2_join_99 ?_
      refine aj.lsub dX2_join_100 ?_
      refine aj.goto (tgt := 109) dX2_join_101 rfl ?_
      refine aj.lstore_n (lv' := [(3, .long ((Int32.toInt64 x) - (Int32.toInt64 y))), (0, .int (-2)), (1, .int x), (2, .int y)]) dX2_join_109 (Nat.le_of_ble_eq_true rfl) rfl ?_
      refine aj.lload_n dX2_join_110 rfl ?_
      refine aj.ldc2 dX2_join_111 w782 ?_
      refine aj.lif_le (tgt := 123) dX2_join_114 dX2_join_115 rfl (fun c114 => ?_) (fun c114 => ?_)
      · refine aj.lload_n dX2_join_123 rfl ?_
        refine aj.ldc2 dX2_join_124 w784 ?_
        refine aj.lif_ge (tgt := 136) dX2_join_127 dX2_join_128 rfl (fun c127 => ?_) (fun c127 => ?_)
        · refine aj.lload_n dX2_join_136 rfl ?_
          refine aj.l2i dX2_join_137 ?_
          exact aj.iret rfl dX2_join_138 ⟨by simp [lwBin, lwHeld, *], rfl⟩
        · refine aj.ldc dX2_join_131 w785 ?_
          refine aj.goto (tgt := 138) dX2_join_133 rfl ?_
          exact aj.iret rfl dX2_join_138 ⟨by simp [lwBin, lwHeld, *], rfl⟩
      · refine aj.ldc dX2_join_118 w783 ?_
        refine aj.goto (tgt := 138) dX2_join_120 rfl ?_
        exact aj.iret rfl dX2_join_138 ⟨by simp [lwBin, lwHeld, *], rfl⟩
  · exact absurd c79 (by decide)
theorem k_join_3002 {G : zG} {l : Launch} (M : zM) (x y : Int32) : am G l kX2_join 0 [.int (-3), .int x, .int y] M 0 0 (zr (.int (lwBin 3002 x y)) (fun M' => M' = M)) := by
  refine am.of (by decide) (Nat.le_of_ble_eq_true rfl) ?_
  refine aj.iload_n dX2_join_0 rfl ?_
  refine aj.swOut (tgt := 77) dX2_join_1 (by decide) rfl ?_
  refine aj.iload_n dX2_join_77 rfl ?_
  refine aj.iconst (v := (-1)) dX2_join_78 rfl ?_
  refine aj.icmp_ne (tgt := 90) dX2_join_79 rfl (fun c79 => ?_) (fun c79 => ?_)
  · refine aj.iload_n dX2_join_90 rfl ?_
    refine aj.bipush (v := (-2)) dX2_join_91 rfl ?_
    refine aj.icmp_ne (tgt := 104) dX2_join_93 rfl (fun c93 => ?_) (fun c93 => ?_)
    · refine aj.iload_n dX2_join_104 rfl ?_
      refine aj.i2l dX2_join_105 ?_
      refine aj.iload_n dX2_join_106 rfl ?_
      refine aj.i2l dX2_join_107 ?_
      refine aj.lmul dX2_join_108 ?_
      refine aj.lstore_n (lv' := [(3, .long ((Int32.toInt64 x) * (Int32.toInt64 y))), (0, .int (-3)), (1, .int x), (2, .int y)]) dX2_join_109 (Nat.le_of_ble_eq_true rfl) rfl ?_
      refine aj.lload_n dX2_join_110 rfl ?_
      refine aj.ldc2 dX2_join_111 w782 ?_
      refine aj.lif_le (tgt := 123) dX2_join_114 dX2_join_115 rfl (fun c114 => ?_) (fun c114 => ?_)
      · refine aj.lload_n dX2_join_123 rfl ?_
        refine aj.ldc2 dX2_join_124 w784 ?_
        refine aj.lif_ge (tgt := 136) dX2_join_127 dX2_join_128 rfl (fun c127 => ?_) (fun c127 => ?_)
        · refine aj.lload_n dX2_join_136 rfl ?_
          refine aj.l2i dX2_join_137 ?_
          exact aj.iret rfl dX2_join_138 ⟨by simp [lwBin, lwHeld, *], rfl⟩
        · refine aj.ldc dX2_join_131 w785 ?_
          refine aj.goto (tgt := 138) dX2_join_133 rfl ?_
          exact aj.iret rfl dX2_join_138 ⟨by simp [lwBin, lwHeld, *], rfl⟩
      · refine aj.ldc dX2_join_118 w783 ?_
        refine aj.goto (tgt := 138) dX2_join_120 rfl ?_
        exact aj.iret rfl dX2_join_138 ⟨by simp [lwBin, lwHeld, *], rfl⟩
    · exact absurd c93 (by decide)
  · exact absurd c79 (by decide)
theorem k_join_3003 {G : zG} {l : Launch} (M : zM) (x y : Int32) : am G l kX2_join 0 [.int (-4), .int x, .int y] M 0 0 (zr (.int (lwBin 3003 x y)) (fun M' => M' = M)) := by
  refine am.of (by decide) (Nat.le_of_ble_eq_true rfl) ?_
  refine aj.iload_n dX2_join_0 rfl ?_
  refine aj.swIn (tgt := 36) (off := 35) dX2_join_1 (by decide) (by decide) (by decide) rfl ?_
  refine aj.iload_n dX2_join_36 rfl ?_
  refine aj.iload_n dX2_join_37 rfl ?_
  refine aj.icmp_ne (tgt := 45) dX2_join_38 rfl (fun c38 => ?_) (fun c38 => ?_)
  · refine aj.iconst (v := 0) dX2_join_45 rfl ?_
    exact aj.iret rfl dX2_join_46 ⟨by unfold lwBin; simp [zb, *], rfl⟩
  · refine aj.iconst (v := 1) dX2_join_41 rfl ?_
    refine aj.goto (tgt := 46) dX2_join_42 rfl ?_
    exact aj.iret rfl dX2_join_46 ⟨by unfold lwBin; simp [zb, *], rfl⟩
theorem k_join_3004 {G : zG} {l : Launch} (M : zM) (x y : Int32) : am G l kX2_join 0 [.int (-5), .int x, .int y] M 0 0 (zr (.int (lwBin 3004 x y)) (fun M' => M' = M)) := by
  refine am.of (by decide) (Nat.le_of_ble_eq_true rfl) ?_
  refine aj.iload_n dX2_join_0 rfl ?_
  refine aj.swIn (tgt := 47) (off := 46) dX2_join_1 (by decide) (by decide) (by decide) rfl ?_
  refine aj.iload_n dX2_join_47 rfl ?_
  refine aj.iload_n dX2_join_48 rfl ?_
  refine aj.icmp_ge (tgt := 56) dX2_join_49 rfl (fun c49 => ?_) (fun c49 => ?_)
  · refine aj.iconst (v := 0) dX2_join_56 rfl ?_
    exact aj.iret rfl dX2_join_57 ⟨by unfold lwBin; simp [zb, *], rfl⟩
  · refine aj.iconst (v := 1) dX2_join_52 rfl ?_
    refine aj.goto (tgt := 57) dX2_join_53 rfl ?_
    exact aj.iret rfl dX2_join_57 ⟨by unfold lwBin; simp [zb, *], rfl⟩
theorem k_join_3005 {G : zG} {l : Launch} (M : zM) (x y : Int32) : am G l kX2_join 0 [.int (-6), .int x, .int y] M 0 0 (zr (.int (lwBin 3005 x y)) (fun M' => M' = M)) := by
  refine am.of (by decide) (Nat.le_of_ble_eq_true rfl) ?_
  refine aj.iload_n dX2_join_0 rfl ?_
  refine aj.swIn (tgt := 58) (off := 57) dX2_join_1 (by decide) (by decide) (by decide) rfl ?_
  refine aj.iload_n dX2_join_58 rfl ?_
  refine aj.iload_n dX2_join_59 rfl ?_
  refine aj.icmp_le (tgt := 67) dX2_join_60 rfl (fun c60 => ?_) (fun c60 => ?_)
  · refine aj.iconst (v := 0) dX2_join_67 rfl ?_
    exact aj.iret rfl dX2_join_68 ⟨by unfold lwBin; simp [zb, *], rfl⟩
  · refine aj.iconst (v := 1) dX2_join_63 rfl ?_
    refine aj.goto (tgt := 68) dX2_join_64 rfl ?_
    exact aj.iret rfl dX2_join_68 ⟨by unfold lwBin; simp [zb, *], rfl⟩
theorem k_join_3007 {G : zG} {l : Launch} (M : zM) (x y : Int32) : am G l kX2_join 0 [.int (-7), .int x, .int y] M 0 0 (zr (.int (lwBin 3007 x y)) (fun M' => M' = M)) := by
  refine am.of (by decide) (Nat.le_of_ble_eq_true rfl) ?_
  refine aj.iload_n dX2_join_0 rfl ?_
  refine aj.swIn (tgt := 69) (off := 68) dX2_join_1 (by decide) (by decide) (by decide) rfl ?_
  refine aj.iload_n dX2_join_69 rfl ?_
  refine aj.iload_n dX2_join_70 rfl ?_
  refine aj.iand dX2_join_71 ?_
  exact aj.iret rfl dX2_join_72 ⟨rfl, rfl⟩
theorem k_join_3008 {G : zG} {l : Launch} (M : zM) (x y : Int32) : am G l kX2_join 0 [.int (-8), .int x, .int y] M 0 0 (zr (.int (lwBin 3008 x y)) (fun M' => M' = M)) := by
  refine am.of (by decide) (Nat.le_of_ble_eq_true rfl) ?_
  refine aj.iload_n dX2_join_0 rfl ?_
  refine aj.swIn (tgt := 73) (off := 72) dX2_join_1 (by decide) (by decide) (by decide) rfl ?_
  refine aj.iload_n dX2_join_73 rfl ?_
  refine aj.iload_n dX2_join_74 rfl ?_
  refine aj.ior dX2_join_75 ?_
  exact aj.iret rfl dX2_join_76 ⟨rfl, rfl⟩
theorem k_wordAt {G : zG} {l : Launch} {a : Nat} {M0 M : zM} {V : Nat → Nat → Int32} {W : Nat → Nat → Int64} {R : Nat → Nat → Option Nat} (w : Nat) {x_w : Int32} (e_w : x_w = nI w) (hw : w < 7) (hA : kA a M0 M V W R) : am G l kX2_wordAt 0 [.ref (a + 50), .int x_w] M 0 0 (zr (.int (V 50 w)) (fun M' => M' = M)) := by
  refine am.of (by decide) (Nat.le_of_ble_eq_true rfl) ?_
  refine aj.iload_n dX2_wordAt_0 rfl ?_
  refine aj.if_ltN (a := w) (tgt := 16) dX2_wordAt_1 e_w (by omega) rfl ?_
  refine aj.iload_n dX2_wordAt_4 rfl ?_
  refine aj.aload_n dX2_wordAt_5 rfl ?_
  refine aj.kN (i := 50) (n := 7) (v := nI 7) rfl (by decide) (by decide) dX2_wordAt_6 hA rfl ?_
  refine aj.icmp_geN (a := w) (b := 7) (tgt := 16) dX2_wordAt_7 e_w rfl (by omega) (by omega) rfl (fun c7 => ?_) (fun c7 => ?_)
  · exact absurd c7 (by omega)
  · refine aj.aload_n dX2_wordAt_10 rfl ?_
    refine aj.iload_n dX2_wordAt_11 rfl ?_
    refine aj.kL (i := 50) (j := w) rfl dX2_wordAt_12 hA e_w (by omega) (by decide) ?_
    refine aj.goto (tgt := 17) dX2_wordAt_13 rfl ?_
    exact aj.iret rfl dX2_wordAt_17 ⟨rfl, rfl⟩
theorem tell_loop {G : zG} {l : Launch} {a : Nat} {M0 : zM} {V : Nat → Nat → Int32} {W : Nat → Nat → Int64} {R : Nat → Nat → Option Nat} {lp lq : Nat} {cs : List Nat} {nm : Int32} {w0 : Nat → Int32} {t : Bool} (hpo : kOut a lp) (hqo : kOut a lq) (hp : M0.1 lp = some (.inr (2, [.ref lq, .int nm]))) (hq : ia M0 lq cs.length (fun j => enc (cs.getD j 0))) (hn31 : cs.length < 2 ^ 31) (hw : ∀ c ∈ cs, 1000 ≤ c → c < 3000 → V 50 (cwN (c - 1000)) = w0 (c - 1000)) : ∀ (r : List Nat) (kk : Nat) (st : List Int32) (s : List Bool) (v : Nat → Int32) (M : zM) (dp : Nat), cs.drop kk = r → kk + r.length = cs.length → lwTys r s = some [t] → stM s st → st.length = dp → dp ≤ 64 → vst v st → kA a M0 M (va_up V 51 v) W R → lwRun w0 r st = lwRun w0 cs [] → aj G l kX2_tell 1 5 [(4, .int (nI kk)), (3, .int (nI dp)), (0, .ref lp), (1, .ref (a + 50)), (2, .ref (a + 51))] [] M 0 0 (zr (.int ((lwRun w0 cs []).headD 0)) (fun M' => ∃ v', kA a M0 M' (va_up V 51 v') W R)) := by
  intro r
  induction r with
  | nil =>
    intro kk st s v M dp hdr hk hty hst hdp h64 hv hA hrun
    have hs : s = [t] := Option.some.inj hty
    subst hs
    obtain ⟨x, r0, rfl, -, hr0⟩ := hst
    have hr0 : r0 = [] := hr0
    subst hr0
    have hkn : kk = cs.length := by simpa using hk
    have hdp1 : dp = 1 := hdp.symm
    subst hdp1
    refine aj.iload dX2_tell_5 rfl ?_
    refine aj.aload_n dX2_tell_7 rfl ?_
    refine aj.get (i := 0) (cq := (RX2, TX2, 2)) dX2_tell_8 ((hA.2.1 lp hpo).trans hp) rfl (Nat.le_of_ble_eq_true rfl) w688 rfl ?_
    refine aj.iaN (hq.of (hA.2.1 lq hqo)) dX2_tell_11 ?_
    refine aj.icmp_geN (a := kk) (b := cs.length) (tgt := 189) dX2_tell_12 rfl rfl (by omega) (by omega) rfl (fun c12 => ?_) (fun c12 => ?_)
    · refine aj.iload_n dX2_tell_189 rfl ?_
      refine aj.if_leN (a := 1) (tgt := 204) dX2_tell_190 rfl (by omega) rfl (fun c190 => ?_) (fun c190 => ?_)
      · exact absurd c190 (by decide)
      · refine aj.aload_n dX2_tell_193 rfl ?_
        refine aj.kN (i := 51) (n := 64) (v := nI 64) rfl (by decide) (by decide) dX2_tell_194 hA rfl ?_
        refine aj.if_leN (a := 64) (tgt := 204) dX2_tell_195 rfl (by omega) rfl (fun c195 => ?_) (fun c195 => ?_)
        · exact absurd c195 (by decide)
        · refine aj.aload_n dX2_tell_198 rfl ?_
          refine aj.iconst (v := 0) dX2_tell_199 rfl ?_
          refine aj.kL (i := 51) (j := 0) rfl dX2_tell_200 hA rfl (by omega) (by decide) ?_
          refine aj.goto (tgt := 205) dX2_tell_201 rfl ?_
          exact aj.iret rfl dX2_tell_205 ⟨by rw [← hrun, va_up_self, show v 0 = x from hv.1]; rfl, _, hA⟩
    · exact absurd c12 (by omega)
  | cons c r ih =>
    intro kk st s v M dp hdr hk hty hst hdp h64 hv hA hrun
    obtain ⟨s1, hst1, hty1⟩ := Option.bind_eq_some_iff.mp hty
    have hM1 := lwStep_M w0 hst1 hst
    have hkl : kk < cs.length := by simp at hk; omega
    have hdr2 := List.drop_eq_getElem_cons hkl
    rw [hdr] at hdr2
    obtain ⟨hce, hre⟩ := List.cons.inj hdr2
    have hcm : c ∈ cs := by rw [hce]; exact List.getElem_mem hkl
    have hck : cs.getD kk 0 = c := by rw [List.getD_eq_getElem?_getD, List.getElem?_eq_getElem hkl, hce]; rfl
    have hk1 : kk + 1 + r.length = cs.length := by simp at hk; omega
    have hsl := stM_len hst
    rcases lwTy_cases hst1 with ⟨hc, h2, -⟩ | ⟨hc, r2, rfl, -⟩ | ⟨hc, r2, rfl, -⟩ | ⟨hc, r2, rfl, -⟩ | ⟨hc, r2, rfl, -⟩ | ⟨hc, r2, rfl, -⟩
    · rcases hc with hc | hc
      · have hst2 : lwStep w0 c st = nI c :: st := by unfold lwStep; rw [if_pos hc]
        have hen : enc c = nI c := by unfold enc; rw [if_pos hc]
        refine aj.iload dX2_tell_5 rfl ?_
        refine aj.aload_n dX2_tell_7 rfl ?_
        refine aj.get (i := 0) (cq := (RX2, TX2, 2)) dX2_tell_8 ((hA.2.1 lp hpo).trans hp) rfl (Nat.le_of_ble_eq_true rfl) w688 rfl ?_
        refine aj.iaN (hq.of (hA.2.1 lq hqo)) dX2_tell_11 ?_
        refine aj.icmp_geN (a := kk) (b := cs.length) (tgt := 189) dX2_tell_12 rfl rfl (by omega) (by omega) rfl (fun c12 => ?_) (fun c12 => ?_)
        · exact absurd c12 (by omega)
        · refine aj.aload_n dX2_tell_15 rfl ?_
          refine aj.get (i := 0) (cq := (RX2, TX2, 2)) dX2_tell_16 ((hA.2.1 lp hpo).trans hp) rfl (Nat.le_of_ble_eq_true rfl) w688 rfl ?_
          refine aj.iload dX2_tell_19 rfl ?_
          refine aj.iaL (j := kk) (hq.of (hA.2.1 lq hqo)) dX2_tell_21 rfl (by omega) hn31 ?_
          rw [hck, hen]
          refine aj.istore (lv' := [(5, .int (nI c)), (4, .int (nI kk)), (3, .int (nI dp)), (0, .ref lp), (1, .ref (a + 50)), (2, .ref (a + 51))]) dX2_tell_22 (Nat.le_of_ble_eq_true rfl) rfl ?_
          refine aj.iload dX2_tell_24 rfl ?_
          refine aj.if_geN (a := c) (tgt := 36) dX2_tell_26 rfl (by omega) rfl ?_
          refine aj.iload_n dX2_tell_36 rfl ?_
          refine aj.aload_n dX2_tell_37 rfl ?_
          refine aj.kN (i := 51) (n := 64) (v := nI 64) rfl (by decide) (by decide) dX2_tell_38 hA rfl ?_
          refine aj.icmp_geN (a := dp) (b := 64) (tgt := 183) dX2_tell_39 rfl rfl (by omega) (by omega) rfl (fun c39 => ?_) (fun c39 => ?_)
          · exact absurd c39 (by omega)
          · refine aj.aload_n dX2_tell_42 rfl ?_
            refine aj.iload_n dX2_tell_43 rfl ?_
            refine aj.iload dX2_tell_44 rfl ?_
            refine aj.if_ltN (a := c) (tgt := 54) dX2_tell_46 rfl (by omega) rfl ?_
            refine aj.iload dX2_tell_49 rfl ?_
            refine aj.goto (tgt := 63) dX2_tell_51 rfl ?_
            refine aj.kS (i := 51) (j := dp) rfl dX2_tell_63 hA rfl (by omega) (by decide) (fun M hA => ?_)
            refine aj.iincN (a := dp) (c := 1) (lv' := [(3, .int (nI (dp + 1))), (5, .int (nI c)), (4, .int (nI kk)), (0, .ref lp), (1, .ref (a + 50)), (2, .ref (a + 51))]) dX2_tell_64 rfl (Nat.le_of_ble_eq_true rfl) rfl rfl rfl ?_
            refine aj.goto (tgt := 183) dX2_tell_67 rfl ?_
            refine aj.iincN (a := kk) (c := 1) (lv' := [(4, .int (nI (kk + 1))), (3, .int (nI (dp + 1))), (5, .int (nI c)), (0, .ref lp), (1, .ref (a + 50)), (2, .ref (a + 51))]) dX2_tell_183 rfl (Nat.le_of_ble_eq_true rfl) rfl rfl rfl ?_
            refine aj.goto (tgt := 5) dX2_tell_186 rfl ?_
            refine aj.pick [0, 1, 3, 4, 5] rfl ?_
            rw [bx_uu, va_up_self] at hA
            exact ih (kk + 1) _ s1 _ M _ hre.symm hk1 hty1 hM1 (by rw [hst2]; simp; omega) (by omega) (by rw [hst2]; exact vst_push hdp hv) hA hrun
      · have hst2 : lwStep w0 c st = w0 (c - 1000) :: st := by unfold lwStep; rw [if_neg (by omega), if_pos (by omega)]
        have hcw : cwN (c - 1000) < 7 := cwN_lt (by omega)
        have hen : enc c = -11 - nI (cwN (c - 1000)) := by unfold enc; rw [if_neg (by omega), if_pos (by omega)]
        have hwv := hw c hcm (by omega) (by omega)
        refine aj.iload dX2_tell_5 rfl ?_
        refine aj.aload_n dX2_tell_7 rfl ?_
        refine aj.get (i := 0) (cq := (RX2, TX2, 2)) dX2_tell_8 ((hA.2.1 lp hpo).trans hp) rfl (Nat.le_of_ble_eq_true rfl) w688 rfl ?_
        refine aj.iaN (hq.of (hA.2.1 lq hqo)) dX2_tell_11 ?_
        refine aj.icmp_geN (a := kk) (b := cs.length) (tgt := 189) dX2_tell_12 rfl rfl (by omega) (by omega) rfl (fun c12 => ?_) (fun c12 => ?_)
        · exact absurd c12 (by omega)
        · refine aj.aload_n dX2_tell_15 rfl ?_
          refine aj.get (i := 0) (cq := (RX2, TX2, 2)) dX2_tell_16 ((hA.2.1 lp hpo).trans hp) rfl (Nat.le_of_ble_eq_true rfl) w688 rfl ?_
          refine aj.iload dX2_tell_19 rfl ?_
          refine aj.iaL (j := kk) (hq.of (hA.2.1 lq hqo)) dX2_tell_21 rfl (by omega) hn31 ?_
          rw [hck, hen]
          refine aj.istore (lv' := [(5, .int (-11 - nI (cwN (c - 1000)))), (4, .int (nI kk)), (3, .int (nI dp)), (0, .ref lp), (1, .ref (a + 50)), (2, .ref (a + 51))]) dX2_tell_22 (Nat.le_of_ble_eq_true rfl) rfl ?_
          refine aj.iload dX2_tell_24 rfl ?_
          refine aj.if_ge (tgt := 36) dX2_tell_26 rfl (fun c26 => ?_) (fun c26 => ?_)
          · exact absurd c26 (enc_w hcw).2.1
          · refine aj.iload dX2_tell_29 rfl ?_
            refine aj.bipush (v := (-11)) dX2_tell_31 rfl ?_
            refine aj.icmp_gt (tgt := 70) dX2_tell_33 rfl (fun c33 => ?_) (fun c33 => ?_)
            · exact absurd c33 (enc_w hcw).2.2
            · refine aj.iload_n dX2_tell_36 rfl ?_
              refine aj.aload_n dX2_tell_37 rfl ?_
              refine aj.kN (i := 51) (n := 64) (v := nI 64) rfl (by decide) (by decide) dX2_tell_38 hA rfl ?_
              refine aj.icmp_geN (a := dp) (b := 64) (tgt := 183) dX2_tell_39 rfl rfl (by omega) (by omega) rfl (fun c39 => ?_) (fun c39 => ?_)
              · exact absurd c39 (by omega)
              · refine aj.aload_n dX2_tell_42 rfl ?_
                refine aj.iload_n dX2_tell_43 rfl ?_
                refine aj.iload dX2_tell_44 rfl ?_
                refine aj.if_lt (tgt := 54) dX2_tell_46 rfl (fun c46 => ?_) (fun c46 => ?_)
                · refine aj.aload_n dX2_tell_54 rfl ?_
                  refine aj.bipush (v := (-11)) dX2_tell_55 rfl ?_
                  refine aj.iload dX2_tell_57 rfl ?_
                  refine aj.isub dX2_tell_59 ?_
                  refine aj.callS1 (d' := 0) (As := [.ref (a + 50), .int (((-11)) - (-11 - nI (cwN (c - 1000))))]) (rest := [.int (nI dp), .ref (a + 51)]) dX2_tell_60 v_X2_17 w777 rfl rfl (Nat.le_of_ble_eq_true rfl) (Nat.le_of_ble_eq_true rfl) (k_wordAt (cwN (c - 1000)) (z_ss _ _) hcw hA) (fun M hM => ?_)
                  subst hM
                  rw [va_up_ne _ _ (by decide), hwv]
                  refine aj.kS (i := 51) (j := dp) rfl dX2_tell_63 hA rfl (by omega) (by decide) (fun M hA => ?_)
                  refine aj.iincN (a := dp) (c := 1) (lv' := [(3, .int (nI (dp + 1))), (5, .int (-11 - nI (cwN (c - 1000)))), (4, .int (nI kk)), (0, .ref lp), (1, .ref (a + 50)), (2, .ref (a + 51))]) dX2_tell_64 rfl (Nat.le_of_ble_eq_true rfl) rfl rfl rfl ?_
                  refine aj.goto (tgt := 183) dX2_tell_67 rfl ?_
                  refine aj.iincN (a := kk) (c := 1) (lv' := [(4, .int (nI (kk + 1))), (3, .int (nI (dp + 1))), (5, .int (-11 - nI (cwN (c - 1000)))), (0, .ref lp), (1, .ref (a + 50)), (2, .ref (a + 51))]) dX2_tell_183 rfl (Nat.le_of_ble_eq_true rfl) rfl rfl rfl ?_
                  refine aj.goto (tgt := 5) dX2_tell_186 rfl ?_
                  refine aj.pick [0, 1, 3, 4, 5] rfl ?_
                  rw [bx_uu, va_up_self] at hA
                  exact ih (kk + 1) _ s1 _ M _ hre.symm hk1 hty1 hM1 (by rw [hst2]; simp; omega) (by omega) (by rw [hst2]; exact vst_push hdp hv) hA hrun
                · exact absurd (enc_w hcw).1 c46
    · obtain ⟨y, r1, rfl, -, x, r0, rfl, -⟩ := hst
      have hdp1 : dp - 1 - 1 = r0.length := by simp at hdp; omega
      have hdp2 : dp - 1 = (x :: r0).length := by simp at hdp ⊢; omega
      have hdp0 : 2 ≤ dp := by simp at hdp; omega
      rcases hc with rfl | rfl | rfl
      · have hst2 : lwStep w0 3000 (y :: x :: r0) = lwBin 3000 x y :: r0 := rfl
        have hen : enc 3000 = -1 := rfl
        refine aj.iload dX2_tell_5 rfl ?_
        refine aj.aload_n dX2_tell_7 rfl ?_
        refine aj.get (i := 0) (cq := (RX2, TX2, 2)) dX2_tell_8 ((hA.2.1 lp hpo).trans hp) rfl (Nat.le_of_ble_eq_true rfl) w688 rfl ?_
        refine aj.iaN (hq.of (hA.2.1 lq hqo)) dX2_tell_11 ?_
        refine aj.icmp_geN (a := kk) (b := cs.length) (tgt := 189) dX2_tell_12 rfl rfl (by omega) (by omega) rfl (fun c12 => ?_) (fun c12 => ?_)
        · exact absurd c12 (by omega)
        · refine aj.aload_n dX2_tell_15 rfl ?_
          refine aj.get (i := 0) (cq := (RX2, TX2, 2)) dX2_tell_16 ((hA.2.1 lp hpo).trans hp) rfl (Nat.le_of_ble_eq_true rfl) w688 rfl ?_
          refine aj.iload dX2_tell_19 rfl ?_
          refine aj.iaL (j := kk) (hq.of (hA.2.1 lq hqo)) dX2_tell_21 rfl (by omega) hn31 ?_
          rw [hck, hen]
          refine aj.istore (lv' := [(5, .int (-1)), (4, .int (nI kk)), (3, .int (nI dp)), (0, .ref lp), (1, .ref (a + 50)), (2, .ref (a + 51))]) dX2_tell_22 (Nat.le_of_ble_eq_true rfl) rfl ?_
          refine aj.iload dX2_tell_24 rfl ?_
          refine aj.if_ge (tgt := 36) dX2_tell_26 rfl (fun c26 => ?_) (fun c26 => ?_)
          · exact absurd c26 (by decide)
          · refine aj.iload dX2_tell_29 rfl ?_
            refine aj.bipush (v := (-11)) dX2_tell_31 rfl ?_
            refine aj.icmp_gt (tgt := 70) dX2_tell_33 rfl (fun c33 => ?_) (fun c33 => ?_)
            · refine aj.iload dX2_tell_70 rfl ?_
              refine aj.bipush (v := (-9)) dX2_tell_72 rfl ?_
              refine aj.icmp_ne (tgt := 103) dX2_tell_74 rfl (fun c74 => ?_) (fun c74 => ?_)
              · refine aj.iload dX2_tell_103 rfl ?_
                refine aj.bipush (v := (-10)) dX2_tell_105 rfl ?_
                refine aj.icmp_ne (tgt := 151) dX2_tell_107 rfl (fun c107 => ?_) (fun c107 => ?_)
                · refine aj.iload_n dX2_tell_151 rfl ?_
                  refine aj.iconst (v := 2) dX2_tell_152 rfl ?_
                  refine aj.icmp_ltN (a := dp) (b := 2) (tgt := 183) dX2_tell_153 rfl rfl (by omega) (by omega) rfl (fun c153 => ?_) (fun c153 => ?_)
                  · exact absurd c153 (by omega)
                  · refine aj.iload_n dX2_tell_156 rfl ?_
                    refine aj.aload_n dX2_tell_157 rfl ?_
                    refine aj.kN (i := 51) (n := 64) (v := nI 64) rfl (by decide) (by decide) dX2_tell_158 hA rfl ?_
                    refine aj.icmp_gtN (a := dp) (b := 64) (tgt := 183) dX2_tell_159 rfl rfl (by omega) (by omega) rfl (fun c159 => ?_) (fun c159 => ?_)
                    · exact absurd c159 (by omega)
                    · refine aj.iinc (v := nI (dp - 1)) (lv' := [(3, .int (nI (dp - 1))), (5, .int (-1)), (4, .int (nI kk)), (0, .ref lp), (1, .ref (a + 50)), (2, .ref (a + 51))]) dX2_tell_162 rfl (Nat.le_of_ble_eq_true rfl) (z_dec (by omega)) rfl ?_
                      refine aj.aload_n dX2_tell_165 rfl ?_
                      refine aj.iload_n dX2_tell_166 rfl ?_
                      refine aj.iconst (v := 1) dX2_tell_167 rfl ?_
                      refine aj.isubN (a := dp - 1) (b := 1) dX2_tell_168 rfl rfl (by omega) ?_
                      refine aj.iload dX2_tell_169 rfl ?_
                      refine aj.aload_n dX2_tell_171 rfl ?_
                      refine aj.iload_n dX2_tell_172 rfl ?_
                      refine aj.iconst (v := 1) dX2_tell_173 rfl ?_
                      refine aj.isubN (a := dp - 1) (b := 1) dX2_tell_174 rfl rfl (by omega) ?_
                      refine aj.kL (i := 51) (j := (dp - 1) - 1) rfl dX2_tell_175 hA rfl (by omega) (by decide) ?_
                      refine aj.aload_n dX2_tell_176 rfl ?_
                      refine aj.iload_n dX2_tell_177 rfl ?_
                      refine aj.kL (i := 51) (j := dp - 1) rfl dX2_tell_178 hA rfl (by omega) (by decide) ?_
                      refine aj.callS1 (d' := 0) (As := [.int (-1), .int (v ((dp - 1) - 1)), .int (v (dp - 1))]) (rest := [.int (nI ((dp - 1) - 1)), .ref (a + 51)]) dX2_tell_179 v_X2_21 w780 rfl rfl (Nat.le_of_ble_eq_true rfl) (Nat.le_of_ble_eq_true rfl) (k_join_3000 _ (v ((dp - 1) - 1)) (v (dp - 1))) (fun M hM => ?_)
                      subst hM
                      refine aj.kS (i := 51) (j := (dp - 1) - 1) rfl dX2_tell_182 hA rfl (by omega) (by decide) (fun M hA => ?_)
                      refine aj.iincN (a := kk) (c := 1) (lv' := [(4, .int (nI (kk + 1))), (3, .int (nI (dp - 1))), (5, .int (-1)), (0, .ref lp), (1, .ref (a + 50)), (2, .ref (a + 51))]) dX2_tell_183 rfl (Nat.le_of_ble_eq_true rfl) rfl rfl rfl ?_
                      refine aj.goto (tgt := 5) dX2_tell_186 rfl ?_
                      refine aj.pick [0, 1, 3, 4, 5] rfl ?_
                      rw [bx_uu, va_up_self] at hA
                      exact ih (kk + 1) _ s1 _ M _ hre.symm hk1 hty1 hM1 (by rw [hst2]; simp at hdp ⊢; omega) (by omega) (by rw [hst2, hdp1, hdp2, hv.1, hv.2.1]; exact vst_push rfl hv.2.2) hA hrun
                · exact absurd c107 (by decide)
              · exact absurd c74 (by decide)
            · exact absurd c33 (by decide)
      · have hst2 : lwStep w0 3001 (y :: x :: r0) = lwBin 3001 x y :: r0 := rfl
        have hen : enc 3001 = -2 := rfl
        refine aj.iload dX2_tell_5 rfl ?_
        refine aj.aload_n dX2_tell_7 rfl ?_
        refine aj.get (i := 0) (cq := (RX2, TX2, 2)) dX2_tell_8 ((hA.2.1 lp hpo).trans hp) rfl (Nat.le_of_ble_eq_true rfl) w688 rfl ?_
        refine aj.iaN (hq.of (hA.2.1 lq hqo)) dX2_tell_11 ?_
        refine aj.icmp_geN (a := kk) (b := cs.length) (tgt := 189) dX2_tell_12 rfl rfl (by omega) (by omega) rfl (fun c12 => ?_) (fun c12 => ?_)
        · exact absurd c12 (by omega)
        · refine aj.aload_n dX2_tell_15 rfl ?_
          refine aj.get (i := 0) (cq := (RX2, TX2, 2)) dX2_tell_16 ((hA.2.1 lp hpo).trans hp) rfl (Nat.le_of_ble_eq_true rfl) w688 rfl ?_
          refine aj.iload dX2_tell_19 rfl ?_
          refine aj.iaL (j := kk) (hq.of (hA.2.1 lq hqo)) dX2_tell_21 rfl (by omega) hn31 ?_
          rw [hck, hen]
          refine aj.istore (lv' := [(5, .int (-2)), (4, .int (nI kk)), (3, .int (nI dp)), (0, .ref lp), (1, .ref (a + 50)), (2, .ref (a + 51))]) dX2_tell_22 (Nat.le_of_ble_eq_true rfl) rfl ?_
          refine aj.iload dX2_tell_24 rfl ?_
          refine aj.if_ge (tgt := 36) dX2_tell_26 rfl (fun c26 => ?_) (fun c26 => ?_)
          · exact absurd c26 (by decide)
          · refine aj.iload dX2_tell_29 rfl ?_
            refine aj.bipush (v := (-11)) dX2_tell_31 rfl ?_
            refine aj.icmp_gt (tgt := 70) dX2_tell_33 rfl (fun c33 => ?_) (fun c33 => ?_)
            · refine aj.iload dX2_tell_70 rfl ?_
              refine aj.bipush (v := (-9)) dX2_tell_72 rfl ?_
              refine aj.icmp_ne (tgt := 103) dX2_tell_74 rfl (fun c74 => ?_) (fun c74 => ?_)
              · refine aj.iload dX2_tell_103 rfl ?_
                refine aj.bipush (v := (-10)) dX2_tell_105 rfl ?_
                refine aj.icmp_ne (tgt := 151) dX2_tell_107 rfl (fun c107 => ?_) (fun c107 => ?_)
                · refine aj.iload_n dX2_tell_151 rfl ?_
                  refine aj.iconst (v := 2) dX2_tell_152 rfl ?_
                  refine aj.icmp_ltN (a := dp) (b := 2) (tgt := 183) dX2_tell_153 rfl rfl (by omega) (by omega) rfl (fun c153 => ?_) (fun c153 => ?_)
                  · exact absurd c153 (by omega)
                  · refine aj.iload_n dX2_tell_156 rfl ?_
                    refine aj.aload_n dX2_tell_157 rfl ?_
                    refine aj.kN (i := 51) (n := 64) (v := nI 64) rfl (by decide) (by decide) dX2_tell_158 hA rfl ?_
                    refine aj.icmp_gtN (a := dp) (b := 64) (tgt := 183) dX2_tell_159 rfl rfl (by omega) (by omega) rfl (fun c159 => ?_) (fun c159 => ?_)
                    · exact absurd c159 (by omega)
                    · refine aj.iinc (v := nI (dp - 1)) (lv' := [(3, .int (nI (dp - 1))), (5, .int (-2)), (4, .int (nI kk)), (0, .ref lp), (1, .ref (a + 50)), (2, .ref (a + 51))]) dX2_tell_162 rfl (Nat.le_of_ble_eq_true rfl) (z_dec (by omega)) rfl ?_
                      refine aj.aload_n dX2_tell_165 rfl ?_
                      refine aj.iload_n dX2_tell_166 rfl ?_
                      refine aj.iconst (v := 1) dX2_tell_167 rfl ?_
                      refine aj.isubN (a := dp - 1) (b := 1) dX2_tell_168 rfl rfl (by omega) ?_
                      refine aj.iload dX2_tell_169 rfl ?_
                      refine aj.aload_n dX2_tell_171 rfl ?_
                      refine aj.iload_n dX2_tell_172 rfl ?_
                      refine aj.iconst (v := 1) dX2_tell_173 rfl ?_
                      refine aj.isubN (a := dp - 1) (b := 1) dX2_tell_174 rfl rfl (by omega) ?_
                      refine aj.kL (i := 51) (j := (dp - 1) - 1) rfl dX2_tell_175 hA rfl (by omega) (by decide) ?_
                      refine aj.aload_n dX2_tell_176 rfl ?_
                      refine aj.iload_n dX2_tell_177 rfl ?_
                      refine aj.kL (i := 51) (j := dp - 1) rfl dX2_tell_178 hA rfl (by omega) (by decide) ?_
                      refine aj.callS1 (d' := 0) (As := [.int (-2), .int (v ((dp - 1) - 1)), .int (v (dp - 1))]) (rest := [.int (nI ((dp - 1) - 1)), .ref (a + 51)]) dX2_tell_179 v_X2_21 w780 rfl rfl (Nat.le_of_ble_eq_true rfl) (Nat.le_of_ble_eq_true rfl) (k_join_3001 _ (v ((dp - 1) - 1)) (v (dp - 1))) (fun M hM => ?_)
                      subst hM
                      refine aj.kS (i := 51) (j := (dp - 1) - 1) rfl dX2_tell_182 hA rfl (by omega) (by decide) (fun M hA => ?_)
                      refine aj.iincN (a := kk) (c := 1) (lv' := [(4, .int (nI (kk + 1))), (3, .int (nI (dp - 1))), (5, .int (-2)), (0, .ref lp), (1, .ref (a + 50)), (2, .ref (a + 51))]) dX2_tell_183 rfl (Nat.le_of_ble_eq_true rfl) rfl rfl rfl ?_
                      refine aj.goto (tgt := 5) dX2_tell_186 rfl ?_
                      refine aj.pick [0, 1, 3, 4, 5] rfl ?_
                      rw [bx_uu, va_up_self] at hA
                      exact ih (kk + 1) _ s1 _ M _ hre.symm hk1 hty1 hM1 (by rw [hst2]; simp at hdp ⊢; omega) (by omega) (by rw [hst2, hdp1, hdp2, hv.1, hv.2.1]; exact vst_push rfl hv.2.2) hA hrun
                · exact absurd c107 (by decide)
              · exact absurd c74 (by decide)
            · exact absurd c33 (by decide)
      · have hst2 : lwStep w0 3002 (y :: x :: r0) = lwBin 3002 x y :: r0 := rfl
        have hen : enc 3002 = -3 := rfl
        refine aj.iload dX2_tell_5 rfl ?_
        refine aj.aload_n dX2_tell_7 rfl ?_
        refine aj.get (i := 0) (cq := (RX2, TX2, 2)) dX2_tell_8 ((hA.2.1 lp hpo).trans hp) rfl (Nat.le_of_ble_eq_true rfl) w688 rfl ?_
        refine aj.iaN (hq.of (hA.2.1 lq hqo)) dX2_tell_11 ?_
        refine aj.icmp_geN (a := kk) (b := cs.length) (tgt := 189) dX2_tell_12 rfl rfl (by omega) (by omega) rfl (fun c12 => ?_) (fun c12 => ?_)
        · exact absurd c12 (by omega)
        · refine aj.aload_n dX2_tell_15 rfl ?_
          refine aj.get (i := 0) (cq := (RX2, TX2, 2)) dX2_tell_16 ((hA.2.1 lp hpo).trans hp) rfl (Nat.le_of_ble_eq_true rfl) w688 rfl ?_
          refine aj.iload dX2_tell_19 rfl ?_
          refine aj.iaL (j := kk) (hq.of (hA.2.1 lq hqo)) dX2_tell_21 rfl (by omega) hn31 ?_
          rw [hck, hen]
          refine aj.istore (lv' := [(5, .int (-3)), (4, .int (nI kk)), (3, .int (nI dp)), (0, .ref lp), (1, .ref (a + 50)), (2, .ref (a + 51))]) dX2_tell_22 (Nat.le_of_ble_eq_true rfl) rfl ?_
          refine aj.iload dX2_tell_24 rfl ?_
          refine aj.if_ge (tgt := 36) dX2_tell_26 rfl (fun c26 => ?_) (fun c26 => ?_)
          · exact absurd c26 (by decide)
          · refine aj.iload dX2_tell_29 rfl ?_
            refine aj.bipush (v := (-11)) dX2_tell_31 rfl ?_
            refine aj.icmp_gt (tgt := 70) dX2_tell_33 rfl (fun c33 => ?_) (fun c33 => ?_)
            · refine aj.iload dX2_tell_70 rfl ?_
              refine aj.bipush (v := (-9)) dX2_tell_72 rfl ?_
              refine aj.icmp_ne (tgt := 103) dX2_tell_74 rfl (fun c74 => ?_) (fun c74 => ?_)
              · refine aj.iload dX2_tell_103 rfl ?_
                refine aj.bipush (v := (-10)) dX2_tell_105 rfl ?_
                refine aj.icmp_ne (tgt := 151) dX2_tell_107 rfl (fun c107 => ?_) (fun c107 => ?_)
                · refine aj.iload_n dX2_tell_151 rfl ?_
                  refine aj.iconst (v := 2) dX2_tell_152 rfl ?_
                  refine aj.icmp_ltN (a := dp) (b := 2) (tgt := 183) dX2_tell_153 rfl rfl (by omega) (by omega) rfl (fun c153 => ?_) (fun c153 => ?_)
                  · exact absurd c153 (by omega)
                  · refine aj.iload_n dX2_tell_156 rfl ?_
                    refine aj.aload_n dX2_tell_157 rfl ?_
                    refine aj.kN (i := 51) (n := 64) (v := nI 64) rfl (by decide) (by decide) dX2_tell_158 hA rfl ?_
                    refine aj.icmp_gtN (a := dp) (b := 64) (tgt := 183) dX2_tell_159 rfl rfl (by omega) (by omega) rfl (fun c159 => ?_) (fun c159 => ?_)
                    · exact absurd c159 (by omega)
                    · refine aj.iinc (v := nI (dp - 1)) (lv' := [(3, .int (nI (dp - 1))), (5, .int (-3)), (4, .int (nI kk)), (0, .ref lp), (1, .ref (a + 50)), (2, .ref (a + 51))]) dX2_tell_162 rfl (Nat.le_of_ble_eq_true rfl) (z_dec (by omega)) rfl ?_
                      refine aj.aload_n dX2_tell_165 rfl ?_
                      refine aj.iload_n dX2_tell_166 rfl ?_
                      refine aj.iconst (v := 1) dX2_tell_167 rfl ?_
                      refine aj.isubN (a := dp - 1) (b := 1) dX2_tell_168 rfl rfl (by omega) ?_
                      refine aj.iload dX2_tell_169 rfl ?_
                      refine aj.aload_n dX2_tell_171 rfl ?_
                      refine aj.iload_n dX2_tell_172 rfl ?_
                      refine aj.iconst (v := 1) dX2_tell_173 rfl ?_
                      refine aj.isubN (a := dp - 1) (b := 1) dX2_tell_174 rfl rfl (by omega) ?_
                      refine aj.kL (i := 51) (j := (dp - 1) - 1) rfl dX2_tell_175 hA rfl (by omega) (by decide) ?_
                      refine aj.aload_n dX2_tell_176 rfl ?_
                      refine aj.iload_n dX2_tell_177 rfl ?_
                      refine aj.kL (i := 51) (j := dp - 1) rfl dX2_tell_178 hA rfl (by omega) (by decide) ?_
                      refine aj.callS1 (d' := 0) (As := [.int (-3), .int (v ((dp - 1) - 1)), .int (v (dp - 1))]) (rest := [.int (nI ((dp - 1) - 1)), .ref (a + 51)]) dX2_tell_179 v_X2_21 w780 rfl rfl (Nat.le_of_ble_eq_true rfl) (Nat.le_of_ble_eq_true rfl) (k_join_3002 _ (v ((dp - 1) - 1)) (v (dp - 1))) (fun M hM => ?_)
                      subst hM
                      refine aj.kS (i := 51) (j := (dp - 1) - 1) rfl dX2_tell_182 hA rfl (by omega) (by decide) (fun M hA => ?_)
                      refine aj.iincN (a := kk) (c := 1) (lv' := [(4, .int (nI (kk + 1))), (3, .int (nI (dp - 1))), (5, .int (-3)), (0, .ref lp), (1, .ref (a + 50)), (2, .ref (a + 51))]) dX2_tell_183 rfl (Nat.le_of_ble_eq_true rfl) rfl rfl rfl ?_
                      refine aj.goto (tgt := 5) dX2_tell_186 rfl ?_
                      refine aj.pick [0, 1, 3, 4, 5] rfl ?_
                      rw [bx_uu, va_up_self] at hA
                      exact ih (kk + 1) _ s1 _ M _ hre.symm hk1 hty1 hM1 (by rw [hst2]; simp at hdp ⊢; omega) (by omega) (by rw [hst2, hdp1, hdp2, hv.1, hv.2.1]; exact vst_push rfl hv.2.2) hA hrun
                · exact absurd c107 (by decide)
              · exact absurd c74 (by decide)
            · exact absurd c33 (by decide)
    · obtain ⟨y, r1, rfl, -, x, r0, rfl, -⟩ := hst
      have hdp1 : dp - 1 - 1 = r0.length := by simp at hdp; omega
      have hdp2 : dp - 1 = (x :: r0).length := by simp at hdp ⊢; omega
      have hdp0 : 2 ≤ dp := by simp at hdp; omega
      rcases hc with rfl | rfl | rfl
      · have hst2 : lwStep w0 3003 (y :: x :: r0) = lwBin 3003 x y :: r0 := rfl
        have hen : enc 3003 = -4 := rfl
        refine aj.iload dX2_tell_5 rfl ?_
        refine aj.aload_n dX2_tell_7 rfl ?_
        refine aj.get (i := 0) (cq := (RX2, TX2, 2)) dX2_tell_8 ((hA.2.1 lp hpo).trans hp) rfl (Nat.le_of_ble_eq_true rfl) w688 rfl ?_
        refine aj.iaN (hq.of (hA.2.1 lq hqo)) dX2_tell_11 ?_
        refine aj.icmp_geN (a := kk) (b := cs.length) (tgt := 189) dX2_tell_12 rfl rfl (by omega) (by omega) rfl (fun c12 => ?_) (fun c12 => ?_)
        · exact absurd c12 (by omega)
        · refine aj.aload_n dX2_tell_15 rfl ?_
          refine aj.get (i := 0) (cq := (RX2, TX2, 2)) dX2_tell_16 ((hA.2.1 lp hpo).trans hp) rfl (Nat.le_of_ble_eq_true rfl) w688 rfl ?_
          refine aj.iload dX2_tell_19 rfl ?_
          refine aj.iaL (j := kk) (hq.of (hA.2.1 lq hqo)) dX2_tell_21 rfl (by omega) hn31 ?_
          rw [hck, hen]
          refine aj.istore (lv' := [(5, .int (-4)), (4, .int (nI kk)), (3, .int (nI dp)), (0, .ref lp), (1, .ref (a + 50)), (2, .ref (a + 51))]) dX2_tell_22 (Nat.le_of_ble_eq_true rfl) rfl ?_
          refine aj.iload dX2_tell_24 rfl ?_
          refine aj.if_ge (tgt := 36) dX2_tell_26 rfl (fun c26 => ?_) (fun c26 => ?_)
          · exact absurd c26 (by decide)
          · refine aj.iload dX2_tell_29 rfl ?_
            refine aj.bipush (v := (-11)) dX2_tell_31 rfl ?_
            refine aj.icmp_gt (tgt := 70) dX2_tell_33 rfl (fun c33 => ?_) (fun c33 => ?_)
            · refine aj.iload dX2_tell_70 rfl ?_
              refine aj.bipush (v := (-9)) dX2_tell_72 rfl ?_
              refine aj.icmp_ne (tgt := 103) dX2_tell_74 rfl (fun c74 => ?_) (fun c74 => ?_)
              · refine aj.iload dX2_tell_103 rfl ?_
                refine aj.bipush (v := (-10)) dX2_tell_105 rfl ?_
                refine aj.icmp_ne (tgt := 151) dX2_tell_107 rfl (fun c107 => ?_) (fun c107 => ?_)
                · refine aj.iload_n dX2_tell_151 rfl ?_
                  refine aj.iconst (v := 2) dX2_tell_152 rfl ?_
                  refine aj.icmp_ltN (a := dp) (b := 2) (tgt := 183) dX2_tell_153 rfl rfl (by omega) (by omega) rfl (fun c153 => ?_) (fun c153 => ?_)
                  · exact absurd c153 (by omega)
                  · refine aj.iload_n dX2_tell_156 rfl ?_
                    refine aj.aload_n dX2_tell_157 rfl ?_
                    refine aj.kN (i := 51) (n := 64) (v := nI 64) rfl (by decide) (by decide) dX2_tell_158 hA rfl ?_
                    refine aj.icmp_gtN (a := dp) (b := 64) (tgt := 183) dX2_tell_159 rfl rfl (by omega) (by omega) rfl (fun c159 => ?_) (fun c159 => ?_)
                    · exact absurd c159 (by omega)
                    · refine aj.iinc (v := nI (dp - 1)) (lv' := [(3, .int (nI (dp - 1))), (5, .int (-4)), (4, .int (nI kk)), (0, .ref lp), (1, .ref (a + 50)), (2, .ref (a + 51))]) dX2_tell_162 rfl (Nat.le_of_ble_eq_true rfl) (z_dec (by omega)) rfl ?_
                      refine aj.aload_n dX2_tell_165 rfl ?_
                      refine aj.iload_n dX2_tell_166 rfl ?_
                      refine aj.iconst (v := 1) dX2_tell_167 rfl ?_
                      refine aj.isubN (a := dp - 1) (b := 1) dX2_tell_168 rfl rfl (by omega) ?_
                      refine aj.iload dX2_tell_169 rfl ?_
                      refine aj.aload_n dX2_tell_171 rfl ?_
                      refine aj.iload_n dX2_tell_172 rfl ?_
                      refine aj.iconst (v := 1) dX2_tell_173 rfl ?_
                      refine aj.isubN (a := dp - 1) (b := 1) dX2_tell_174 rfl rfl (by omega) ?_
                      refine aj.kL (i := 51) (j := (dp - 1) - 1) rfl dX2_tell_175 hA rfl (by omega) (by decide) ?_
                      refine aj.aload_n dX2_tell_176 rfl ?_
                      refine aj.iload_n dX2_tell_177 rfl ?_
                      refine aj.kL (i := 51) (j := dp - 1) rfl dX2_tell_178 hA rfl (by omega) (by decide) ?_
                      refine aj.callS1 (d' := 0) (As := [.int (-4), .int (v ((dp - 1) - 1)), .int (v (dp - 1))]) (rest := [.int (nI ((dp - 1) - 1)), .ref (a + 51)]) dX2_tell_179 v_X2_21 w780 rfl rfl (Nat.le_of_ble_eq_true rfl) (Nat.le_of_ble_eq_true rfl) (k_join_3003 _ (v ((dp - 1) - 1)) (v (dp - 1))) (fun M hM => ?_)
                      subst hM
                      refine aj.kS (i := 51) (j := (dp - 1) - 1) rfl dX2_tell_182 hA rfl (by omega) (by decide) (fun M hA => ?_)
                      refine aj.iincN (a := kk) (c := 1) (lv' := [(4, .int (nI (kk + 1))), (3, .int (nI (dp - 1))), (5, .int (-4)), (0, .ref lp), (1, .ref (a + 50)), (2, .ref (a + 51))]) dX2_tell_183 rfl (Nat.le_of_ble_eq_true rfl) rfl rfl rfl ?_
                      refine aj.goto (tgt := 5) dX2_tell_186 rfl ?_
                      refine aj.pick [0, 1, 3, 4, 5] rfl ?_
                      rw [bx_uu, va_up_self] at hA
                      exact ih (kk + 1) _ s1 _ M _ hre.symm hk1 hty1 hM1 (by rw [hst2]; simp at hdp ⊢; omega) (by omega) (by rw [hst2, hdp1, hdp2, hv.1, hv.2.1]; exact vst_push rfl hv.2.2) hA hrun
                · exact absurd c107 (by decide)
              · exact absurd c74 (by decide)
            · exact absurd c33 (by decide)
      · have hst2 : lwStep w0 3004 (y :: x :: r0) = lwBin 3004 x y :: r0 := rfl
        have hen : enc 3004 = -5 := rfl
        refine aj.iload dX2_tell_5 rfl ?_
        refine aj.aload_n dX2_tell_7 rfl ?_
        refine aj.get (i := 0) (cq := (RX2, TX2, 2)) dX2_tell_8 ((hA.2.1 lp hpo).trans hp) rfl (Nat.le_of_ble_eq_true rfl) w688 rfl ?_
        refine aj.iaN (hq.of (hA.2.1 lq hqo)) dX2_tell_11 ?_
        refine aj.icmp_geN (a := kk) (b := cs.length) (tgt := 189) dX2_tell_12 rfl rfl (by omega) (by omega) rfl (fun c12 => ?_) (fun c12 => ?_)
        · exact absurd c12 (by omega)
        · refine aj.aload_n dX2_tell_15 rfl ?_
          refine aj.get (i := 0) (cq := (RX2, TX2, 2)) dX2_tell_16 ((hA.2.1 lp hpo).trans hp) rfl (Nat.le_of_ble_eq_true rfl) w688 rfl ?_
          refine aj.iload dX2_tell_19 rfl ?_
          refine aj.iaL (j := kk) (hq.of (hA.2.1 lq hqo)) dX2_tell_21 rfl (by omega) hn31 ?_
          rw [hck, hen]
          refine aj.istore (lv' := [(5, .int (-5)), (4, .int (nI kk)), (3, .int (nI dp)), (0, .ref lp), (1, .ref (a + 50)), (2, .ref (a + 51))]) dX2_tell_22 (Nat.le_of_ble_eq_true rfl) rfl ?_
          refine aj.iload dX2_tell_24 rfl ?_
          refine aj.if_ge (tgt := 36) dX2_tell_26 rfl (fun c26 => ?_) (fun c26 => ?_)
          · exact absurd c26 (by decide)
          · refine aj.iload dX2_tell_29 rfl ?_
            refine aj.bipush (v := (-11)) dX2_tell_31 rfl ?_
            refine aj.icmp_gt (tgt := 70) dX2_tell_33 rfl (fun c33 => ?_) (fun c33 => ?_)
            · refine aj.iload dX2_tell_70 rfl ?_
              refine aj.bipush (v := (-9)) dX2_tell_72 rfl ?_
              refine aj.icmp_ne (tgt := 103) dX2_tell_74 rfl (fun c74 => ?_) (fun c74 => ?_)
              · refine aj.iload dX2_tell_103 rfl ?_
                refine aj.bipush (v := (-10)) dX2_tell_105 rfl ?_
                refine aj.icmp_ne (tgt := 151) dX2_tell_107 rfl (fun c107 => ?_) (fun c107 => ?_)
                · refine aj.iload_n dX2_tell_151 rfl ?_
                  refine aj.iconst (v := 2) dX2_tell_152 rfl ?_
                  refine aj.icmp_ltN (a := dp) (b := 2) (tgt := 183) dX2_tell_153 rfl rfl (by omega) (by omega) rfl (fun c153 => ?_) (fun c153 => ?_)
                  · exact absurd c153 (by omega)
                  · refine aj.iload_n dX2_tell_156 rfl ?_
                    refine aj.aload_n dX2_tell_157 rfl ?_
                    refine aj.kN (i := 51) (n := 64) (v := nI 64) rfl (by decide) (by decide) dX2_tell_158 hA rfl ?_
                    refine aj.icmp_gtN (a := dp) (b := 64) (tgt := 183) dX2_tell_159 rfl rfl (by omega) (by omega) rfl (fun c159 => ?_) (fun c159 => ?_)
                    · exact absurd c159 (by omega)
                    · refine aj.iinc (v := nI (dp - 1)) (lv' := [(3, .int (nI (dp - 1))), (5, .int (-5)), (4, .int (nI kk)), (0, .ref lp), (1, .ref (a + 50)), (2, .ref (a + 51))]) dX2_tell_162 rfl (Nat.le_of_ble_eq_true rfl) (z_dec (by omega)) rfl ?_
                      refine aj.aload_n dX2_tell_165 rfl ?_
                      refine aj.iload_n dX2_tell_166 rfl ?_
                      refine aj.iconst (v := 1) dX2_tell_167 rfl ?_
                      refine aj.isubN (a := dp - 1) (b := 1) dX2_tell_168 rfl rfl (by omega) ?_
                      refine aj.iload dX2_tell_169 rfl ?_
                      refine aj.aload_n dX2_tell_171 rfl ?_
                      refine aj.iload_n dX2_tell_172 rfl ?_
                      refine aj.iconst (v := 1) dX2_tell_173 rfl ?_
                      refine aj.isubN (a := dp - 1) (b := 1) dX2_tell_174 rfl rfl (by omega) ?_
                      refine aj.kL (i := 51) (j := (dp - 1) - 1) rfl dX2_tell_175 hA rfl (by omega) (by decide) ?_
                      refine aj.aload_n dX2_tell_176 rfl ?_
                      refine aj.iload_n dX2_tell_177 rfl ?_
                      refine aj.kL (i := 51) (j := dp - 1) rfl dX2_tell_178 hA rfl (by omega) (by decide) ?_
                      refine aj.callS1 (d' := 0) (As := [.int (-5), .int (v ((dp - 1) - 1)), .int (v (dp - 1))]) (rest := [.int (nI ((dp - 1) - 1)), .ref (a + 51)]) dX2_tell_179 v_X2_21 w780 rfl rfl (Nat.le_of_ble_eq_true rfl) (Nat.le_of_ble_eq_true rfl) (k_join_3004 _ (v ((dp - 1) - 1)) (v (dp - 1))) (fun M hM => ?_)
                      subst hM
                      refine aj.kS (i := 51) (j := (dp - 1) - 1) rfl dX2_tell_182 hA rfl (by omega) (by decide) (fun M hA => ?_)
                      refine aj.iincN (a := kk) (c := 1) (lv' := [(4, .int (nI (kk + 1))), (3, .int (nI (dp - 1))), (5, .int (-5)), (0, .ref lp), (1, .ref (a + 50)), (2, .ref (a + 51))]) dX2_tell_183 rfl (Nat.le_of_ble_eq_true rfl) rfl rfl rfl ?_
                      refine aj.goto (tgt := 5) dX2_tell_186 rfl ?_
                      refine aj.pick [0, 1, 3, 4, 5] rfl ?_
                      rw [bx_uu, va_up_self] at hA
                      exact ih (kk + 1) _ s1 _ M _ hre.symm hk1 hty1 hM1 (by rw [hst2]; simp at hdp ⊢; omega) (by omega) (by rw [hst2, hdp1, hdp2, hv.1, hv.2.1]; exact vst_push rfl hv.2.2) hA hrun
                · exact absurd c107 (by decide)
              · exact absurd c74 (by decide)
            · exact absurd c33 (by decide)
      · have hst2 : lwStep w0 3005 (y :: x :: r0) = lwBin 3005 x y :: r0 := rfl
        have hen : enc 3005 = -6 := rfl
        refine aj.iload dX2_tell_5 rfl ?_
        refine aj.aload_n dX2_tell_7 rfl ?_
        refine aj.get (i := 0) (cq := (RX2, TX2, 2)) dX2_tell_8 ((hA.2.1 lp hpo).trans hp) rfl (Nat.le_of_ble_eq_true rfl) w688 rfl ?_
        refine aj.iaN (hq.of (hA.2.1 lq hqo)) dX2_tell_11 ?_
        refine aj.icmp_geN (a := kk) (b := cs.length) (tgt := 189) dX2_tell_12 rfl rfl (by omega) (by omega) rfl (fun c12 => ?_) (fun c12 => ?_)
        · exact absurd c12 (by omega)
        · refine aj.aload_n dX2_tell_15 rfl ?_
          refine aj.get (i := 0) (cq := (RX2, TX2, 2)) dX2_tell_16 ((hA.2.1 lp hpo).trans hp) rfl (Nat.le_of_ble_eq_true rfl) w688 rfl ?_
          refine aj.iload dX2_tell_19 rfl ?_
          refine aj.iaL (j := kk) (hq.of (hA.2.1 lq hqo)) dX2_tell_21 rfl (by omega) hn31 ?_
          rw [hck, hen]
          refine aj.istore (lv' := [(5, .int (-6)), (4, .int (nI kk)), (3, .int (nI dp)), (0, .ref lp), (1, .ref (a + 50)), (2, .ref (a + 51))]) dX2_tell_22 (Nat.le_of_ble_eq_true rfl) rfl ?_
          refine aj.iload dX2_tell_24 rfl ?_
          refine aj.if_ge (tgt := 36) dX2_tell_26 rfl (fun c26 => ?_) (fun c26 => ?_)
          · exact absurd c26 (by decide)
          · refine aj.iload dX2_tell_29 rfl ?_
            refine aj.bipush (v := (-11)) dX2_tell_31 rfl ?_
            refine aj.icmp_gt (tgt := 70) dX2_tell_33 rfl (fun c33 => ?_) (fun c33 => ?_)
            · refine aj.iload dX2_tell_70 rfl ?_
              refine aj.bipush (v := (-9)) dX2_tell_72 rfl ?_
              refine aj.icmp_ne (tgt := 103) dX2_tell_74 rfl (fun c74 => ?_) (fun c74 => ?_)
              · refine aj.iload dX2_tell_103 rfl ?_
                refine aj.bipush (v := (-10)) dX2_tell_105 rfl ?_
                refine aj.icmp_ne (tgt := 151) dX2_tell_107 rfl (fun c107 => ?_) (fun c107 => ?_)
                · refine aj.iload_n dX2_tell_151 rfl ?_
                  refine aj.iconst (v := 2) dX2_tell_152 rfl ?_
                  refine aj.icmp_ltN (a := dp) (b := 2) (tgt := 183) dX2_tell_153 rfl rfl (by omega) (by omega) rfl (fun c153 => ?_) (fun c153 => ?_)
                  · exact absurd c153 (by omega)
                  · refine aj.iload_n dX2_tell_156 rfl ?_
                    refine aj.aload_n dX2_tell_157 rfl ?_
                    refine aj.kN (i := 51) (n := 64) (v := nI 64) rfl (by decide) (by decide) dX2_tell_158 hA rfl ?_
                    refine aj.icmp_gtN (a := dp) (b := 64) (tgt := 183) dX2_tell_159 rfl rfl (by omega) (by omega) rfl (fun c159 => ?_) (fun c159 => ?_)
                    · exact absurd c159 (by omega)
                    · refine aj.iinc (v := nI (dp - 1)) (lv' := [(3, .int (nI (dp - 1))), (5, .int (-6)), (4, .int (nI kk)), (0, .ref lp), (1, .ref (a + 50)), (2, .ref (a + 51))]) dX2_tell_162 rfl (Nat.le_of_ble_eq_true rfl) (z_dec (by omega)) rfl ?_
                      refine aj.aload_n dX2_tell_165 rfl ?_
                      refine aj.iload_n dX2_tell_166 rfl ?_
                      refine aj.iconst (v := 1) dX2_tell_167 rfl ?_
                      refine aj.isubN (a := dp - 1) (b := 1) dX2_tell_168 rfl rfl (by omega) ?_
                      refine aj.iload dX2_tell_169 rfl ?_
                      refine aj.aload_n dX2_tell_171 rfl ?_
                      refine aj.iload_n dX2_tell_172 rfl ?_
                      refine aj.iconst (v := 1) dX2_tell_173 rfl ?_
                      refine aj.isubN (a := dp - 1) (b := 1) dX2_tell_174 rfl rfl (by omega) ?_
                      refine aj.kL (i := 51) (j := (dp - 1) - 1) rfl dX2_tell_175 hA rfl (by omega) (by decide) ?_
                      refine aj.aload_n dX2_tell_176 rfl ?_
                      refine aj.iload_n dX2_tell_177 rfl ?_
                      refine aj.kL (i := 51) (j := dp - 1) rfl dX2_tell_178 hA rfl (by omega) (by decide) ?_
                      refine aj.callS1 (d' := 0) (As := [.int (-6), .int (v ((dp - 1) - 1)), .int (v (dp - 1))]) (rest := [.int (nI ((dp - 1) - 1)), .ref (a + 51)]) dX2_tell_179 v_X2_21 w780 rfl rfl (Nat.le_of_ble_eq_true rfl) (Nat.le_of_ble_eq_true rfl) (k_join_3005 _ (v ((dp - 1) - 1)) (v (dp - 1))) (fun M hM => ?_)
                      subst hM
                      refine aj.kS (i := 51) (j := (dp - 1) - 1) rfl dX2_tell_182 hA rfl (by omega) (by decide) (fun M hA => ?_)
                      refine aj.iincN (a := kk) (c := 1) (lv' := [(4, .int (nI (kk + 1))), (3, .int (nI (dp - 1))), (5, .int (-6)), (0, .ref lp), (1, .ref (a + 50)), (2, .ref (a + 51))]) dX2_tell_183 rfl (Nat.le_of_ble_eq_true rfl) rfl rfl rfl ?_
                      refine aj.goto (tgt := 5) dX2_tell_186 rfl ?_
                      refine aj.pick [0, 1, 3, 4, 5] rfl ?_
                      rw [bx_uu, va_up_self] at hA
                      exact ih (kk + 1) _ s1 _ M _ hre.symm hk1 hty1 hM1 (by rw [hst2]; simp at hdp ⊢; omega) (by omega) (by rw [hst2, hdp1, hdp2, hv.1, hv.2.1]; exact vst_push rfl hv.2.2) hA hrun
                · exact absurd c107 (by decide)
              · exact absurd c74 (by decide)
            · exact absurd c33 (by decide)
    · obtain ⟨x, r0, rfl, -, -⟩ := hst
      subst hc
      have hst2 : lwStep w0 3006 (x :: r0) = (1 - x) :: r0 := rfl
      have hen : enc 3006 = -9 := rfl
      have hdp1 : dp - 1 = r0.length := by simp at hdp; omega
      have hdp0 : 1 ≤ dp := by simp at hdp; omega
      refine aj.iload dX2_tell_5 rfl ?_
      refine aj.aload_n dX2_tell_7 rfl ?_
      refine aj.get (i := 0) (cq := (RX2, TX2, 2)) dX2_tell_8 ((hA.2.1 lp hpo).trans hp) rfl (Nat.le_of_ble_eq_true rfl) w688 rfl ?_
      refine aj.iaN (hq.of (hA.2.1 lq hqo)) dX2_tell_11 ?_
      refine aj.icmp_geN (a := kk) (b := cs.length) (tgt := 189) dX2_tell_12 rfl rfl (by omega) (by omega) rfl (fun c12 => ?_) (fun c12 => ?_)
      · exact absurd c12 (by omega)
      · refine aj.aload_n dX2_tell_15 rfl ?_
        refine aj.get (i := 0) (cq := (RX2, TX2, 2)) dX2_tell_16 ((hA.2.1 lp hpo).trans hp) rfl (Nat.le_of_ble_eq_true rfl) w688 rfl ?_
        refine aj.iload dX2_tell_19 rfl ?_
        refine aj.iaL (j := kk) (hq.of (hA.2.1 lq hqo)) dX2_tell_21 rfl (by omega) hn31 ?_
        rw [hck, hen]
        refine aj.istore (lv' := [(5, .int (-9)), (4, .int (nI kk)), (3, .int (nI dp)), (0, .ref lp), (1, .ref (a + 50)), (2, .ref (a + 51))]) dX2_tell_22 (Nat.le_of_ble_eq_true rfl) rfl ?_
        refine aj.iload dX2_tell_24 rfl ?_
        refine aj.if_ge (tgt := 36) dX2_tell_26 rfl (fun c26 => ?_) (fun c26 => ?_)
        · exact absurd c26 (by decide)
        · refine aj.iload dX2_tell_29 rfl ?_
          refine aj.bipush (v := (-11)) dX2_tell_31 rfl ?_
          refine aj.icmp_gt (tgt := 70) dX2_tell_33 rfl (fun c33 => ?_) (fun c33 => ?_)
          · refine aj.iload dX2_tell_70 rfl ?_
            refine aj.bipush (v := (-9)) dX2_tell_72 rfl ?_
            refine aj.icmp_ne (tgt := 103) dX2_tell_74 rfl (fun c74 => ?_) (fun c74 => ?_)
            · exact absurd c74 (by decide)
            · refine aj.iload_n dX2_tell_77 rfl ?_
              refine aj.iconst (v := 1) dX2_tell_78 rfl ?_
              refine aj.icmp_ltN (a := dp) (b := 1) (tgt := 183) dX2_tell_79 rfl rfl (by omega) (by omega) rfl (fun c79 => ?_) (fun c79 => ?_)
              · exact absurd c79 (by omega)
              · refine aj.iload_n dX2_tell_82 rfl ?_
                refine aj.aload_n dX2_tell_83 rfl ?_
                refine aj.kN (i := 51) (n := 64) (v := nI 64) rfl (by decide) (by decide) dX2_tell_84 hA rfl ?_
                refine aj.icmp_gtN (a := dp) (b := 64) (tgt := 183) dX2_tell_85 rfl rfl (by omega) (by omega) rfl (fun c85 => ?_) (fun c85 => ?_)
                · exact absurd c85 (by omega)
                · refine aj.aload_n dX2_tell_88 rfl ?_
                  refine aj.iload_n dX2_tell_89 rfl ?_
                  refine aj.iconst (v := 1) dX2_tell_90 rfl ?_
                  refine aj.isubN (a := dp) (b := 1) dX2_tell_91 rfl rfl (by omega) ?_
                  refine aj.iconst (v := 1) dX2_tell_92 rfl ?_
                  refine aj.aload_n dX2_tell_93 rfl ?_
                  refine aj.iload_n dX2_tell_94 rfl ?_
                  refine aj.iconst (v := 1) dX2_tell_95 rfl ?_
                  refine aj.isubN (a := dp) (b := 1) dX2_tell_96 rfl rfl (by omega) ?_
                  refine aj.kL (i := 51) (j := dp - 1) rfl dX2_tell_97 hA rfl (by omega) (by decide) ?_
                  refine aj.isub dX2_tell_98 ?_
                  refine aj.kS (i := 51) (j := dp - 1) rfl dX2_tell_99 hA rfl (by omega) (by decide) (fun M hA => ?_)
                  refine aj.goto (tgt := 183) dX2_tell_100 rfl ?_
                  refine aj.iincN (a := kk) (c := 1) (lv' := [(4, .int (nI (kk + 1))), (5, .int (-9)), (3, .int (nI dp)), (0, .ref lp), (1, .ref (a + 50)), (2, .ref (a + 51))]) dX2_tell_183 rfl (Nat.le_of_ble_eq_true rfl) rfl rfl rfl ?_
                  refine aj.goto (tgt := 5) dX2_tell_186 rfl ?_
                  refine aj.pick [0, 2, 3, 4, 5] rfl ?_
                  rw [bx_uu, va_up_self] at hA
                  exact ih (kk + 1) _ s1 _ M _ hre.symm hk1 hty1 hM1 (by rw [hst2]; simp at hdp ⊢; omega) (by omega) (by rw [hst2, hdp1, hv.1]; exact vst_push rfl hv.2) hA hrun
          · exact absurd c33 (by decide)
    · obtain ⟨y, r1, rfl, -, x, r0, rfl, -⟩ := hst
      have hdp1 : dp - 1 - 1 = r0.length := by simp at hdp; omega
      have hdp2 : dp - 1 = (x :: r0).length := by simp at hdp ⊢; omega
      have hdp0 : 2 ≤ dp := by simp at hdp; omega
      rcases hc with rfl | rfl
      · have hst2 : lwStep w0 3007 (y :: x :: r0) = lwBin 3007 x y :: r0 := rfl
        have hen : enc 3007 = -7 := rfl
        refine aj.iload dX2_tell_5 rfl ?_
        refine aj.aload_n dX2_tell_7 rfl ?_
        refine aj.get (i := 0) (cq := (RX2, TX2, 2)) dX2_tell_8 ((hA.2.1 lp hpo).trans hp) rfl (Nat.le_of_ble_eq_true rfl) w688 rfl ?_
        refine aj.iaN (hq.of (hA.2.1 lq hqo)) dX2_tell_11 ?_
        refine aj.icmp_geN (a := kk) (b := cs.length) (tgt := 189) dX2_tell_12 rfl rfl (by omega) (by omega) rfl (fun c12 => ?_) (fun c12 => ?_)
        · exact absurd c12 (by omega)
        · refine aj.aload_n dX2_tell_15 rfl ?_
          refine aj.get (i := 0) (cq := (RX2, TX2, 2)) dX2_tell_16 ((hA.2.1 lp hpo).trans hp) rfl (Nat.le_of_ble_eq_true rfl) w688 rfl ?_
          refine aj.iload dX2_tell_19 rfl ?_
          refine aj.iaL (j := kk) (hq.of (hA.2.1 lq hqo)) dX2_tell_21 rfl (by omega) hn31 ?_
          rw [hck, hen]
          refine aj.istore (lv' := [(5, .int (-7)), (4, .int (nI kk)), (3, .int (nI dp)), (0, .ref lp), (1, .ref (a + 50)), (2, .ref (a + 51))]) dX2_tell_22 (Nat.le_of_ble_eq_true rfl) rfl ?_
          refine aj.iload dX2_tell_24 rfl ?_
          refine aj.if_ge (tgt := 36) dX2_tell_26 rfl (fun c26 => ?_) (fun c26 => ?_)
          · exact absurd c26 (by decide)
          · refine aj.iload dX2_tell_29 rfl ?_
            refine aj.bipush (v := (-11)) dX2_tell_31 rfl ?_
            refine aj.icmp_gt (tgt := 70) dX2_tell_33 rfl (fun c33 => ?_) (fun c33 => ?_)
            · refine aj.iload dX2_tell_70 rfl ?_
              refine aj.bipush (v := (-9)) dX2_tell_72 rfl ?_
              refine aj.icmp_ne (tgt := 103) dX2_tell_74 rfl (fun c74 => ?_) (fun c74 => ?_)
              · refine aj.iload dX2_tell_103 rfl ?_
                refine aj.bipush (v := (-10)) dX2_tell_105 rfl ?_
                refine aj.icmp_ne (tgt := 151) dX2_tell_107 rfl (fun c107 => ?_) (fun c107 => ?_)
                · refine aj.iload_n dX2_tell_151 rfl ?_
                  refine aj.iconst (v := 2) dX2_tell_152 rfl ?_
                  refine aj.icmp_ltN (a := dp) (b := 2) (tgt := 183) dX2_tell_153 rfl rfl (by omega) (by omega) rfl (fun c153 => ?_) (fun c153 => ?_)
                  · exact absurd c153 (by omega)
                  · refine aj.iload_n dX2_tell_156 rfl ?_
                    refine aj.aload_n dX2_tell_157 rfl ?_
                    refine aj.kN (i := 51) (n := 64) (v := nI 64) rfl (by decide) (by decide) dX2_tell_158 hA rfl ?_
                    refine aj.icmp_gtN (a := dp) (b := 64) (tgt := 183) dX2_tell_159 rfl rfl (by omega) (by omega) rfl (fun c159 => ?_) (fun c159 => ?_)
                    · exact absurd c159 (by omega)
                    · refine aj.iinc (v := nI (dp - 1)) (lv' := [(3, .int (nI (dp - 1))), (5, .int (-7)), (4, .int (nI kk)), (0, .ref lp), (1, .ref (a + 50)), (2, .ref (a + 51))]) dX2_tell_162 rfl (Nat.le_of_ble_eq_true rfl) (z_dec (by omega)) rfl ?_
                      refine aj.aload_n dX2_tell_165 rfl ?_
                      refine aj.iload_n dX2_tell_166 rfl ?_
                      refine aj.iconst (v := 1) dX2_tell_167 rfl ?_
                      refine aj.isubN (a := dp - 1) (b := 1) dX2_tell_168 rfl rfl (by omega) ?_
                      refine aj.iload dX2_tell_169 rfl ?_
                      refine aj.aload_n dX2_tell_171 rfl ?_
                      refine aj.iload_n dX2_tell_172 rfl ?_
                      refine aj.iconst (v := 1) dX2_tell_173 rfl ?_
                      refine aj.isubN (a := dp - 1) (b := 1) dX2_tell_174 rfl rfl (by omega) ?_
                      refine aj.kL (i := 51) (j := (dp - 1) - 1) rfl dX2_tell_175 hA rfl (by omega) (by decide) ?_
                      refine aj.aload_n dX2_tell_176 rfl ?_
                      refine aj.iload_n dX2_tell_177 rfl ?_
                      refine aj.kL (i := 51) (j := dp - 1) rfl dX2_tell_178 hA rfl (by omega) (by decide) ?_
                      refine aj.callS1 (d' := 0) (As := [.int (-7), .int (v ((dp - 1) - 1)), .int (v (dp - 1))]) (rest := [.int (nI ((dp - 1) - 1)), .ref (a + 51)]) dX2_tell_179 v_X2_21 w780 rfl rfl (Nat.le_of_ble_eq_true rfl) (Nat.le_of_ble_eq_true rfl) (k_join_3007 _ (v ((dp - 1) - 1)) (v (dp - 1))) (fun M hM => ?_)
                      subst hM
                      refine aj.kS (i := 51) (j := (dp - 1) - 1) rfl dX2_tell_182 hA rfl (by omega) (by decide) (fun M hA => ?_)
                      refine aj.iincN (a := kk) (c := 1) (lv' := [(4, .int (nI (kk + 1))), (3, .int (nI (dp - 1))), (5, .int (-7)), (0, .ref lp), (1, .ref (a + 50)), (2, .ref (a + 51))]) dX2_tell_183 rfl (Nat.le_of_ble_eq_true rfl) rfl rfl rfl ?_
                      refine aj.goto (tgt := 5) dX2_tell_186 rfl ?_
                      refine aj.pick [0, 1, 3, 4, 5] rfl ?_
                      rw [bx_uu, va_up_self] at hA
                      exact ih (kk + 1) _ s1 _ M _ hre.symm hk1 hty1 hM1 (by rw [hst2]; simp at hdp ⊢; omega) (by omega) (by rw [hst2, hdp1, hdp2, hv.1, hv.2.1]; exact vst_push rfl hv.2.2) hA hrun
                · exact absurd c107 (by decide)
              · exact absurd c74 (by decide)
            · exact absurd c33 (by decide)
      · have hst2 : lwStep w0 3008 (y :: x :: r0) = lwBin 3008 x y :: r0 := rfl
        have hen : enc 3008 = -8 := rfl
        refine aj.iload dX2_tell_5 rfl ?_
        refine aj.aload_n dX2_tell_7 rfl ?_
        refine aj.get (i := 0) (cq := (RX2, TX2, 2)) dX2_tell_8 ((hA.2.1 lp hpo).trans hp) rfl (Nat.le_of_ble_eq_true rfl) w688 rfl ?_
        refine aj.iaN (hq.of (hA.2.1 lq hqo)) dX2_tell_11 ?_
        refine aj.icmp_geN (a := kk) (b := cs.length) (tgt := 189) dX2_tell_12 rfl rfl (by omega) (by omega) rfl (fun c12 => ?_) (fun c12 => ?_)
        · exact absurd c12 (by omega)
        · refine aj.aload_n dX2_tell_15 rfl ?_
          refine aj.get (i := 0) (cq := (RX2, TX2, 2)) dX2_tell_16 ((hA.2.1 lp hpo).trans hp) rfl (Nat.le_of_ble_eq_true rfl) w688 rfl ?_
          refine aj.iload dX2_tell_19 rfl ?_
          refine aj.iaL (j := kk) (hq.of (hA.2.1 lq hqo)) dX2_tell_21 rfl (by omega) hn31 ?_
          rw [hck, hen]
          refine aj.istore (lv' := [(5, .int (-8)), (4, .int (nI kk)), (3, .int (nI dp)), (0, .ref lp), (1, .ref (a + 50)), (2, .ref (a + 51))]) dX2_tell_22 (Nat.le_of_ble_eq_true rfl) rfl ?_
          refine aj.iload dX2_tell_24 rfl ?_
          refine aj.if_ge (tgt := 36) dX2_tell_26 rfl (fun c26 => ?_) (fun c26 => ?_)
          · exact absurd c26 (by decide)
          · refine aj.iload dX2_tell_29 rfl ?_
            refine aj.bipush (v := (-11)) dX2_tell_31 rfl ?_
            refine aj.icmp_gt (tgt := 70) dX2_tell_33 rfl (fun c33 => ?_) (fun c33 => ?_)
            · refine aj.iload dX2_tell_70 rfl ?_
              refine aj.bipush (v := (-9)) dX2_tell_72 rfl ?_
              refine aj.icmp_ne (tgt := 103) dX2_tell_74 rfl (fun c74 => ?_) (fun c74 => ?_)
              · refine aj.iload dX2_tell_103 rfl ?_
                refine aj.bipush (v := (-10)) dX2_tell_105 rfl ?_
                refine aj.icmp_ne (tgt := 151) dX2_tell_107 rfl (fun c107 => ?_) (fun c107 => ?_)
                · refine aj.iload_n dX2_tell_151 rfl ?_
                  refine aj.iconst (v := 2) dX2_tell_152 rfl ?_
                  refine aj.icmp_ltN (a := dp) (b := 2) (tgt := 183) dX2_tell_153 rfl rfl (by omega) (by omega) rfl (fun c153 => ?_) (fun c153 => ?_)
                  · exact absurd c153 (by omega)
                  · refine aj.iload_n dX2_tell_156 rfl ?_
                    refine aj.aload_n dX2_tell_157 rfl ?_
                    refine aj.kN (i := 51) (n := 64) (v := nI 64) rfl (by decide) (by decide) dX2_tell_158 hA rfl ?_
                    refine aj.icmp_gtN (a := dp) (b := 64) (tgt := 183) dX2_tell_159 rfl rfl (by omega) (by omega) rfl (fun c159 => ?_) (fun c159 => ?_)
                    · exact absurd c159 (by omega)
                    · refine aj.iinc (v := nI (dp - 1)) (lv' := [(3, .int (nI (dp - 1))), (5, .int (-8)), (4, .int (nI kk)), (0, .ref lp), (1, .ref (a + 50)), (2, .ref (a + 51))]) dX2_tell_162 rfl (Nat.le_of_ble_eq_true rfl) (z_dec (by omega)) rfl ?_
                      refine aj.aload_n dX2_tell_165 rfl ?_
                      refine aj.iload_n dX2_tell_166 rfl ?_
                      refine aj.iconst (v := 1) dX2_tell_167 rfl ?_
                      refine aj.isubN (a := dp - 1) (b := 1) dX2_tell_168 rfl rfl (by omega) ?_
                      refine aj.iload dX2_tell_169 rfl ?_
                      refine aj.aload_n dX2_tell_171 rfl ?_
                      refine aj.iload_n dX2_tell_172 rfl ?_
                      refine aj.iconst (v := 1) dX2_tell_173 rfl ?_
                      refine aj.isubN (a := dp - 1) (b := 1) dX2_tell_174 rfl rfl (by omega) ?_
                      refine aj.kL (i := 51) (j := (dp - 1) - 1) rfl dX2_tell_175 hA rfl (by omega) (by decide) ?_
                      refine aj.aload_n dX2_tell_176 rfl ?_
                      refine aj.iload_n dX2_tell_177 rfl ?_
                      refine aj.kL (i := 51) (j := dp - 1) rfl dX2_tell_178 hA rfl (by omega) (by decide) ?_
                      refine aj.callS1 (d' := 0) (As := [.int (-8), .int (v ((dp - 1) - 1)), .int (v (dp - 1))]) (rest := [.int (nI ((dp - 1) - 1)), .ref (a + 51)]) dX2_tell_179 v_X2_21 w780 rfl rfl (Nat.le_of_ble_eq_true rfl) (Nat.le_of_ble_eq_true rfl) (k_join_3008 _ (v ((dp - 1) - 1)) (v (dp - 1))) (fun M hM => ?_)
                      subst hM
                      refine aj.kS (i := 51) (j := (dp - 1) - 1) rfl dX2_tell_182 hA rfl (by omega) (by decide) (fun M hA => ?_)
                      refine aj.iincN (a := kk) (c := 1) (lv' := [(4, .int (nI (kk + 1))), (3, .int (nI (dp - 1))), (5, .int (-8)), (0, .ref lp), (1, .ref (a + 50)), (2, .ref (a + 51))]) dX2_tell_183 rfl (Nat.le_of_ble_eq_true rfl) rfl rfl rfl ?_
                      refine aj.goto (tgt := 5) dX2_tell_186 rfl ?_
                      refine aj.pick [0, 1, 3, 4, 5] rfl ?_
                      rw [bx_uu, va_up_self] at hA
                      exact ih (kk + 1) _ s1 _ M _ hre.symm hk1 hty1 hM1 (by rw [hst2]; simp at hdp ⊢; omega) (by omega) (by rw [hst2, hdp1, hdp2, hv.1, hv.2.1]; exact vst_push rfl hv.2.2) hA hrun
                · exact absurd c107 (by decide)
              · exact absurd c74 (by decide)
            · exact absurd c33 (by decide)
    · obtain ⟨y, r1, rfl, -, x, r3, rfl, -, tt, r0, rfl, h01, -⟩ := hst
      subst hc
      have h01 := h01 rfl
      have hst2 : lwStep w0 3009 (y :: x :: tt :: r0) = (if tt = 1 then x else y) :: r0 := rfl
      have hen : enc 3009 = -10 := rfl
      have hdp1 : dp - 2 - 1 = r0.length := by simp at hdp; omega
      have hdp2 : dp - 2 = (tt :: r0).length := by simp at hdp ⊢; omega
      have hdp3 : dp - 2 + 1 = (x :: tt :: r0).length := by simp at hdp ⊢; omega
      have hdp0 : 3 ≤ dp := by simp at hdp; omega
      refine aj.iload dX2_tell_5 rfl ?_
      refine aj.aload_n dX2_tell_7 rfl ?_
      refine aj.get (i := 0) (cq := (RX2, TX2, 2)) dX2_tell_8 ((hA.2.1 lp hpo).trans hp) rfl (Nat.le_of_ble_eq_true rfl) w688 rfl ?_
      refine aj.iaN (hq.of (hA.2.1 lq hqo)) dX2_tell_11 ?_
      refine aj.icmp_geN (a := kk) (b := cs.length) (tgt := 189) dX2_tell_12 rfl rfl (by omega) (by omega) rfl (fun c12 => ?_) (fun c12 => ?_)
      · exact absurd c12 (by omega)
      · refine aj.aload_n dX2_tell_15 rfl ?_
        refine aj.get (i := 0) (cq := (RX2, TX2, 2)) dX2_tell_16 ((hA.2.1 lp hpo).trans hp) rfl (Nat.le_of_ble_eq_true rfl) w688 rfl ?_
        refine aj.iload dX2_tell_19 rfl ?_
        refine aj.iaL (j := kk) (hq.of (hA.2.1 lq hqo)) dX2_tell_21 rfl (by omega) hn31 ?_
        rw [hck, hen]
        refine aj.istore (lv' := [(5, .int (-10)), (4, .int (nI kk)), (3, .int (nI dp)), (0, .ref lp), (1, .ref (a + 50)), (2, .ref (a + 51))]) dX2_tell_22 (Nat.le_of_ble_eq_true rfl) rfl ?_
        refine aj.iload dX2_tell_24 rfl ?_
        refine aj.if_ge (tgt := 36) dX2_tell_26 rfl (fun c26 => ?_) (fun c26 => ?_)
        · exact absurd c26 (by decide)
        · refine aj.iload dX2_tell_29 rfl ?_
          refine aj.bipush (v := (-11)) dX2_tell_31 rfl ?_
          refine aj.icmp_gt (tgt := 70) dX2_tell_33 rfl (fun c33 => ?_) (fun c33 => ?_)
          · refine aj.iload dX2_tell_70 rfl ?_
            refine aj.bipush (v := (-9)) dX2_tell_72 rfl ?_
            refine aj.icmp_ne (tgt := 103) dX2_tell_74 rfl (fun c74 => ?_) (fun c74 => ?_)
            · refine aj.iload dX2_tell_103 rfl ?_
              refine aj.bipush (v := (-10)) dX2_tell_105 rfl ?_
              refine aj.icmp_ne (tgt := 151) dX2_tell_107 rfl (fun c107 => ?_) (fun c107 => ?_)
              · exact absurd c107 (by decide)
              · refine aj.iload_n dX2_tell_110 rfl ?_
                refine aj.iconst (v := 3) dX2_tell_111 rfl ?_
                refine aj.icmp_ltN (a := dp) (b := 3) (tgt := 183) dX2_tell_112 rfl rfl (by omega) (by omega) rfl (fun c112 => ?_) (fun c112 => ?_)
                · exact absurd c112 (by omega)
                · refine aj.iload_n dX2_tell_115 rfl ?_
                  refine aj.aload_n dX2_tell_116 rfl ?_
                  refine aj.kN (i := 51) (n := 64) (v := nI 64) rfl (by decide) (by decide) dX2_tell_117 hA rfl ?_
                  refine aj.icmp_gtN (a := dp) (b := 64) (tgt := 183) dX2_tell_118 rfl rfl (by omega) (by omega) rfl (fun c118 => ?_) (fun c118 => ?_)
                  · exact absurd c118 (by omega)
                  · refine aj.iinc (v := nI (dp - 2)) (lv' := [(3, .int (nI (dp - 2))), (5, .int (-10)), (4, .int (nI kk)), (0, .ref lp), (1, .ref (a + 50)), (2, .ref (a + 51))]) dX2_tell_121 rfl (Nat.le_of_ble_eq_true rfl) (z_dec2 (by omega)) rfl ?_
                    refine aj.aload_n dX2_tell_124 rfl ?_
                    refine aj.iload_n dX2_tell_125 rfl ?_
                    refine aj.iconst (v := 1) dX2_tell_126 rfl ?_
                    refine aj.isubN (a := dp - 2) (b := 1) dX2_tell_127 rfl rfl (by omega) ?_
                    refine aj.aload_n dX2_tell_128 rfl ?_
                    refine aj.iload_n dX2_tell_129 rfl ?_
                    refine aj.iconst (v := 1) dX2_tell_130 rfl ?_
                    refine aj.isubN (a := dp - 2) (b := 1) dX2_tell_131 rfl rfl (by omega) ?_
                    refine aj.kL (i := 51) (j := (dp - 2) - 1) rfl dX2_tell_132 hA rfl (by omega) (by decide) ?_
                    refine aj.if_eq (tgt := 142) dX2_tell_133 rfl (fun c133 => ?_) (fun c133 => ?_)
                    · refine aj.aload_n dX2_tell_142 rfl ?_
                      refine aj.iload_n dX2_tell_143 rfl ?_
                      refine aj.iconst (v := 1) dX2_tell_144 rfl ?_
                      refine aj.iaddN (a := dp - 2) (b := 1) dX2_tell_145 rfl rfl ?_
                      refine aj.kL (i := 51) (j := (dp - 2) + 1) rfl dX2_tell_146 hA rfl (by omega) (by decide) ?_
                      refine aj.kS (i := 51) (j := (dp - 2) - 1) rfl dX2_tell_147 hA rfl (by omega) (by decide) (fun M hA => ?_)
                      refine aj.goto (tgt := 183) dX2_tell_148 rfl ?_
                      refine aj.iincN (a := kk) (c := 1) (lv' := [(4, .int (nI (kk + 1))), (3, .int (nI (dp - 2))), (5, .int (-10)), (0, .ref lp), (1, .ref (a + 50)), (2, .ref (a + 51))]) dX2_tell_183 rfl (Nat.le_of_ble_eq_true rfl) rfl rfl rfl ?_
                      refine aj.goto (tgt := 5) dX2_tell_186 rfl ?_
                      refine aj.pick [0, 1, 3, 4, 5] rfl ?_
                      rw [bx_uu, va_up_self] at hA
                      exact ih (kk + 1) _ s1 _ M _ hre.symm hk1 hty1 hM1 (by rw [hst2]; simp at hdp ⊢; omega) (by omega) (by rw [hst2, hdp1]; rw [if_neg (by rw [← hv.2.2.1, ← hdp1]; intro z; rw [va_up_self] at c133; exact absurd (z.symm.trans c133) (by decide)), hdp3, hv.1]; exact vst_push rfl hv.2.2.2) hA hrun
                    · refine aj.aload_n dX2_tell_136 rfl ?_
                      refine aj.iload_n dX2_tell_137 rfl ?_
                      refine aj.kL (i := 51) (j := dp - 2) rfl dX2_tell_138 hA rfl (by omega) (by decide) ?_
                      refine aj.goto (tgt := 147) dX2_tell_139 rfl ?_
                      refine aj.kS (i := 51) (j := (dp - 2) - 1) rfl dX2_tell_147 hA rfl (by omega) (by decide) (fun M hA => ?_)
                      refine aj.goto (tgt := 183) dX2_tell_148 rfl ?_
                      refine aj.iincN (a := kk) (c := 1) (lv' := [(4, .int (nI (kk + 1))), (3, .int (nI (dp - 2))), (5, .int (-10)), (0, .ref lp), (1, .ref (a + 50)), (2, .ref (a + 51))]) dX2_tell_183 rfl (Nat.le_of_ble_eq_true rfl) rfl rfl rfl ?_
                      refine aj.goto (tgt := 5) dX2_tell_186 rfl ?_
                      refine aj.pick [0, 1, 3, 4, 5] rfl ?_
                      rw [bx_uu, va_up_self] at hA
                      exact ih (kk + 1) _ s1 _ M _ hre.symm hk1 hty1 hM1 (by rw [hst2]; simp at hdp ⊢; omega) (by omega) (by rw [hst2, hdp1]; rw [if_pos (h01.resolve_left (fun z => c133 (by rw [va_up_self, hdp1, hv.2.2.1]; exact z))), hdp2, hv.2.1]; exact vst_push rfl hv.2.2.2) hA hrun
            · exact absurd c74 (by decide)
          · exact absurd c33 (by decide)
theorem k_tell {G : zG} {l : Launch} {a : Nat} {M0 M : zM} {V : Nat → Nat → Int32} {W : Nat → Nat → Int64} {R : Nat → Nat → Option Nat} {lp lq : Nat} {cs : List Nat} {nm : Int32} {w0 : Nat → Int32} {t : Bool} (hpo : kOut a lp) (hqo : kOut a lq) (hp : M0.1 lp = some (.inr (2, [.ref lq, .int nm]))) (hq : ia M0 lq cs.length (fun j => enc (cs.getD j 0))) (hn31 : cs.length < 2 ^ 31) (hw : ∀ c ∈ cs, 1000 ≤ c → c < 3000 → V 50 (cwN (c - 1000)) = w0 (c - 1000)) (hty : lwTys cs [] = some [t]) (hA : kA a M0 M V W R) : am G l kX2_tell 1 [.ref lp, .ref (a + 50), .ref (a + 51)] M 0 0 (zr (.int ((lwRun w0 cs []).headD 0)) (fun M' => ∃ v', kA a M0 M' (va_up V 51 v') W R)) := by
  refine am.of (by decide) (Nat.le_of_ble_eq_true rfl) ?_
  refine aj.iconst (v := 0) dX2_tell_0 rfl ?_
  refine aj.istore_n (lv' := [(3, .int 0), (0, .ref lp), (1, .ref (a + 50)), (2, .ref (a + 51))]) dX2_tell_1 (Nat.le_of_ble_eq_true rfl) rfl ?_
  refine aj.iconst (v := 0) dX2_tell_2 rfl ?_
  refine aj.istore (lv' := [(4, .int 0), (3, .int 0), (0, .ref lp), (1, .ref (a + 50)), (2, .ref (a + 51))]) dX2_tell_3 (Nat.le_of_ble_eq_true rfl) rfl ?_
  refine aj.pick [0, 1, 2, 3, 4] rfl ?_
  exact tell_loop hpo hqo hp hq hn31 hw cs 0 [] [] (V 51) M 0 rfl (by omega) hty rfl rfl (by omega) trivial (by rw [va_upI]; exact hA) rfl
