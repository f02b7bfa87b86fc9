def zch : List (List Nat) := [[98, 117, 116, 116, 32, 101, 121, 101, 32, 116, 111, 112, 32, 102, 97, 108, 108, 115, 32, 99, 111, 115, 116, 32, 115, 104, 111, 111, 116, 101, 114, 32, 115, 104, 97, 107, 101, 32, 119, 105, 110, 100, 32, 115, 116, 114, 97, 121, 115, 32, 111, 112, 101, 110, 115, 32, 111, 114, 32, 97, 110, 100, 32, 110, 111, 116, 32, 105, 102, 32, 116, 104, 101, 110, 32, 101, 108, 115, 101, 32, 101, 110, 100, 32, 108, 111, 116, 32, 97, 103, 101, 32, 97, 105, 109, 32, 109, 105, 110, 117, 116, 101, 32, 104, 117, 114, 116, 32], [59, 58, 43, 45, 42, 40, 41, 91, 93, 61, 60, 62], [32, 98, 117, 116, 116, 32, 101, 121, 101, 32, 116, 111, 112, 32, 102, 97, 108, 108, 115, 32, 99, 111, 115, 116, 32, 115, 104, 111, 111, 116, 101, 114, 32, 115, 104, 97, 107, 101, 32, 119, 105, 110, 100, 32, 115, 116, 114, 97, 121, 115, 32, 111, 112, 101, 110, 115, 32, 105, 102, 32, 116, 104, 101, 110, 32, 101, 108, 115, 101, 32, 101, 110, 100, 32, 108, 111, 116, 32, 97, 103, 101, 32, 97, 105, 109, 32, 109, 105, 110, 117, 116, 101, 32, 104, 117, 114, 116, 32, 97, 110, 100, 32, 111, 114, 32, 110, 111, 116, 32], [59, 58, 43, 45, 42, 40, 41, 91, 93, 61, 60, 62]]
def z_len : List Nat := [108, 12, 109, 12]
def z_byt : List (List Int32) := zch.map (fun q => q.map nI)
def zfv (n : Nat) : Value := match n with
  | 0 => .null
  | n + 1 => .ref n
/-- the constant strings and two statics of the library, as they lie in the first heap -/
def zSt (G : zG) (av : Nat → Nat) (fm : Nat) : Prop := ∀ U : State, G.2.2.2.2.2 U → (∀ i : Nat, i < 4 → vk_S 1 [z_len.getD i 0] [z_byt.getD i []] (fun _ => G.2.2.2.2.1 i) (fun _ => av i) (z_A G) U G.2.2.2.1) ∧ va_Z "java/lang/String" "COMPACT_STRINGS" "Z" (.int 1) (z_A G) U G.2.2.2.1 ∧ va_Z "jdk/internal/util/Preconditions" "SIOOBE_FORMATTER" "Ljava/util/function/BiFunction;" (zfv fm) (z_A G) U G.2.2.2.1
def zc (i k : Nat) : Nat := (zch.getD i []).getD k 0
theorem z_len_eq : ∀ i, i < 4 → z_len.getD i 0 = (zch.getD i []).length := by decide
theorem zc_lt : ∀ i, i < 4 → ∀ x ∈ zch.getD i [], x < 128 := by decide
theorem z_byt_at {i : Nat} (hi : i < 4) (k : Nat) : (z_byt.getD i []).getD k 0 = nI (zc i k) := by
  have e : z_byt.getD i [] = (zch.getD i []).map nI := by
    rcases (show i = 0 ∨ i = 1 ∨ i = 2 ∨ i = 3 by omega) with rfl | rfl | rfl | rfl <;> rfl
  rw [e]
  unfold zc
  generalize zch.getD i [] = l
  induction l generalizing k with
  | nil => rfl
  | cons x l ih =>
    cases k with
    | zero => rfl
    | succ k => exact ih k
theorem zc_l {i k : Nat} (hi : i < 4) : zc i k < 128 := by
  have h := zc_lt i hi
  unfold zc
  generalize zch.getD i [] = l at h
  induction l generalizing k with
  | nil => exact (by decide : (0 : Nat) < 128)
  | cons x l ih =>
    cases k with
    | zero => exact h x List.mem_cons_self
    | succ k => exact ih (fun y hy => h y (List.mem_cons_of_mem _ hy))
section Rules44
variable {G : zG} {l : Launch} {k : zY} {d pc bc bs : Nat} {lv : List (Nat × Value)} {st : List Value} {M : zM} {Q : Option Value → zM → Prop} {av : Nat → Nat} {fm : Nat}
theorem aj.ldcS (i : Nat) {own tx : String} {idx : Nat} (hz : z_str[i]? = some (own, idx, tx)) (ho : own = k.1.cls) (hd : decode k.2.1 pc = .ok (.ldc idx, 2)) (h : aj G l k d (pc + 2) lv (.ref (G.2.2.2.2.1 i) :: st) M bc bs Q) : aj G l k d pc lv st M bc bs Q := by
  intro p e R s m args below meth c H locs cells slots LS C hS hV hL h1 h2 h3 h4
  subst ho
  exact va_ldcS C.1 C.2.1 C.2.2.2.2.1 (C.2.2.2.2.2.2.2.1.2.2.2.1 i _ hz) hd (h p e R s m args below meth c H locs cells slots LS C hS hV hL h1 h2 h3 h4)
theorem zSt.at {U : State} {H : Heap} (hG : zSt G av fm) (hK : z_K G U) (hS : z_S G M H) : (∀ i : Nat, i < 4 → va_O "java/lang/String" (G.2.2.2.2.1 i) (z_A G) U H ∧ va_OF "java/lang/String" "coder" "B" (.int 0) (G.2.2.2.2.1 i) (z_A G) U H ∧ va_OF "java/lang/String" "value" "[B" (.ref (av i)) (G.2.2.2.2.1 i) (z_A G) U H ∧ va_T .byte (av i) (z_len.getD i 0) (fun j => .int ((z_byt.getD i []).getD j 0)) (z_A G) U H) ∧ True := ⟨fun i hi => (vk_S.kept ((hG U (hK.2.2.2.2 U (Vm.Alike.refl _))).1 i hi) (fun a ha _ => hS.2.2.1 a ha)).1 0 (by decide), trivial⟩
theorem aj.sgetf {a idx : Nat} {v : Value} {n dd : String} (hf : ∀ U H, z_K G U → z_S G M H → va_OF "java/lang/String" n dd v a (z_A G) U H) (hl : Cond.fieldLink k.1.cls idx "java/lang/String" n dd ∈ z_W) (hd : decode k.2.1 pc = .ok (.getfield idx, 3)) (h : aj G l k d (pc + 3) lv (v :: st) M bc bs Q) : aj G l k d pc lv (.ref a :: st) M bc bs Q := by
  intro p e R s m args below meth c H locs cells slots LS C hS hV hL h1 h2 h3 h4
  obtain ⟨cf, kk, fi, f, cell, g1, g2, g3, g4, g5, g6⟩ := hf s H C.2.2.2.2.2.2.2.1 hS
  exact W.getf C.1 C.2.1 C.2.2.2.2.1 (C.2.2.2.2.2.1 _ hl) g1 g2 g3 g4 (v := v) g5 rfl rfl hd (h p e R s m args below meth c H locs cells slots LS C hS hV hL h1 h2 h3 h4)
theorem aj.sval (hG : zSt G av fm) {i idx : Nat} (hi : i < 4) (hl : Cond.fieldLink k.1.cls idx "java/lang/String" "value" "[B" ∈ z_W) (hd : decode k.2.1 pc = .ok (.getfield idx, 3)) (h : aj G l k d (pc + 3) lv (.ref (av i) :: st) M bc bs Q) : aj G l k d pc lv (.ref (G.2.2.2.2.1 i) :: st) M bc bs Q := aj.sgetf (fun U H hK hS => ((hG.at hK hS).1 i hi).2.2.1) hl hd h
theorem aj.scod (hG : zSt G av fm) {i idx : Nat} (hi : i < 4) (hl : Cond.fieldLink k.1.cls idx "java/lang/String" "coder" "B" ∈ z_W) (hd : decode k.2.1 pc = .ok (.getfield idx, 3)) (h : aj G l k d (pc + 3) lv (.int 0 :: st) M bc bs Q) : aj G l k d pc lv (.ref (G.2.2.2.2.1 i) :: st) M bc bs Q := aj.sgetf (fun U H hK hS => ((hG.at hK hS).1 i hi).2.1) hl hd h
theorem aj.slen (hG : zSt G av fm) {i : Nat} (hi : i < 4) (hd : decode k.2.1 pc = .ok (.arraylength, 1)) (h : aj G l k d (pc + 1) lv (.int (nI (zch.getD i []).length) :: st) M bc bs Q) : aj G l k d pc lv (.ref (av i) :: st) M bc bs Q := by
  intro p e R s m args below meth c H locs cells slots LS C hS hV hL h1 h2 h3 h4
  obtain ⟨cell, g1, g2, g3, g4, g5, g6, g7⟩ := ((hG.at C.2.2.2.2.2.2.2.1 hS).1 i hi).2.2.2
  rw [z_len_eq i hi] at g5
  exact W.alen (n := Int32.ofNat (zch.getD i []).length) C.1 C.2.1 g1 g2 g5 rfl rfl hd (h p e R s m args below meth c H locs cells slots LS C hS hV hL h1 h2 h3 h4)
theorem aj.sbyt (hG : zSt G av fm) {i j : Nat} {x : Int32} (hi : i < 4) (hx : x = nI j) (hj : j < (zch.getD i []).length) (hd : decode k.2.1 pc = .ok (.baload, 1)) (h : aj G l k d (pc + 1) lv (.int (nI (zc i j)) :: st) M bc bs Q) : aj G l k d pc lv (.int x :: .ref (av i) :: st) M bc bs Q := by
  intro p e R s m args below meth c H locs cells slots LS C hS hV hL h1 h2 h3 h4
  subst hx
  obtain ⟨cell, g1, g2, g3, g4, g5, g6, g7⟩ := ((hG.at C.2.2.2.2.2.2.2.1 hS).1 i hi).2.2.2
  rw [z_len_eq i hi] at g4 g6
  have hl : (zch.getD i []).length < 2 ^ 31 := by
    rcases (show i = 0 ∨ i = 1 ∨ i = 2 ∨ i = 3 by omega) with rfl | rfl | rfl | rfl <;> decide
  have hc : (nI j).toNatClampNeg = j := nI_clamp (by omega)
  have hin : ¬ (nI j < 0 ∨ cell.slots.size ≤ (nI j).toNatClampNeg) := by
    intro q
    rcases q with q | q
    · exact nI_pos (by omega) q
    · rw [hc] at q
      omega
  exact W.bald (v := .int (nI (zc i j))) C.1 C.2.1 g1 g2 g3 hin (by rw [hc, g6 j hj]; exact congrArg (fun q => some (Value.int q)) (z_byt_at hi j)) rfl rfl hd (h p e R s m args below meth c H locs cells slots LS C hS hV hL h1 h2 h3 h4)
theorem aj.gets {C n dd ref : String} {v : Value} {idx : Nat} (hf : ∀ U H, z_K G U → z_S G M H → va_Z C n dd v (z_A G) U H) (hC : C = ref) (hl : Cond.fieldLink k.1.cls idx ref n dd ∈ z_W) (hd : decode k.2.1 pc = .ok (.getstatic idx, 3)) (h : aj G l k d (pc + 3) lv (v :: st) M bc bs Q) : aj G l k d pc lv st M bc bs Q := by
  intro p e R s m args below meth c H locs cells slots LS C' hS hV hL h1 h2 h3 h4
  subst hC
  obtain ⟨cf, kf, fi, f, a, cell, g1, g2, g3, g4, g5, g6, g7, g8⟩ := hf s H C'.2.2.2.2.2.2.2.1 hS
  exact W.gets C'.1 C'.2.1 C'.2.2.2.2.1 (C'.2.2.2.2.2.1 _ hl) g1 g2 g3 g4 g5 (fun e => by rw [e] at g6; cases g6) g7 rfl hd (h p e R s m args below meth c H locs cells slots LS C' hS hV hL h1 h2 h3 h4)
theorem aj.getsC (hG : zSt G av fm) {idx : Nat} (hl : Cond.fieldLink k.1.cls idx "java/lang/String" "COMPACT_STRINGS" "Z" ∈ z_W) (hd : decode k.2.1 pc = .ok (.getstatic idx, 3)) (h : aj G l k d (pc + 3) lv (.int 1 :: st) M bc bs Q) : aj G l k d pc lv st M bc bs Q := aj.gets (fun U _ hK hS => va_Z.kept (hG U (hK.2.2.2.2 U (Vm.Alike.refl _))).2.1 (fun a ha _ => hS.2.2.1 a ha)) rfl hl hd h
theorem aj.getsF (hG : zSt G av fm) {idx : Nat} (hl : Cond.fieldLink k.1.cls idx "jdk/internal/util/Preconditions" "SIOOBE_FORMATTER" "Ljava/util/function/BiFunction;" ∈ z_W) (hd : decode k.2.1 pc = .ok (.getstatic idx, 3)) (h : aj G l k d (pc + 3) lv (zfv fm :: st) M bc bs Q) : aj G l k d pc lv st M bc bs Q := aj.gets (fun U _ hK hS => va_Z.kept (hG U (hK.2.2.2.2 U (Vm.Alike.refl _))).2.2 (fun a ha _ => hS.2.2.1 a ha)) rfl hl hd h
theorem aj.callT (hG : zSt G av fm) {y : zY} {d' idx i n : Nat} {x : Value} {As rest : List Value} (hi4 : i < 4) (hd : decode k.2.1 pc = .ok (.invokevirtual idx, 3)) (hl : z_lk k.1.cls idx y n) (hi : z_li y) (hc : y.1.cls = "java/lang/String") (hn : As.length = n) (hst : st = As.reverse ++ .ref (G.2.2.2.2.1 i) :: rest) (hsum : (rest.map fun v => v.category).sum ≤ 8) (hdd : d' + 1 ≤ d) (hm : am G l y d' (.ref (G.2.2.2.2.1 i) :: As) M 0 0 (zr x (fun M' => M' = M))) (h : aj G l k d (pc + 3) lv (x :: rest) M bc bs Q) : aj G l k d pc lv st M bc bs Q := by
  intro p e R s m args below meth c H locs cells slots LS C hS hV hL h1 h2 h3 h4
  subst hst
  have ht := C.2.2.2.2.2.1
  have hrecv : ∃ cell : Cell, H[G.2.2.2.2.1 i]? = some cell ∧ cell.vm.isStatics = false ∧ s.vm.findClass y.1.cls = some cell.cls := by
    rw [hc]
    obtain ⟨cell, g1, g2, g3, -⟩ := ((hG.at C.2.2.2.2.2.2.2.1 hS).1 i hi4).1
    exact ⟨cell, g1, g2, g3⟩
  have hr := va_runV (l := l) (e := e) (R := R) (below := below) (meth := meth) (locs := locs) (cells := cells) (slots := slots) (g := F0 m pc LS (As.reverse ++ .ref (G.2.2.2.2.1 i) :: rest)) (As := As) (rest := rest) ⟨C.1, C.2.1, C.2.2.2.1, C.2.2.2.2.1, ht⟩ hm ⟨callB_of n ht (z_goodIn hl.2.2.1) rfl rfl rfl (ht _ hl.2.1) (ht _ hl.1) hl.2.2.2.1 ⟨by show d' + 1 ≤ R.frames; omega, by show 8 + (y.2.2.1 + 11) + 64 * d' ≤ R.locals; have := hl.2.2.2.2; omega⟩, ht _ hi.1, ht _ hi.2⟩ ⟨z_blind, hrecv, fun U hU hW => ⟨rfl, by rw [hU]; exact hS, z_K.warm hW C.2.2.2.2.2.2.2.1⟩⟩ rfl hn hL.1 rfl (lv_room hsum) hd ⟨by omega, by omega⟩
  refine z_call hr hV hS fun r M' H1 locs1 hq hS1 hV1 => ?_
  obtain ⟨rfl, rfl⟩ := hq
  exact h p e R s m args below meth c H1 locs1 (cells + 0) (slots + 0) LS C hS1 hV1 hL h1 h2 h3 h4
end Rules44
theorem s_coder {G : zG} {l : Launch} {av : Nat → Nat} {fm : Nat} (hG : zSt G av fm) (M : zM) (i : Nat) (hi : i < 4) : am G l kJ0_coder_7d493 0 [.ref (G.2.2.2.2.1 i)] M 0 0 (zr (.int 0) (fun M' => M' = M)) := by
  refine am.of (by decide) (Nat.le_of_ble_eq_true rfl) ?_
  refine aj.getsC hG w468 dJ0_coder_7d493_0 ?_
  refine aj.if_eq (tgt := 13) dJ0_coder_7d493_3 rfl (fun c3 => ?_) (fun c3 => ?_)
  · exact absurd c3 (by decide)
  · refine aj.aload_n dJ0_coder_7d493_6 rfl ?_
    refine aj.scod hG hi w1874 dJ0_coder_7d493_7 ?_
    refine aj.goto (tgt := 14) dJ0_coder_7d493_10 rfl ?_
    exact aj.zret (ty := .byte) rfl rfl dJ0_coder_7d493_14 ⟨rfl, rfl⟩
theorem s_isLatin1 {G : zG} {l : Launch} {av : Nat → Nat} {fm : Nat} (hG : zSt G av fm) (M : zM) (i : Nat) (hi : i < 4) : am G l kJ0_isLatin1_aae02 0 [.ref (G.2.2.2.2.1 i)] M 0 0 (zr (.int 1) (fun M' => M' = M)) := by
  refine am.of (by decide) (Nat.le_of_ble_eq_true rfl) ?_
  refine aj.getsC hG w468 dJ0_isLatin1_aae02_0 ?_
  refine aj.if_eq (tgt := 17) dJ0_isLatin1_aae02_3 rfl (fun c3 => ?_) (fun c3 => ?_)
  · exact absurd c3 (by decide)
  · refine aj.aload_n dJ0_isLatin1_aae02_6 rfl ?_
    refine aj.scod hG hi w1874 dJ0_isLatin1_aae02_7 ?_
    refine aj.if_ne (tgt := 17) dJ0_isLatin1_aae02_10 rfl (fun c10 => ?_) (fun c10 => ?_)
    · exact absurd rfl c10
    · refine aj.iconst (v := 1) dJ0_isLatin1_aae02_13 rfl ?_
      refine aj.goto (tgt := 18) dJ0_isLatin1_aae02_14 rfl ?_
      exact aj.zret (ty := .boolean) rfl rfl dJ0_isLatin1_aae02_18 ⟨rfl, rfl⟩
theorem z_slen31 : ∀ i, i < 4 → (zch.getD i []).length < 200 := by decide
theorem z_shr0 {a : Nat} (h : a < 2 ^ 31) : nI a >>> ((0 : Int32) &&& 31) = nI a := by
  apply Int32.toBitVec_inj.mp
  show (nI a).toBitVec.sshiftRight' _ = _
  exact BitVec.eq_of_toInt_eq (by rw [BitVec.sshiftRight_eq', BitVec.toInt_sshiftRight]; exact Int.shiftRight_zero _)
theorem s_length {G : zG} {l : Launch} {av : Nat → Nat} {fm : Nat} (hG : zSt G av fm) (M : zM) (i : Nat) (hi : i < 4) : am G l kJ0_length_8abf5 1 [.ref (G.2.2.2.2.1 i)] M 0 0 (zr (.int (nI (zch.getD i []).length)) (fun M' => M' = M)) := by
  refine am.of (by decide) (Nat.le_of_ble_eq_true rfl) ?_
  refine aj.aload_n dJ0_length_8abf5_0 rfl ?_
  refine aj.sval hG hi w1873 dJ0_length_8abf5_1 ?_
  refine aj.slen hG hi dJ0_length_8abf5_4 ?_
  refine aj.aload_n dJ0_length_8abf5_5 rfl ?_
  refine aj.callT hG (d' := 0) (As := []) (rest := [.int (nI ((zch.getD i []).length))]) hi dJ0_length_8abf5_6 v_J0_335 ⟨w465, w466⟩ rfl rfl rfl (Nat.le_of_ble_eq_true rfl) (Nat.le_of_ble_eq_true rfl) (s_coder hG _ i hi) ?_
  refine aj.ishr dJ0_length_8abf5_9 ?_
  exact aj.iret rfl dJ0_length_8abf5_10 ⟨by rw [z_shr0 (by have := z_slen31 i hi; omega)], rfl⟩
theorem s_chk {G : zG} {l : Launch} {fm : Nat} (M : zM) (j n : Nat) (hj : j < n) (hn : n < 2 ^ 31) : am G l kJ3_checkIndex_8e157 0 [.int (nI j), .int (nI n), .ref fm] M 0 0 (zr (.int (nI j)) (fun M' => M' = M)) := by
  refine am.of (by decide) (Nat.le_of_ble_eq_true rfl) ?_
  refine aj.iload_n dJ3_checkIndex_8e157_0 rfl ?_
  refine aj.if_ltN (a := j) (tgt := 9) dJ3_checkIndex_8e157_1 rfl (by omega) rfl ?_
  refine aj.iload_n dJ3_checkIndex_8e157_4 rfl ?_
  refine aj.iload_n dJ3_checkIndex_8e157_5 rfl ?_
  refine aj.icmp_ltN (a := j) (b := n) (tgt := 16) dJ3_checkIndex_8e157_6 rfl rfl (by omega) (by omega) rfl (fun c6 => ?_) (fun c6 => ?_)
  · refine aj.iload_n dJ3_checkIndex_8e157_16 rfl ?_
    exact aj.iret rfl dJ3_checkIndex_8e157_17 ⟨rfl, rfl⟩
  · exact absurd c6 (by omega)
theorem s_chkN {G : zG} {l : Launch} (M : zM) (j n : Nat) (hj : j < n) (hn : n < 2 ^ 31) : am G l kJ3_checkIndex_8e157 0 [.int (nI j), .int (nI n), .null] M 0 0 (zr (.int (nI j)) (fun M' => M' = M)) := by
  refine am.of (by decide) (Nat.le_of_ble_eq_true rfl) ?_
  refine aj.iload_n dJ3_checkIndex_8e157_0 rfl ?_
  refine aj.if_ltN (a := j) (tgt := 9) dJ3_checkIndex_8e157_1 rfl (by omega) rfl ?_
  refine aj.iload_n dJ3_checkIndex_8e157_4 rfl ?_
  refine aj.iload_n dJ3_checkIndex_8e157_5 rfl ?_
  refine aj.icmp_ltN (a := j) (b := n) (tgt := 16) dJ3_checkIndex_8e157_6 rfl rfl (by omega) (by omega) rfl (fun c6 => ?_) (fun c6 => ?_)
  · refine aj.iload_n dJ3_checkIndex_8e157_16 rfl ?_
    exact aj.iret rfl dJ3_checkIndex_8e157_17 ⟨rfl, rfl⟩
  · exact absurd c6 (by omega)
theorem s_chk2 {G : zG} {l : Launch} {av : Nat → Nat} {fm : Nat} (hG : zSt G av fm) (M : zM) (j n : Nat) (hj : j < n) (hn : n < 2 ^ 31) : am G l kJ0_checkIndex_df160 1 [.int (nI j), .int (nI n)] M 0 0 (zv (fun M' => M' = M)) := by
  match fm, hG with
  | 0, hG =>
    refine am.of (by decide) (Nat.le_of_ble_eq_true rfl) ?_
    refine aj.iload_n dJ0_checkIndex_df160_0 rfl ?_
    refine aj.iload_n dJ0_checkIndex_df160_1 rfl ?_
    refine aj.getsF hG w484 dJ0_checkIndex_df160_2 ?_
    refine aj.callS1 (d' := 0) (As := [.int (nI j), .int (nI n), .null]) (rest := []) dJ0_checkIndex_df160_5 v_J0_1059 w487 rfl rfl (Nat.le_of_ble_eq_true rfl) (Nat.le_of_ble_eq_true rfl) (s_chkN _ j n hj hn) (fun M2 hM => ?_)
    subst hM
    refine aj.pop dJ0_checkIndex_df160_8 rfl ?_
    exact aj.vret rfl dJ0_checkIndex_df160_9 ⟨rfl, rfl⟩
  | fm + 1, hG =>
    refine am.of (by decide) (Nat.le_of_ble_eq_true rfl) ?_
    refine aj.iload_n dJ0_checkIndex_df160_0 rfl ?_
    refine aj.iload_n dJ0_checkIndex_df160_1 rfl ?_
    refine aj.getsF hG w484 dJ0_checkIndex_df160_2 ?_
    refine aj.callS1 (d' := 0) (As := [.int (nI j), .int (nI n), .ref fm]) (rest := []) dJ0_checkIndex_df160_5 v_J0_1059 w487 rfl rfl (Nat.le_of_ble_eq_true rfl) (Nat.le_of_ble_eq_true rfl) (s_chk _ j n hj hn) (fun M2 hM => ?_)
    subst hM
    refine aj.pop dJ0_checkIndex_df160_8 rfl ?_
    exact aj.vret rfl dJ0_checkIndex_df160_9 ⟨rfl, rfl⟩
theorem zc_and : ∀ x : Nat, x < 128 → ((nI x &&& 255).toUInt32 % 65536).toInt32 = nI x := by decide
theorem zc_nar : ∀ x : Nat, x < 128 → narrow .char (.int (nI x)) = .int (nI x) := by decide
theorem s_charAt1 {G : zG} {l : Launch} {av : Nat → Nat} {fm : Nat} (hG : zSt G av fm) (M : zM) (i : Nat) (hi : i < 4) (j : Nat) (hj : j < (zch.getD i []).length) : am G l kJ1_charAt_3b067 2 [.ref (av i), .int (nI j)] M 0 0 (zr (.int (nI (zc i j))) (fun M' => M' = M)) := by
  have hl := z_slen31 i hi
  refine am.of (by decide) (Nat.le_of_ble_eq_true rfl) ?_
  refine aj.iload_n dJ1_charAt_3b067_0 rfl ?_
  refine aj.aload_n dJ1_charAt_3b067_1 rfl ?_
  refine aj.slen hG hi dJ1_charAt_3b067_2 ?_
  refine aj.callS0 (d' := 1) (As := [.int (nI j), .int (nI ((zch.getD i []).length))]) (rest := []) dJ1_charAt_3b067_3 v_J1_9 w482 rfl rfl (Nat.le_of_ble_eq_true rfl) (Nat.le_of_ble_eq_true rfl) (s_chk2 hG _ j ((zch.getD i []).length) hj (by omega)) (fun M2 hM => ?_)
  subst hM
  refine aj.aload_n dJ1_charAt_3b067_6 rfl ?_
  refine aj.iload_n dJ1_charAt_3b067_7 rfl ?_
  refine aj.sbyt hG (j := j) hi rfl (by omega) dJ1_charAt_3b067_8 ?_
  refine aj.sipush (v := 255) dJ1_charAt_3b067_9 rfl ?_
  refine aj.iand dJ1_charAt_3b067_12 ?_
  refine aj.i2c dJ1_charAt_3b067_13 ?_
  exact aj.zret (ty := .char) rfl (by rw [zc_and _ (zc_l hi)]; exact zc_nar _ (zc_l hi)) dJ1_charAt_3b067_14 ⟨by rw [zc_and _ (zc_l hi)], rfl⟩
theorem s_charAt {G : zG} {l : Launch} {av : Nat → Nat} {fm : Nat} (hG : zSt G av fm) (M : zM) (i : Nat) (hi : i < 4) (j : Nat) (hj : j < (zch.getD i []).length) : am G l kJ0_charAt_5068e 3 [.ref (G.2.2.2.2.1 i), .int (nI j)] M 0 0 (zr (.int (nI (zc i j))) (fun M' => M' = M)) := by
  refine am.of (by decide) (Nat.le_of_ble_eq_true rfl) ?_
  refine aj.aload_n dJ0_charAt_5068e_0 rfl ?_
  refine aj.callT hG (d' := 0) (As := []) (rest := []) hi dJ0_charAt_5068e_1 v_J0_492 ⟨w475, w476⟩ rfl rfl rfl (Nat.le_of_ble_eq_true rfl) (Nat.le_of_ble_eq_true rfl) (s_isLatin1 hG _ i hi) ?_
  refine aj.if_eq (tgt := 16) dJ0_charAt_5068e_4 rfl (fun c4 => ?_) (fun c4 => ?_)
  · exact absurd c4 (by decide)
  · refine aj.aload_n dJ0_charAt_5068e_7 rfl ?_
    refine aj.sval hG hi w1873 dJ0_charAt_5068e_8 ?_
    refine aj.iload_n dJ0_charAt_5068e_11 rfl ?_
    refine aj.callS1 (d' := 2) (As := [.ref (av i), .int (nI j)]) (rest := []) dJ0_charAt_5068e_12 v_J0_495 w479 rfl rfl (Nat.le_of_ble_eq_true rfl) (Nat.le_of_ble_eq_true rfl) (s_charAt1 hG _ i hi j hj) (fun M2 hM => ?_)
    subst hM
    exact aj.zret (ty := .char) rfl (zc_nar _ (zc_l hi)) dJ0_charAt_5068e_15 ⟨rfl, rfl⟩
