/-- the next token, as the reference holds it -/
def pNx (I I' : Nat → Int32) (t : Nat × Nat × Nat × Nat) : Prop := I' 6 = nI t.2.2.1 ∧ I' 7 = nI t.2.2.2 ∧ I' 9 = nI t.1 ∧ (t.1 = 23 → I' 10 = nI t.2.1) ∧ ∀ j, j ≠ 6 → j ≠ 7 → j ≠ 9 → j ≠ 10 → I' j = I j
theorem sgs_idx : ∀ k, k < 12 → sgs.idxOf (sgs.getD k 0) = k ∧ zc 3 k = sgs.getD k 0 ∧ sgs.getD k 0 ∈ sgs := by decide
def sgK (c k : Nat) : Nat := if c ∈ sgs.take k then 30 + sgs.idxOf c else 25
theorem sgs_take : ∀ k, k < 12 → sgs.take (k + 1) = sgs.take k ++ [sgs.getD k 0] := by decide
theorem sgK_s {c k : Nat} (hk : k < 12) : sgK c (k + 1) = if c = zc 3 k then 30 + k else sgK c k := by
  obtain ⟨h1, h2, h3⟩ := sgs_idx k hk
  unfold sgK
  rw [sgs_take k hk, h2]
  by_cases e : c = sgs.getD k 0
  · rw [if_pos e, if_pos (List.mem_append_right _ (List.mem_singleton.mpr e)), e, h1]
  · rw [if_neg e]
    by_cases q : c ∈ sgs.take k
    · rw [if_pos q, if_pos (List.mem_append_left _ q)]
    · rw [if_neg q, if_neg (fun z => (List.mem_append.mp z).elim q (fun y => e (List.mem_singleton.mp y)))]
theorem sgK_12 (c : Nat) : sgK c 12 = if c ∈ sgs then 30 + sgs.idxOf c else 25 := rfl
theorem sgK_le {c k : Nat} : sgK c k ≤ 42 := by
  unfold sgK
  have := List.idxOf_le_length (a := c) (l := sgs)
  have e : sgs.length = 12 := rfl
  split <;> omega
theorem next_l1 {G : zG} {l : Launch} {b : Nat} {M0 : zM} {I : Nat → Int32} {A : Nat → Nat → Int32} {L : Nat → Nat → Int64} {Q : Option Value → zM → Prop} (tx : Nat → Nat) (n : Nat) (hn : n ≤ 900) (htx : ∀ k, k < 900 → A 3 k = nI (tx k)) (hb : ∀ k, tx k < 256) (h8 : I 8 = nI n) (a : Nat) (hk : ∀ M, mW b M0 M (va_up I 6 (nI a)) A L → aj G l kX12_next 5 47 [(0, .ref b)] [] M 0 0 Q) : ∀ (m x : Nat) (M : zM), x + m = n → advTo cWh tx n x = a → mW b M0 M (va_up I 6 (nI x)) A L → aj G l kX12_next 5 8 [(0, .ref b)] [] M 0 0 Q := by
  intro m
  induction m with
  | zero =>
    intro x M hin ha hM
    obtain ⟨u, v, w, hA⟩ := hM
    have q10 := seeV_eq (tx := tx) (n := n) (k := x) (c := 10) hb (by decide)
    have q32 := seeV_eq (tx := tx) (n := n) (k := x) (c := 32) hb (by decide)
    refine aj.aload_n dX12_next_8 rfl ?_
    refine aj.aload_n dX12_next_9 rfl ?_
    refine gM6 rfl dX12_next_10 hA ?_
    refine aj.callV1 (d' := 0) (As := [.int (nI x)]) (rest := []) dX12_next_13 v_X12_104 li_X12_see hA.1 rfl rfl rfl (Nat.le_of_ble_eq_true rfl) (Nat.le_of_ble_eq_true rfl) (c_see (I := va_up I 6 (nI x)) x rfl tx n hn htx hb h8 (by omega) ⟨_, _, _, hA⟩) (fun M hM => ?_)
    obtain ⟨u, v, w, hA⟩ := hM
    refine aj.bipush (v := 10) dX12_next_16 rfl ?_
    refine aj.icmp_eq (tgt := 34) dX12_next_18 rfl (fun c18 => ?_) (fun c18 => ?_)
    · exact absurd (q10.mp c18).1 (by omega)
    · refine aj.aload_n dX12_next_21 rfl ?_
      refine aj.aload_n dX12_next_22 rfl ?_
      refine gM6 rfl dX12_next_23 hA ?_
      refine aj.callV1 (d' := 0) (As := [.int (nI x)]) (rest := []) dX12_next_26 v_X12_104 li_X12_see hA.1 rfl rfl rfl (Nat.le_of_ble_eq_true rfl) (Nat.le_of_ble_eq_true rfl) (c_see (I := va_up I 6 (nI x)) x rfl tx n hn htx hb h8 (by omega) ⟨_, _, _, hA⟩) (fun M hM => ?_)
      obtain ⟨u, v, w, hA⟩ := hM
      refine aj.bipush (v := 32) dX12_next_29 rfl ?_
      refine aj.icmp_ne (tgt := 47) dX12_next_31 rfl (fun c31 => ?_) (fun c31 => ?_)
      · rw [advTo_n (fun z => z.2.elim (fun y => c18 (q10.mpr ⟨z.1, y⟩)) (fun y => c31 (q32.mpr ⟨z.1, y⟩)))] at ha
        rw [ha] at hA
        exact hk M ⟨_, _, _, hA⟩
      · exact absurd (q32.mp c31).1 (by omega)
  | succ m ih =>
    intro x M hin ha hM
    obtain ⟨u, v, w, hA⟩ := hM
    have q10 := seeV_eq (tx := tx) (n := n) (k := x) (c := 10) hb (by decide)
    have q32 := seeV_eq (tx := tx) (n := n) (k := x) (c := 32) hb (by decide)
    refine aj.aload_n dX12_next_8 rfl ?_
    refine aj.aload_n dX12_next_9 rfl ?_
    refine gM6 rfl dX12_next_10 hA ?_
    refine aj.callV1 (d' := 0) (As := [.int (nI x)]) (rest := []) dX12_next_13 v_X12_104 li_X12_see hA.1 rfl rfl rfl (Nat.le_of_ble_eq_true rfl) (Nat.le_of_ble_eq_true rfl) (c_see (I := va_up I 6 (nI x)) x rfl tx n hn htx hb h8 (by omega) ⟨_, _, _, hA⟩) (fun M hM => ?_)
    obtain ⟨u, v, w, hA⟩ := hM
    refine aj.bipush (v := 10) dX12_next_16 rfl ?_
    refine aj.icmp_eq (tgt := 34) dX12_next_18 rfl (fun c18 => ?_) (fun c18 => ?_)
    · refine aj.aload_n dX12_next_34 rfl ?_
      refine aj.dup dX12_next_35 rfl ?_
      refine gM6 rfl dX12_next_36 hA ?_
      refine aj.iconst (v := 1) dX12_next_39 rfl ?_
      refine aj.iaddN (a := x) (b := 1) dX12_next_40 rfl rfl ?_
      refine pM6 rfl dX12_next_41 hA (fun M hA => ?_)
      refine aj.goto (tgt := 8) dX12_next_44 rfl ?_
      rw [bx_uu] at hA
      exact ih (x + 1) M (by omega) (by rw [← advTo_y ⟨by omega, Or.inl (q10.mp c18).2⟩]; exact ha) ⟨_, _, _, hA⟩
    · refine aj.aload_n dX12_next_21 rfl ?_
      refine aj.aload_n dX12_next_22 rfl ?_
      refine gM6 rfl dX12_next_23 hA ?_
      refine aj.callV1 (d' := 0) (As := [.int (nI x)]) (rest := []) dX12_next_26 v_X12_104 li_X12_see hA.1 rfl rfl rfl (Nat.le_of_ble_eq_true rfl) (Nat.le_of_ble_eq_true rfl) (c_see (I := va_up I 6 (nI x)) x rfl tx n hn htx hb h8 (by omega) ⟨_, _, _, hA⟩) (fun M hM => ?_)
      obtain ⟨u, v, w, hA⟩ := hM
      refine aj.bipush (v := 32) dX12_next_29 rfl ?_
      refine aj.icmp_ne (tgt := 47) dX12_next_31 rfl (fun c31 => ?_) (fun c31 => ?_)
      · rw [advTo_n (fun z => z.2.elim (fun y => c18 (q10.mpr ⟨z.1, y⟩)) (fun y => c31 (q32.mpr ⟨z.1, y⟩)))] at ha
        rw [ha] at hA
        exact hk M ⟨_, _, _, hA⟩
      · refine aj.aload_n dX12_next_34 rfl ?_
        refine aj.dup dX12_next_35 rfl ?_
        refine gM6 rfl dX12_next_36 hA ?_
        refine aj.iconst (v := 1) dX12_next_39 rfl ?_
        refine aj.iaddN (a := x) (b := 1) dX12_next_40 rfl rfl ?_
        refine pM6 rfl dX12_next_41 hA (fun M hA => ?_)
        refine aj.goto (tgt := 8) dX12_next_44 rfl ?_
        rw [bx_uu] at hA
        exact ih (x + 1) M (by omega) (by rw [← advTo_y ⟨by omega, Or.inr (q32.mp c31).2⟩]; exact ha) ⟨_, _, _, hA⟩
theorem next_l2 {G : zG} {l : Launch} {b : Nat} {M0 : zM} {I : Nat → Int32} {A : Nat → Nat → Int32} {L : Nat → Nat → Int64} {Q : Option Value → zM → Prop} (tx : Nat → Nat) (n : Nat) (hn : n ≤ 900) (htx : ∀ k, k < 900 → A 3 k = nI (tx k)) (hb : ∀ k, tx k < 256) (h8 : I 8 = nI n) (e : Nat) (hk : ∀ M, mW b M0 M (va_up I 7 (nI e)) A L → aj G l kX12_next 5 116 [(0, .ref b)] [] M 0 0 Q) : ∀ (m x : Nat) (M : zM), x + m = n → advTo cSm tx n x = e → mW b M0 M (va_up I 7 (nI x)) A L → aj G l kX12_next 5 89 [(0, .ref b)] [] M 0 0 Q := by
  intro m
  induction m with
  | zero =>
    intro x M hin ha hM
    obtain ⟨u, v, w, hA⟩ := hM
    have qq := seeV_rg (tx := tx) (n := n) (k := x) (lo := 97) (hi := 122) hb (by decide) (by decide)
    refine aj.aload_n dX12_next_89 rfl ?_
    refine aj.aload_n dX12_next_90 rfl ?_
    refine gM7 rfl dX12_next_91 hA ?_
    refine aj.callV1 (d' := 0) (As := [.int (nI x)]) (rest := []) dX12_next_94 v_X12_104 li_X12_see hA.1 rfl rfl rfl (Nat.le_of_ble_eq_true rfl) (Nat.le_of_ble_eq_true rfl) (c_see (I := va_up I 7 (nI x)) x rfl tx n hn htx hb h8 (by omega) ⟨_, _, _, hA⟩) (fun M hM => ?_)
    obtain ⟨u, v, w, hA⟩ := hM
    refine aj.callS1 (d' := 0) (As := [.int (seeV tx n x)]) (rest := []) dX12_next_97 v_X12_111 w1391 rfl rfl (Nat.le_of_ble_eq_true rfl) (Nat.le_of_ble_eq_true rfl) (c_isSmall _ (seeV tx n x)) (fun M hM => ?_)
    subst hM
    refine aj.if_eqB (tgt := 116) dX12_next_100 rfl (fun c100 => ?_) (fun c100 => ?_)
    · rw [advTo_n (fun z => c100 (qq.mpr z))] at ha
      rw [ha] at hA
      exact hk M ⟨_, _, _, hA⟩
    · exact absurd (qq.mp c100).1 (by omega)
  | succ m ih =>
    intro x M hin ha hM
    obtain ⟨u, v, w, hA⟩ := hM
    have qq := seeV_rg (tx := tx) (n := n) (k := x) (lo := 97) (hi := 122) hb (by decide) (by decide)
    refine aj.aload_n dX12_next_89 rfl ?_
    refine aj.aload_n dX12_next_90 rfl ?_
    refine gM7 rfl dX12_next_91 hA ?_
    refine aj.callV1 (d' := 0) (As := [.int (nI x)]) (rest := []) dX12_next_94 v_X12_104 li_X12_see hA.1 rfl rfl rfl (Nat.le_of_ble_eq_true rfl) (Nat.le_of_ble_eq_true rfl) (c_see (I := va_up I 7 (nI x)) x rfl tx n hn htx hb h8 (by omega) ⟨_, _, _, hA⟩) (fun M hM => ?_)
    obtain ⟨u, v, w, hA⟩ := hM
    refine aj.callS1 (d' := 0) (As := [.int (seeV tx n x)]) (rest := []) dX12_next_97 v_X12_111 w1391 rfl rfl (Nat.le_of_ble_eq_true rfl) (Nat.le_of_ble_eq_true rfl) (c_isSmall _ (seeV tx n x)) (fun M hM => ?_)
    subst hM
    refine aj.if_eqB (tgt := 116) dX12_next_100 rfl (fun c100 => ?_) (fun c100 => ?_)
    · rw [advTo_n (fun z => c100 (qq.mpr z))] at ha
      rw [ha] at hA
      exact hk M ⟨_, _, _, hA⟩
    · refine aj.aload_n dX12_next_103 rfl ?_
      refine aj.dup dX12_next_104 rfl ?_
      refine gM7 rfl dX12_next_105 hA ?_
      refine aj.iconst (v := 1) dX12_next_108 rfl ?_
      refine aj.iaddN (a := x) (b := 1) dX12_next_109 rfl rfl ?_
      refine pM7 rfl dX12_next_110 hA (fun M hA => ?_)
      refine aj.goto (tgt := 89) dX12_next_113 rfl ?_
      rw [bx_uu] at hA
      exact ih (x + 1) M (by omega) (by rw [← advTo_y (qq.mp c100)]; exact ha) ⟨_, _, _, hA⟩
theorem next_l3 {G : zG} {l : Launch} {b : Nat} {M0 : zM} {I : Nat → Int32} {A : Nat → Nat → Int32} {L : Nat → Nat → Int64} {Q : Option Value → zM → Prop} (tx : Nat → Nat) (n : Nat) (hn : n ≤ 900) (htx : ∀ k, k < 900 → A 3 k = nI (tx k)) (hb : ∀ k, tx k < 256) (h8 : I 8 = nI n) (a e : Nat) (h6 : I 6 = nI a) (hk : ∀ M, mW b M0 M (va_up (va_up I 7 (nI e)) 10 (nI (numL tx a (min 3 (e - a))))) A L → aj G l kX12_next 5 209 [(0, .ref b)] [] M 0 0 Q) : ∀ (m x : Nat) (M : zM), x + m = n → a ≤ x → advTo cDg tx n x = e → mW b M0 M (va_up (va_up I 7 (nI x)) 10 (nI (numL tx a (min 3 (x - a))))) A L → aj G l kX12_next 5 146 [(0, .ref b)] [] M 0 0 Q := by
  intro m
  induction m with
  | zero =>
    intro x M hin hax ha hM
    obtain ⟨u, v, w, hA⟩ := hM
    have qq := seeV_rg (tx := tx) (n := n) (k := x) (lo := 48) (hi := 57) hb (by decide) (by decide)
    refine aj.aload_n dX12_next_146 rfl ?_
    refine aj.aload_n dX12_next_147 rfl ?_
    refine gM7 rfl dX12_next_148 hA ?_
    refine aj.callV1 (d' := 0) (As := [.int (nI x)]) (rest := []) dX12_next_151 v_X12_104 li_X12_see hA.1 rfl rfl rfl (Nat.le_of_ble_eq_true rfl) (Nat.le_of_ble_eq_true rfl) (c_see (I := va_up (va_up I 7 (nI x)) 10 (nI (numL tx a (min 3 (x - a))))) x rfl tx n hn htx hb h8 (by omega) ⟨_, _, _, hA⟩) (fun M hM => ?_)
    obtain ⟨u, v, w, hA⟩ := hM
    refine aj.callS1 (d' := 0) (As := [.int (seeV tx n x)]) (rest := []) dX12_next_154 v_X12_118 w1401 rfl rfl (Nat.le_of_ble_eq_true rfl) (Nat.le_of_ble_eq_true rfl) (c_isDigit _ (seeV tx n x)) (fun M hM => ?_)
    subst hM
    refine aj.if_eqB (tgt := 209) dX12_next_157 rfl (fun c157 => ?_) (fun c157 => ?_)
    · rw [advTo_n (fun z => c157 (qq.mpr z))] at ha
      rw [ha] at hA
      exact hk M ⟨_, _, _, hA⟩
    · exact absurd (qq.mp c157).1 (by omega)
  | succ m ih =>
    intro x M hin hax ha hM
    obtain ⟨u, v, w, hA⟩ := hM
    have qq := seeV_rg (tx := tx) (n := n) (k := x) (lo := 48) (hi := 57) hb (by decide) (by decide)
    refine aj.aload_n dX12_next_146 rfl ?_
    refine aj.aload_n dX12_next_147 rfl ?_
    refine gM7 rfl dX12_next_148 hA ?_
    refine aj.callV1 (d' := 0) (As := [.int (nI x)]) (rest := []) dX12_next_151 v_X12_104 li_X12_see hA.1 rfl rfl rfl (Nat.le_of_ble_eq_true rfl) (Nat.le_of_ble_eq_true rfl) (c_see (I := va_up (va_up I 7 (nI x)) 10 (nI (numL tx a (min 3 (x - a))))) x rfl tx n hn htx hb h8 (by omega) ⟨_, _, _, hA⟩) (fun M hM => ?_)
    obtain ⟨u, v, w, hA⟩ := hM
    refine aj.callS1 (d' := 0) (As := [.int (seeV tx n x)]) (rest := []) dX12_next_154 v_X12_118 w1401 rfl rfl (Nat.le_of_ble_eq_true rfl) (Nat.le_of_ble_eq_true rfl) (c_isDigit _ (seeV tx n x)) (fun M hM => ?_)
    subst hM
    refine aj.if_eqB (tgt := 209) dX12_next_157 rfl (fun c157 => ?_) (fun c157 => ?_)
    · rw [advTo_n (fun z => c157 (qq.mpr z))] at ha
      rw [ha] at hA
      exact hk M ⟨_, _, _, hA⟩
    · have hdg := qq.mp c157
      have hsee : seeV tx n x = nI (tx x) := if_pos hdg.1
      have hbx := hb x
      refine aj.aload_n dX12_next_160 rfl ?_
      refine gM7 rfl dX12_next_161 hA ?_
      refine aj.aload_n dX12_next_164 rfl ?_
      refine gM6 rfl dX12_next_165 hA ?_
      refine aj.isubN (a := x) (b := a) dX12_next_168 rfl h6 (by omega) ?_
      refine aj.iconst (v := 3) dX12_next_169 rfl ?_
      refine aj.icmp_geN (a := x - a) (b := 3) (tgt := 196) dX12_next_170 rfl rfl (by omega) (by omega) rfl (fun c170 => ?_) (fun c170 => ?_)
      · refine aj.aload_n dX12_next_196 rfl ?_
        refine aj.dup dX12_next_197 rfl ?_
        refine gM7 rfl dX12_next_198 hA ?_
        refine aj.iconst (v := 1) dX12_next_201 rfl ?_
        refine aj.iaddN (a := x) (b := 1) dX12_next_202 rfl rfl ?_
        refine pM7 rfl dX12_next_203 hA (fun M hA => ?_)
        refine aj.goto (tgt := 146) dX12_next_206 rfl ?_
        rw [va_up_3 (by omega)] at hA
        exact ih (x + 1) M (by omega) (by omega) (by rw [← advTo_y (qq.mp c157)]; exact ha) ⟨_, _, _, by rw [show min 3 (x + 1 - a) = min 3 (x - a) by omega]; exact hA⟩
      · refine aj.aload_n dX12_next_173 rfl ?_
        refine aj.bipush (v := 10) dX12_next_174 rfl ?_
        refine aj.aload_n dX12_next_176 rfl ?_
        refine gM10 rfl dX12_next_177 hA ?_
        refine aj.imulN (a := 10) (b := numL tx a (min 3 (x - a))) dX12_next_180 rfl rfl ?_
        refine aj.aload_n dX12_next_181 rfl ?_
        refine aj.aload_n dX12_next_182 rfl ?_
        refine gM7 rfl dX12_next_183 hA ?_
        refine aj.callV1 (d' := 0) (As := [.int (nI x)]) (rest := [.int (nI (10 * (numL tx a (min 3 (x - a))))), .ref b]) dX12_next_186 v_X12_104 li_X12_see hA.1 rfl rfl rfl (Nat.le_of_ble_eq_true rfl) (Nat.le_of_ble_eq_true rfl) (c_see (I := va_up (va_up I 7 (nI x)) 10 (nI (numL tx a (min 3 (x - a))))) x rfl tx n hn htx hb h8 (by omega) ⟨_, _, _, hA⟩) (fun M hM => ?_)
        obtain ⟨u, v, w, hA⟩ := hM
        refine aj.iaddN (a := 10 * (numL tx a (min 3 (x - a)))) (b := tx x) dX12_next_189 rfl hsee ?_
        refine aj.bipush (v := 48) dX12_next_190 rfl ?_
        refine aj.isubN (a := (10 * (numL tx a (min 3 (x - a)))) + (tx x)) (b := 48) dX12_next_192 rfl rfl (by omega) ?_
        refine pM10 rfl dX12_next_193 hA (fun M hA => ?_)
        refine aj.aload_n dX12_next_196 rfl ?_
        refine aj.dup dX12_next_197 rfl ?_
        refine gM7 rfl dX12_next_198 hA ?_
        refine aj.iconst (v := 1) dX12_next_201 rfl ?_
        refine aj.iaddN (a := x) (b := 1) dX12_next_202 rfl rfl ?_
        refine pM7 rfl dX12_next_203 hA (fun M hA => ?_)
        refine aj.goto (tgt := 146) dX12_next_206 rfl ?_
        rw [bx_uu, va_up_3 (by omega)] at hA
        exact ih (x + 1) M (by omega) (by omega) (by rw [← advTo_y (qq.mp c157)]; exact ha) ⟨_, _, _, by rw [show min 3 (x + 1 - a) = min 3 (x - a) + 1 by omega, show numL tx a (min 3 (x - a) + 1) = 10 * numL tx a (min 3 (x - a)) + (tx (a + min 3 (x - a)) - 48) from rfl, show a + min 3 (x - a) = x by omega, ← Nat.add_sub_assoc (by omega)]; exact hA⟩
theorem next_l4 {G : zG} {l : Launch} {b : Nat} {M0 : zM} {I : Nat → Int32} {A : Nat → Nat → Int32} {L : Nat → Nat → Int64} {Q : Option Value → zM → Prop} (tx : Nat → Nat) (n : Nat) (hn : n ≤ 900) (htx : ∀ k, k < 900 → A 3 k = nI (tx k)) (hb : ∀ k, tx k < 256) (h8 : I 8 = nI n) {av : Nat → Nat} {fm : Nat} (hG : zSt G av fm) (a : Nat) (h6 : I 6 = nI a) (han : a < n) (hk : ∀ M, mW b M0 M (va_up I 9 (nI (sgK (tx a) 12))) A L → aj G l kX12_next 5 294 [(0, .ref b)] [] M 0 0 Q) : ∀ (m k : Nat) (M : zM), k + m = 12 → mW b M0 M (va_up I 9 (nI (sgK (tx a) k))) A L → aj G l kX12_next 5 254 [(1, .int (nI k)), (0, .ref b)] [] M 0 0 Q := by
  have h12 : (zch.getD 3 []).length = 12 := by decide
  have hbx := hb a
  have hsee : seeV tx n a = nI (tx a) := if_pos han
  intro m
  induction m with
  | zero =>
    intro k M hin hM
    obtain ⟨u, v, w, hA⟩ := hM
    have hz8 : zc 3 k < 128 := zc_l (by decide)
    refine aj.iload_n dX12_next_254 rfl ?_
    refine aj.ldcS 3 rfl rfl dX12_next_255 ?_
    refine aj.callT hG (d' := 1) (As := []) (rest := [.int (nI k)]) (by decide) dX12_next_257 v_X12_88 ⟨w461, w462⟩ rfl rfl rfl (Nat.le_of_ble_eq_true rfl) (Nat.le_of_ble_eq_true rfl) (s_length hG _ 3 (by decide)) ?_
    refine aj.icmp_geN (a := k) (b := (zch.getD 3 []).length) (tgt := 294) dX12_next_260 rfl rfl (by omega) (by omega) rfl (fun c260 => ?_) (fun c260 => ?_)
    · refine aj.pick [1] rfl ?_
      rw [show k = 12 by omega] at hA
      exact hk M ⟨_, _, _, hA⟩
    · exact absurd c260 (by omega)
  | succ m ih =>
    intro k M hin hM
    obtain ⟨u, v, w, hA⟩ := hM
    have hz8 : zc 3 k < 128 := zc_l (by decide)
    refine aj.iload_n dX12_next_254 rfl ?_
    refine aj.ldcS 3 rfl rfl dX12_next_255 ?_
    refine aj.callT hG (d' := 1) (As := []) (rest := [.int (nI k)]) (by decide) dX12_next_257 v_X12_88 ⟨w461, w462⟩ rfl rfl rfl (Nat.le_of_ble_eq_true rfl) (Nat.le_of_ble_eq_true rfl) (s_length hG _ 3 (by decide)) ?_
    refine aj.icmp_geN (a := k) (b := (zch.getD 3 []).length) (tgt := 294) dX12_next_260 rfl rfl (by omega) (by omega) rfl (fun c260 => ?_) (fun c260 => ?_)
    · exact absurd c260 (by omega)
    · refine aj.aload_n dX12_next_263 rfl ?_
      refine aj.aload_n dX12_next_264 rfl ?_
      refine gM6 rfl dX12_next_265 hA ?_
      refine aj.callV1 (d' := 0) (As := [.int (I 6)]) (rest := []) dX12_next_268 v_X12_104 li_X12_see hA.1 rfl rfl rfl (Nat.le_of_ble_eq_true rfl) (Nat.le_of_ble_eq_true rfl) (c_see (I := va_up I 9 (nI (sgK (tx a) k))) a h6 tx n hn htx hb h8 (by omega) ⟨_, _, _, hA⟩) (fun M hM => ?_)
      obtain ⟨u, v, w, hA⟩ := hM
      refine aj.ldcS 3 rfl rfl dX12_next_271 ?_
      refine aj.iload_n dX12_next_273 rfl ?_
      refine aj.callT hG (d' := 3) (As := [.int (nI k)]) (rest := [.int (seeV tx n a)]) (by decide) dX12_next_274 v_X12_94 ⟨w471, w472⟩ rfl rfl rfl (Nat.le_of_ble_eq_true rfl) (Nat.le_of_ble_eq_true rfl) (s_charAt hG _ 3 (by decide) k (by omega)) ?_
      refine aj.icmp_neN (a := tx a) (b := zc 3 k) (tgt := 288) dX12_next_277 hsee rfl (by omega) (by omega) rfl (fun c277 => ?_) (fun c277 => ?_)
      · refine aj.iincN (a := k) (c := 1) (lv' := [(1, .int (nI (k + 1))), (0, .ref b)]) dX12_next_288 rfl (Nat.le_of_ble_eq_true rfl) rfl rfl rfl ?_
        refine aj.goto (tgt := 254) dX12_next_291 rfl ?_
        refine aj.pick [0, 1] rfl ?_
        exact ih (k + 1) M (by omega) ⟨_, _, _, by rw [sgK_s (by omega), if_neg c277]; exact hA⟩
      · refine aj.aload_n dX12_next_280 rfl ?_
        refine aj.bipush (v := 30) dX12_next_281 rfl ?_
        refine aj.iload_n dX12_next_283 rfl ?_
        refine aj.iaddN (a := 30) (b := k) dX12_next_284 rfl rfl ?_
        refine pM9 rfl dX12_next_285 hA (fun M hA => ?_)
        refine aj.iincN (a := k) (c := 1) (lv' := [(1, .int (nI (k + 1))), (0, .ref b)]) dX12_next_288 rfl (Nat.le_of_ble_eq_true rfl) rfl rfl rfl ?_
        refine aj.goto (tgt := 254) dX12_next_291 rfl ?_
        refine aj.pick [0, 1] rfl ?_
        rw [bx_uu] at hA
        exact ih (k + 1) M (by omega) ⟨_, _, _, by rw [sgK_s (by omega), if_pos c277]; exact hA⟩
theorem next_mid {G : zG} {l : Launch} {b : Nat} {M0 : zM} {I : Nat → Int32} {A : Nat → Nat → Int32} {L : Nat → Nat → Int64} {av : Nat → Nat} {fm : Nat} (hG : zSt G av fm) (tx : Nat → Nat) (n : Nat) (hn : n ≤ 900) (htx : ∀ k, k < 900 → A 3 k = nI (tx k)) (hb : ∀ k, tx k < 256) (h8 : I 8 = nI n) (p a : Nat) (hpn : p ≤ n) (ha : advTo cWh tx n p = a) (M : zM) (hM : mW b M0 M (va_up I 6 (nI a)) A L) : aj G l kX12_next 5 47 [(0, .ref b)] [] M 0 0 (zv (fun M' => ∃ I', pNx I I' (tokA tx n p) ∧ mW b M0 M' I' A L)) := by
  obtain ⟨u, v, w, hA⟩ := hM
  have han := advTo_le cWh tx (n := n) (p := p) hpn
  rw [ha] at han
  have et : tokA tx n p = tokB tx n a := by unfold tokA; rw [ha]
  rw [et]
  have q1 := seeV_rg (tx := tx) (n := n) (k := a) (lo := 97) (hi := 122) hb (by decide) (by decide)
  have q2 := seeV_rg (tx := tx) (n := n) (k := a) (lo := 48) (hi := 57) hb (by decide) (by decide)
  have e1 := advTo_ge cSm tx n (a + 1)
  have e2 := advTo_le cSm tx (n := n) (p := a) (by omega)
  refine aj.aload_n dX12_next_47 rfl ?_
  refine aj.aload_n dX12_next_48 rfl ?_
  refine gM6 rfl dX12_next_49 hA ?_
  refine pM7 rfl dX12_next_52 hA (fun M hA => ?_)
  refine aj.aload_n dX12_next_55 rfl ?_
  refine gM6 rfl dX12_next_56 hA ?_
  refine aj.aload_n dX12_next_59 rfl ?_
  refine gM8 rfl dX12_next_60 hA ?_
  refine aj.icmp_ltN (a := a) (b := n) (tgt := 75) dX12_next_63 rfl h8 (by omega) (by omega) rfl (fun c63 => ?_) (fun c63 => ?_)
  · refine aj.aload_n dX12_next_75 rfl ?_
    refine aj.aload_n dX12_next_76 rfl ?_
    refine gM6 rfl dX12_next_77 hA ?_
    refine aj.callV1 (d' := 0) (As := [.int (nI a)]) (rest := []) dX12_next_80 v_X12_104 li_X12_see hA.1 rfl rfl rfl (Nat.le_of_ble_eq_true rfl) (Nat.le_of_ble_eq_true rfl) (c_see (I := va_up (va_up I 6 (nI a)) 7 (nI a)) a rfl tx n hn htx hb h8 (by omega) ⟨_, _, _, hA⟩) (fun M hM => ?_)
    obtain ⟨u, v, w, hA⟩ := hM
    refine aj.callS1 (d' := 0) (As := [.int (seeV tx n a)]) (rest := []) dX12_next_83 v_X12_111 w1391 rfl rfl (Nat.le_of_ble_eq_true rfl) (Nat.le_of_ble_eq_true rfl) (c_isSmall _ (seeV tx n a)) (fun M hM => ?_)
    subst hM
    refine aj.if_eqB (tgt := 127) dX12_next_86 rfl (fun c86 => ?_) (fun c86 => ?_)
    · refine aj.aload_n dX12_next_127 rfl ?_
      refine aj.aload_n dX12_next_128 rfl ?_
      refine gM6 rfl dX12_next_129 hA ?_
      refine aj.callV1 (d' := 0) (As := [.int (nI a)]) (rest := []) dX12_next_132 v_X12_104 li_X12_see hA.1 rfl rfl rfl (Nat.le_of_ble_eq_true rfl) (Nat.le_of_ble_eq_true rfl) (c_see (I := va_up (va_up I 6 (nI a)) 7 (nI a)) a rfl tx n hn htx hb h8 (by omega) ⟨_, _, _, hA⟩) (fun M hM => ?_)
      obtain ⟨u, v, w, hA⟩ := hM
      refine aj.callS1 (d' := 0) (As := [.int (seeV tx n a)]) (rest := []) dX12_next_135 v_X12_118 w1401 rfl rfl (Nat.le_of_ble_eq_true rfl) (Nat.le_of_ble_eq_true rfl) (c_isDigit _ (seeV tx n a)) (fun M hM => ?_)
      subst hM
      refine aj.if_eqB (tgt := 236) dX12_next_138 rfl (fun c138 => ?_) (fun c138 => ?_)
      · refine aj.aload_n dX12_next_236 rfl ?_
        refine aj.dup dX12_next_237 rfl ?_
        refine gM7 rfl dX12_next_238 hA ?_
        refine aj.iconst (v := 1) dX12_next_241 rfl ?_
        refine aj.iaddN (a := a) (b := 1) dX12_next_242 rfl rfl ?_
        refine pM7 rfl dX12_next_243 hA (fun M hA => ?_)
        refine aj.aload_n dX12_next_246 rfl ?_
        refine aj.bipush (v := 25) dX12_next_247 rfl ?_
        refine pM9 rfl dX12_next_249 hA (fun M hA => ?_)
        refine aj.iconst (v := 0) dX12_next_252 rfl ?_
        refine aj.istore_n (lv' := [(1, .int 0), (0, .ref b)]) dX12_next_253 (Nat.le_of_ble_eq_true rfl) rfl ?_
        refine aj.pick [0, 1] rfl ?_
        refine next_l4 (I := va_up (va_up (va_up I 6 (nI a)) 7 (nI a)) 7 (nI (a + 1))) tx n hn htx hb h8 hG a rfl (by omega) (fun M hM => ?_) 12 0 M rfl ⟨_, _, _, hA⟩
        obtain ⟨u, v, w, hA⟩ := hM
        refine aj.vret rfl dX12_next_294 ⟨rfl, _, ⟨?_, ?_, ?_, ?_, fun j h1 h2 h3 h4 => by simp only [va_up_ne _ _ h1, va_up_ne _ _ h2, va_up_ne _ _ h3, va_up_ne _ _ h4]⟩, _, _, _, hA⟩
        · unfold tokB; rw [if_neg (by omega), if_neg (fun z => c86 (q1.mpr ⟨by omega, z⟩)), if_neg (fun z => c138 (q2.mpr ⟨by omega, z⟩))]; rfl
        · unfold tokB; rw [if_neg (by omega), if_neg (fun z => c86 (q1.mpr ⟨by omega, z⟩)), if_neg (fun z => c138 (q2.mpr ⟨by omega, z⟩))]; rfl
        · unfold tokB; rw [if_neg (by omega), if_neg (fun z => c86 (q1.mpr ⟨by omega, z⟩)), if_neg (fun z => c138 (q2.mpr ⟨by omega, z⟩))]; rfl
        · unfold tokB; rw [if_neg (by omega), if_neg (fun z => c86 (q1.mpr ⟨by omega, z⟩)), if_neg (fun z => c138 (q2.mpr ⟨by omega, z⟩))]; intro z; exact absurd z (by show (if tx a ∈ sgs then 30 + sgs.idxOf (tx a) else 25) ≠ 23; split <;> omega)
      · refine aj.aload_n dX12_next_141 rfl ?_
        refine aj.iconst (v := 0) dX12_next_142 rfl ?_
        refine pM10 rfl dX12_next_143 hA (fun M hA => ?_)
        refine next_l3 (I := va_up (va_up I 6 (nI a)) 7 (nI a)) tx n hn htx hb h8 a (advTo cDg tx n a) rfl (fun M hM => ?_) (n - a) a M (by omega) (by omega) rfl ⟨_, _, _, by rw [bx_uu, Nat.sub_self]; exact hA⟩
        obtain ⟨u, v, w, hA⟩ := hM
        rw [bx_uu] at hA
        have e3 := advTo_ge cDg tx n a
        have e4 := advTo_le cDg tx (n := n) (p := a) (by omega)
        refine aj.aload_n dX12_next_209 rfl ?_
        refine aj.aload_n dX12_next_210 rfl ?_
        refine gM7 rfl dX12_next_211 hA ?_
        refine aj.aload_n dX12_next_214 rfl ?_
        refine gM6 rfl dX12_next_215 hA ?_
        refine aj.isubN (a := advTo cDg tx n a) (b := a) dX12_next_218 rfl rfl (by omega) ?_
        refine aj.iconst (v := 3) dX12_next_219 rfl ?_
        refine aj.icmp_leN (a := (advTo cDg tx n a) - a) (b := 3) (tgt := 228) dX12_next_220 rfl rfl (by omega) (by omega) rfl (fun c220 => ?_) (fun c220 => ?_)
        · refine aj.bipush (v := 23) dX12_next_228 rfl ?_
          refine pM9 rfl dX12_next_230 hA (fun M hA => ?_)
          refine aj.goto (tgt := 294) dX12_next_233 rfl ?_
          refine aj.vret rfl dX12_next_294 ⟨rfl, _, ⟨?_, ?_, ?_, ?_, fun j h1 h2 h3 h4 => by simp only [va_up_ne _ _ h1, va_up_ne _ _ h2, va_up_ne _ _ h3, va_up_ne _ _ h4]⟩, _, _, _, hA⟩
          · unfold tokB; rw [if_neg (by omega), if_neg (fun z => c86 (q1.mpr ⟨by omega, z⟩)), if_pos (q2.mp c138).2]; rfl
          · unfold tokB; rw [if_neg (by omega), if_neg (fun z => c86 (q1.mpr ⟨by omega, z⟩)), if_pos (q2.mp c138).2]; rfl
          · unfold tokB; rw [if_neg (by omega), if_neg (fun z => c86 (q1.mpr ⟨by omega, z⟩)), if_pos (q2.mp c138).2]; show _ = nI (if 3 < advTo cDg tx n a - a then 25 else 23); rw [if_neg (by omega)]; rfl
          · unfold tokB; rw [if_neg (by omega), if_neg (fun z => c86 (q1.mpr ⟨by omega, z⟩)), if_pos (q2.mp c138).2]; intro _; rfl
        · refine aj.bipush (v := 25) dX12_next_223 rfl ?_
          refine aj.goto (tgt := 230) dX12_next_225 rfl ?_
          refine pM9 rfl dX12_next_230 hA (fun M hA => ?_)
          refine aj.goto (tgt := 294) dX12_next_233 rfl ?_
          refine aj.vret rfl dX12_next_294 ⟨rfl, _, ⟨?_, ?_, ?_, ?_, fun j h1 h2 h3 h4 => by simp only [va_up_ne _ _ h1, va_up_ne _ _ h2, va_up_ne _ _ h3, va_up_ne _ _ h4]⟩, _, _, _, hA⟩
          · unfold tokB; rw [if_neg (by omega), if_neg (fun z => c86 (q1.mpr ⟨by omega, z⟩)), if_pos (q2.mp c138).2]; rfl
          · unfold tokB; rw [if_neg (by omega), if_neg (fun z => c86 (q1.mpr ⟨by omega, z⟩)), if_pos (q2.mp c138).2]; rfl
          · unfold tokB; rw [if_neg (by omega), if_neg (fun z => c86 (q1.mpr ⟨by omega, z⟩)), if_pos (q2.mp c138).2]; show _ = nI (if 3 < advTo cDg tx n a - a then 25 else 23); rw [if_pos (by omega)]; rfl
          · unfold tokB; rw [if_neg (by omega), if_neg (fun z => c86 (q1.mpr ⟨by omega, z⟩)), if_pos (q2.mp c138).2]; intro _; rfl
    · have hy := advTo_y (q := cSm) (q1.mp c86)
      refine next_l2 (I := va_up (va_up I 6 (nI a)) 7 (nI a)) tx n hn htx hb h8 (advTo cSm tx n a) (fun M hM => ?_) (n - a) a M (by omega) rfl ⟨_, _, _, by rw [bx_uu]; exact hA⟩
      obtain ⟨u, v, w, hA⟩ := hM
      rw [bx_uu] at hA
      refine aj.aload_n dX12_next_116 rfl ?_
      refine aj.aload_n dX12_next_117 rfl ?_
      refine aj.callV1 (d' := 4) (As := []) (rest := [.ref b]) dX12_next_118 v_X12_115 li_X12_keyAt hA.1 rfl rfl rfl (Nat.le_of_ble_eq_true rfl) (Nat.le_of_ble_eq_true rfl) (c_keyAt hG tx a (advTo cSm tx n a) rfl rfl (by omega) (by omega) htx hb ⟨_, _, _, hA⟩) (fun M hM => ?_)
      obtain ⟨u, v, w, hA⟩ := hM
      refine pM9 rfl dX12_next_121 hA (fun M hA => ?_)
      refine aj.goto (tgt := 294) dX12_next_124 rfl ?_
      refine aj.vret rfl dX12_next_294 ⟨rfl, _, ⟨?_, ?_, ?_, ?_, fun j h1 h2 h3 h4 => by simp only [va_up_ne _ _ h1, va_up_ne _ _ h2, va_up_ne _ _ h3, va_up_ne _ _ h4]⟩, _, _, _, hA⟩
      · unfold tokB; rw [if_neg (by omega), if_pos (q1.mp c86).2]; rfl
      · unfold tokB; rw [if_neg (by omega), if_pos (q1.mp c86).2]; rfl
      · unfold tokB; rw [if_neg (by omega), if_pos (q1.mp c86).2]; rfl
      · unfold tokB; rw [if_neg (by omega), if_pos (q1.mp c86).2]; intro z; exact absurd z (by show kws.idxOf _ ≠ 23; have := List.idxOf_le_length (a := wordL tx a (advTo cSm tx n a - a)) (l := kws); have e : kws.length = 22 := rfl; omega)
  · refine aj.aload_n dX12_next_66 rfl ?_
    refine aj.bipush (v := 24) dX12_next_67 rfl ?_
    refine pM9 rfl dX12_next_69 hA (fun M hA => ?_)
    refine aj.goto (tgt := 294) dX12_next_72 rfl ?_
    refine aj.vret rfl dX12_next_294 ⟨rfl, _, ⟨?_, ?_, ?_, ?_, fun j h1 h2 h3 h4 => by simp only [va_up_ne _ _ h1, va_up_ne _ _ h2, va_up_ne _ _ h3, va_up_ne _ _ h4]⟩, _, _, _, hA⟩
    · unfold tokB; rw [if_pos (by omega)]; rfl
    · unfold tokB; rw [if_pos (by omega)]; rfl
    · unfold tokB; rw [if_pos (by omega)]; rfl
    · unfold tokB; rw [if_pos (by omega)]; intro z; cases z
theorem c_next {G : zG} {l : Launch} {b : Nat} {M0 M : zM} {I : Nat → Int32} {A : Nat → Nat → Int32} {L : Nat → Nat → Int64} {av : Nat → Nat} {fm : Nat} (hG : zSt G av fm) (tx : Nat → Nat) (n : Nat) (hn : n ≤ 900) (htx : ∀ k, k < 900 → A 3 k = nI (tx k)) (hb : ∀ k, tx k < 256) (h8 : I 8 = nI n) (p : Nat) (h7 : I 7 = nI p) (hpn : p ≤ n) (hM : mW b M0 M I A L) : am G l kX12_next 5 [.ref b] M 0 0 (zv (fun M' => ∃ I', pNx I I' (tokA tx n p) ∧ mW b M0 M' I' A L)) := by
  obtain ⟨u, v, w, hA⟩ := hM
  refine am.of (by decide) (Nat.le_of_ble_eq_true rfl) ?_
  refine aj.aload_n dX12_next_0 rfl ?_
  refine aj.aload_n dX12_next_1 rfl ?_
  refine gM7 rfl dX12_next_2 hA ?_
  refine pM6 rfl dX12_next_5 hA (fun M hA => ?_)
  exact next_l1 tx n hn htx hb h8 (advTo cWh tx n p) (fun M hM => next_mid hG tx n hn htx hb h8 p _ hpn rfl M hM) (n - p) p M (by omega) rfl ⟨_, _, _, by rw [← h7]; exact hA⟩
