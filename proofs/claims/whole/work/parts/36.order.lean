def oQ (F : Nat → List (List Nat)) : Nat → Nat → List (List Nat)
  | 0, _ => []
  | n + 1, s => F s ++ oQ F n (s + 1)
/-- the orders of those of nS who have not gone, as they come -/
def oP (nS : Nat) : Nat → List Nat → List (List Nat)
  | 0, _ => [[]]
  | k + 1, gone => oQ (fun s => if s ∈ gone then [] else (oP nS k (s :: gone)).map (fun c => s :: c)) nS 0
theorem oQ_s (F : Nat → List (List Nat)) (n s : Nat) : oQ F (n + 1) s = F s ++ oQ F n (s + 1) := rfl
theorem oP_s (nS k : Nat) (gone : List Nat) : oP nS (k + 1) gone = oQ (fun s => if s ∈ gone then [] else (oP nS k (s :: gone)).map (fun c => s :: c)) nS 0 := rfl
/-- the first of a row by which most comes out -/
def lmx (g : List Nat → Int32) : Option (List Nat) → List (List Nat) → Option (List Nat)
  | o, [] => o
  | none, x :: xs => lmx g (some x) xs
  | some y, x :: xs => lmx g (some (if g x ≤ g y then y else x)) xs
theorem lmx_app (g : List Nat → Int32) : ∀ (xs : List (List Nat)) (o : Option (List Nat)) (ys : List (List Nat)), lmx g o (xs ++ ys) = lmx g (lmx g o xs) ys
  | [], o, ys => by cases o <;> rfl
  | x :: xs, none, ys => lmx_app g xs (some x) ys
  | x :: xs, some y, ys => lmx_app g xs _ ys
theorem lmx_some (g : List Nat → Int32) : ∀ (xs : List (List Nat)) (y : List Nat), ∃ z, lmx g (some y) xs = some z
  | [], y => ⟨y, rfl⟩
  | _ :: xs, _ => lmx_some g xs _
/-- what an order gains, from a turn on -/
def oG (ga : Nat → Nat → Int32) : Nat → List Nat → Int32
  | _, [] => 0
  | i, s :: c => ga i s + oG ga (i + 1) c
theorem oG_snoc (ga : Nat → Nat → Int32) : ∀ (c : List Nat) (i s : Nat), oG ga i (c ++ [s]) = oG ga i c + ga (i + c.length) s
  | [], i, s => by show ga i s + 0 = 0 + ga (i + 0) s; rw [Int32.add_zero, Int32.zero_add]; rfl
  | x :: c, i, s => by
    show ga i x + oG ga (i + 1) (c ++ [s]) = ga i x + oG ga (i + 1) c + ga (i + (c.length + 1)) s
    rw [oG_snoc ga c (i + 1) s, Int32.add_assoc, show i + 1 + c.length = i + (c.length + 1) by omega]
def gaOK (ga : Nat → Nat → Int32) (nS : Nat) : Prop := ∀ i s, i < nS → s < nS → -1000 ≤ (ga i s).toInt ∧ (ga i s).toInt ≤ 1000
theorem oG_bd {ga : Nat → Nat → Int32} {nS : Nat} (h4 : nS ≤ 4) (hg : gaOK ga nS) : ∀ (c : List Nat) (i : Nat), i + c.length ≤ nS → (∀ x ∈ c, x < nS) → -(1000 * c.length : Int) ≤ (oG ga i c).toInt ∧ (oG ga i c).toInt ≤ 1000 * c.length
  | [], i, _, _ => by
    show -(1000 * ((0 : Nat) : Int)) ≤ (0 : Int32).toInt ∧ (0 : Int32).toInt ≤ 1000 * ((0 : Nat) : Int)
    decide
  | x :: c, i, hl, hx => by
    have hl' : i + (c.length + 1) ≤ nS := hl
    have h1 := oG_bd h4 hg c (i + 1) (by omega) (fun y hy => hx y (List.mem_cons_of_mem _ hy))
    have h2 := hg i x (by omega) (hx x List.mem_cons_self)
    show -(1000 * ((c.length + 1 : Nat) : Int)) ≤ (ga i x + oG ga (i + 1) c).toInt ∧ (ga i x + oG ga (i + 1) c).toInt ≤ 1000 * ((c.length + 1 : Nat) : Int)
    rw [Int32.toInt_add, Int.bmod_eq_of_le (by omega) (by omega)]
    omega
def oSt (ga : Nat → Nat → Int32) (nS : Nat) (o : Option (List Nat)) (bs : Int32) (br : Nat → Int32) : Prop := match o with
  | none => bs = -268435456
  | some y => bs = oG ga 0 y ∧ ∀ k, k < nS → br k = nI (y.getD k 0)
theorem zbits_4 (f : Nat → Prop) [DecidablePred f] (s : Nat) (hs : s < 4) : zbits f 4 ||| (1 <<< (nI s &&& 31)) = zbits (fun t => t = s ∨ f t) 4 := by
  have e : ∀ (a b c d : Bool) (s : Nat), s < 4 → zbits (fun t => (if t = 0 then a else if t = 1 then b else if t = 2 then c else d) = true) 4 ||| (1 <<< (nI s &&& 31)) = zbits (fun t => t = s ∨ (if t = 0 then a else if t = 1 then b else if t = 2 then c else d) = true) 4 := by decide
  have z : ∀ (p q : Nat → Prop) [DecidablePred p] [DecidablePred q], (∀ t, t < 4 → (p t ↔ q t)) → zbits p 4 = zbits q 4 := by
    intro p q _ _ h
    have g : ∀ n, n ≤ 4 → zbits p n = zbits q n := by
      intro n
      induction n with
      | zero => intro _; rfl
      | succ n ih =>
        intro hn
        rw [zbits_s, zbits_s, ih (by omega)]
        by_cases c : p n
        · rw [if_pos c, if_pos ((h n (by omega)).mp c)]
        · rw [if_neg c, if_neg (fun k => c ((h n (by omega)).mpr k))]
    exact g 4 (Nat.le_refl _)
  have w : ∀ t, t < 4 → (f t ↔ (if t = 0 then decide (f 0) else if t = 1 then decide (f 1) else if t = 2 then decide (f 2) else decide (f 3)) = true) := by
    intro t ht
    rcases (show t = 0 ∨ t = 1 ∨ t = 2 ∨ t = 3 by omega) with rfl | rfl | rfl | rfl <;> simp
  rw [z f _ w, e _ _ _ _ s hs]
  exact z _ _ (fun t ht => by rw [w t ht])
theorem zbits_congr4 {p q : Nat → Prop} [DecidablePred p] [DecidablePred q] (h : ∀ t, p t ↔ q t) : ∀ n, zbits p n = zbits q n
  | 0 => rfl
  | n + 1 => by
    rw [zbits_s, zbits_s, zbits_congr4 h n]
    by_cases c : p n
    · rw [if_pos c, if_pos ((h n).mp c)]
    · rw [if_neg c, if_neg (fun k => c ((h n).mpr k))]
theorem order_cpy {G : zG} {l : Launch} {b : Nat} {M0 : zM} {I : Nat → Int32} {A : Nat → Nat → Int32} {L : Nat → Nat → Int64} {Q : Option Value → zM → Prop}   (hk : ∀ M : zM, mW b M0 M I (va_up A 30 (va_cpy (A 29) (A 30) 0 0 4)) L → aj G l kX12_goesOrder 0 54 [(0, .ref b)] [] M 0 0 Q) : ∀ (n i : Nat) (M : zM), i + n = 4 → mW b M0 M I (va_up A 30 (va_cpy (A 29) (A 30) 0 0 i)) L → aj G l kX12_goesOrder 0 28 [(4, .int (nI i)), (0, .ref b)] [] M 0 0 Q := by
  intro n
  induction n with
  | zero =>
    intro i M hin hM
    obtain ⟨u, v, w, hA⟩ := hM
    have hi : i = 4 := by omega
    refine aj.iload dX12_goesOrder_28 rfl ?_
    refine aj.iconst (v := 4) dX12_goesOrder_30 rfl ?_
    refine aj.icmp_geN (a := i) (b := 4) (tgt := 54) dX12_goesOrder_31 rfl rfl (by omega) (by omega) rfl (fun c31 => ?_) (fun c31 => ?_)
    · refine aj.pick [1] rfl ?_
      rw [hi] at hA
      exact hk M ⟨_, _, _, hA⟩
    · exact absurd c31 (by omega)
  | succ n ih =>
    intro i M hin hM
    obtain ⟨u, v, w, hA⟩ := hM
    refine aj.iload dX12_goesOrder_28 rfl ?_
    refine aj.iconst (v := 4) dX12_goesOrder_30 rfl ?_
    refine aj.icmp_geN (a := i) (b := 4) (tgt := 54) dX12_goesOrder_31 rfl rfl (by omega) (by omega) rfl (fun c31 => ?_) (fun c31 => ?_)
    · exact absurd c31 (by omega)
    · refine aj.aload_n dX12_goesOrder_34 rfl ?_
      refine gM30 rfl dX12_goesOrder_35 hA ?_
      refine aj.iload dX12_goesOrder_38 rfl ?_
      refine aj.aload_n dX12_goesOrder_40 rfl ?_
      refine gM29 rfl dX12_goesOrder_41 hA ?_
      refine aj.iload dX12_goesOrder_44 rfl ?_
      refine aM29N (i := i) dX12_goesOrder_46 hA rfl (by omega) ?_
      refine sM30N (i := i) dX12_goesOrder_47 hA rfl (by omega) (fun M hA => ?_)
      refine aj.iincN (a := i) (c := 1) (lv' := [(4, .int (nI (i + 1))), (0, .ref b)]) dX12_goesOrder_48 rfl (Nat.le_of_ble_eq_true rfl) rfl rfl rfl ?_
      refine aj.goto (tgt := 28) dX12_goesOrder_51 rfl ?_
      refine aj.pick [0, 1] rfl ?_
      exact ih (i + 1) M (by omega) ⟨_, _, _, by
        rw [bx_uu] at hA
        have e := cpy_step (f := A 29) (g := A 30) (sp := 0) (dp := 0) (i := i)
        rw [← e]
        exact (by rw [Nat.zero_add]; exact hA)⟩
theorem order_end {G : zG} {l : Launch} {b : Nat} {M0 : zM} {I : Nat → Int32} {A : Nat → Nat → Int32} {L : Nat → Nat → Int64} (nS : Nat) (h4 : nS ≤ 4) (h6 : A 1 6 = nI nS) (ga : Nat → Nat → Int32) (hga : gaOK ga nS) (hmo : ∀ i s, i < nS → s < nS → A 28 (4 * i + s) = ga i s) (pre : List Nat) (hpl : pre.length = nS) (hpx : ∀ x ∈ pre, x < nS) (o : Option (List Nat)) (r br : Nat → Int32) (bs : Int32) (hr : ∀ j, j < nS → r j = nI (pre.getD j 0)) (ho : oSt ga nS o bs br) (gone : Int32) (M : zM) (hM : mW b M0 M (va_up I 31 bs) (va_up (va_up A 29 r) 30 br) L) : am G l kX12_goesOrder 0 [.ref b, .int (nI nS), .int gone, .int (oG ga 0 pre)] M 0 0 (zv (fun M' => ∃ (r' br' : Nat → Int32) (bs' : Int32), (∀ j, j < nS → r' j = r j) ∧ oSt ga nS (lmx (oG ga 0) o [pre]) bs' br' ∧ mW b M0 M' (va_up I 31 bs') (va_up (va_up A 29 r') 30 br') L)) := by
  obtain ⟨u, v, w, hA⟩ := hM
  have hgb := oG_bd h4 hga pre 0 (by omega) hpx
  refine am.of (by decide) (Nat.le_of_ble_eq_true rfl) ?_
  refine aj.iload_n dX12_goesOrder_0 rfl ?_
  refine aj.aload_n dX12_goesOrder_1 rfl ?_
  refine gM1 rfl dX12_goesOrder_2 hA ?_
  refine aj.bipush (v := 6) dX12_goesOrder_5 rfl ?_
  refine aM1N (i := 6) dX12_goesOrder_7 hA rfl (by omega) ?_
  refine aj.icmp_neN (a := nS) (b := nS) (tgt := 55) dX12_goesOrder_8 rfl h6 (by omega) (by omega) rfl (fun c8 => ?_) (fun c8 => ?_)
  · exact absurd rfl c8
  · refine aj.iload_n dX12_goesOrder_11 rfl ?_
    refine aj.aload_n dX12_goesOrder_12 rfl ?_
    refine gM31 rfl dX12_goesOrder_13 hA ?_
    refine aj.icmp_gt (tgt := 20) dX12_goesOrder_16 rfl (fun c16 => ?_) (fun c16 => ?_)
    · have c16 : bs < oG ga 0 pre := c16
      refine aj.aload_n dX12_goesOrder_20 rfl ?_
      refine aj.iload_n dX12_goesOrder_21 rfl ?_
      refine pM31 rfl dX12_goesOrder_22 hA (fun M hA => ?_)
      refine aj.iconst (v := 0) dX12_goesOrder_25 rfl ?_
      refine aj.istore (lv' := [(4, .int 0), (0, .ref b), (1, .int (nI nS)), (2, .int gone), (3, .int (oG ga 0 pre))]) dX12_goesOrder_26 (Nat.le_of_ble_eq_true rfl) rfl ?_
      refine aj.pick [0, 1] rfl ?_
      rw [bx_uu] at hA
      refine order_cpy (A := va_up (va_up A 29 r) 30 br) (I := va_up I 31 (oG ga 0 pre)) (fun M hM => aj.vret rfl dX12_goesOrder_54 ⟨rfl, r, va_cpy r br 0 0 4, oG ga 0 pre, fun _ _ => rfl, ?_, ?_⟩) 4 0 M (by omega) (by rw [cpy_0, va_up_id]; exact ⟨_, _, _, hA⟩)
      · have hy : ∀ k, k < nS → va_cpy r br 0 0 4 k = nI (pre.getD k 0) := fun k hk => by rw [pk_cpy_in (by omega) (by omega), Nat.sub_zero, Nat.zero_add]; exact hr k hk
        cases o with
        | none => exact ⟨rfl, hy⟩
        | some y =>
          rw [ho.1] at c16
          show oSt ga nS (some (if oG ga 0 pre ≤ oG ga 0 y then y else pre)) _ _
          rw [if_neg (by simp only [Int32.lt_iff_toInt_lt, Int32.le_iff_toInt_le] at *; omega)]
          exact ⟨rfl, hy⟩
      · rw [bx_uu] at hM
        exact hM
    · have c16 : oG ga 0 pre ≤ bs := Int32.not_lt.mp c16
      refine aj.vret rfl dX12_goesOrder_19 ⟨rfl, r, br, bs, fun _ _ => rfl, ?_, u, v, w, hA⟩
      cases o with
      | none =>
        have e : bs = -268435456 := ho
        rw [e] at c16
        have c16 := Int32.le_iff_toInt_le.mp c16
        rw [show (-268435456 : Int32).toInt = -268435456 from rfl] at c16
        omega
      | some y =>
        obtain ⟨h1, h2⟩ := ho
        rw [h1] at c16
        show oSt ga nS (some (if oG ga 0 pre ≤ oG ga 0 y then y else pre)) bs br
        rw [if_pos c16]
        exact ⟨h1, h2⟩
theorem va_up_29_30 {A : Nat → Nat → Int32} {r br r' : Nat → Int32} : va_up (va_up (va_up A 29 r) 30 br) 29 r' = va_up (va_up A 29 r') 30 br := by
  funext j
  by_cases h1 : j = 29
  · subst h1
    rw [va_up_self, va_up_ne _ _ (by omega), va_up_self]
  · by_cases h2 : j = 30
    · subst h2
      rw [va_up_ne _ _ (by omega), va_up_self, va_up_self]
    · rw [va_up_ne _ _ h1, va_up_ne _ _ h2, va_up_ne _ _ h1, va_up_ne _ _ h2, va_up_ne _ _ h1]
theorem order_loop {G : zG} {l : Launch} {b : Nat} {M0 : zM} {I : Nat → Int32} {A : Nat → Nat → Int32} {L : Nat → Nat → Int64} (nS : Nat) (h4 : nS ≤ 4) (h6 : A 1 6 = nI nS) (ga : Nat → Nat → Int32) (hga : gaOK ga nS) (hmo : ∀ i s, i < nS → s < nS → A 28 (4 * i + s) = ga i s) (k i : Nat) (hik : i + (k + 1) = nS) (pre gone : List Nat) (hpl : pre.length = i) (hrec : ∀ (s : Nat) (o : Option (List Nat)) (r br : Nat → Int32) (bs : Int32) (M : zM), s < nS → (∀ j, j < i + 1 → r j = nI ((pre ++ [s]).getD j 0)) → oSt ga nS o bs br → mW b M0 M (va_up I 31 bs) (va_up (va_up A 29 r) 30 br) L → am G l kX12_goesOrder k [.ref b, .int (nI (i + 1)), .int (zbits (fun t => t ∈ s :: gone) 4), .int (oG ga 0 (pre ++ [s]))] M 0 0 (zv (fun M' => ∃ (r' br' : Nat → Int32) (bs' : Int32), (∀ j, j < i + 1 → r' j = r j) ∧ oSt ga nS (lmx (oG ga 0) o ((oP nS k (s :: gone)).map (fun c => (pre ++ [s]) ++ c))) bs' br' ∧ mW b M0 M' (va_up I 31 bs') (va_up (va_up A 29 r') 30 br') L))) : ∀ (n s : Nat) (o : Option (List Nat)) (r br : Nat → Int32) (bs : Int32) (M : zM), s + n = nS → (∀ j, j < i → r j = nI (pre.getD j 0)) → oSt ga nS o bs br → mW b M0 M (va_up I 31 bs) (va_up (va_up A 29 r) 30 br) L → aj G l kX12_goesOrder (k + 1) 58 [(4, .int (nI s)), (0, .ref b), (1, .int (nI i)), (2, .int (zbits (fun t => t ∈ gone) 4)), (3, .int (oG ga 0 pre))] [] M 0 0 (zv (fun M' => ∃ (r' br' : Nat → Int32) (bs' : Int32), (∀ j, j < i → r' j = r j) ∧ oSt ga nS (lmx (oG ga 0) o ((oQ (fun s => if s ∈ gone then [] else (oP nS k (s :: gone)).map (fun c => s :: c)) n s).map (fun c => pre ++ c))) bs' br' ∧ mW b M0 M' (va_up I 31 bs') (va_up (va_up A 29 r') 30 br') L)) := by
  intro n
  induction n with
  | zero =>
    intro s o r br bs M hin hr ho hM
    obtain ⟨u, v, w, hA⟩ := hM
    refine aj.iload dX12_goesOrder_58 rfl ?_
    refine aj.aload_n dX12_goesOrder_60 rfl ?_
    refine gM1 rfl dX12_goesOrder_61 hA ?_
    refine aj.bipush (v := 6) dX12_goesOrder_64 rfl ?_
    refine aM1N (i := 6) dX12_goesOrder_66 hA rfl (by omega) ?_
    refine aj.icmp_geN (a := s) (b := nS) (tgt := 123) dX12_goesOrder_67 rfl h6 (by omega) (by omega) rfl (fun c67 => ?_) (fun c67 => ?_)
    · exact aj.vret rfl dX12_goesOrder_123 ⟨rfl, r, br, bs, fun _ _ => rfl, by cases o <;> exact ho, u, v, w, hA⟩
    · exact absurd c67 (by omega)
  | succ n ih =>
    intro s o r br bs M hin hr ho hM
    obtain ⟨u, v, w, hA⟩ := hM
    refine aj.iload dX12_goesOrder_58 rfl ?_
    refine aj.aload_n dX12_goesOrder_60 rfl ?_
    refine gM1 rfl dX12_goesOrder_61 hA ?_
    refine aj.bipush (v := 6) dX12_goesOrder_64 rfl ?_
    refine aM1N (i := 6) dX12_goesOrder_66 hA rfl (by omega) ?_
    refine aj.icmp_geN (a := s) (b := nS) (tgt := 123) dX12_goesOrder_67 rfl h6 (by omega) (by omega) rfl (fun c67 => ?_) (fun c67 => ?_)
    · exact absurd c67 (by omega)
    · refine aj.iload_n dX12_goesOrder_70 rfl ?_
      refine aj.i2l dX12_goesOrder_71 ?_
      refine aj.iload dX12_goesOrder_72 rfl ?_
      refine aj.callS1 (d' := 0) (As := [.long (Int32.toInt64 (zbits (fun t => t ∈ gone) 4)), .int (nI s)]) (rest := []) dX12_goesOrder_74 v_X12_391 w1787 rfl rfl (Nat.le_of_ble_eq_true rfl) (by omega) (c_isIn _ (fun t => t ∈ gone) 4 s rfl (by omega) (by omega)) (fun M hM => ?_)
      subst hM
      refine aj.if_eqB (tgt := 83) dX12_goesOrder_77 rfl (fun c77 => ?_) (fun c77 => ?_)
      · refine aj.aload_n dX12_goesOrder_83 rfl ?_
        refine gM29 rfl dX12_goesOrder_84 hA ?_
        refine aj.iload_n dX12_goesOrder_87 rfl ?_
        refine aj.iload dX12_goesOrder_88 rfl ?_
        refine sM29N (i := i) dX12_goesOrder_90 hA rfl (by omega) (fun M hA => ?_)
        have hq : ∀ j, j < i + 1 → upd r i (nI s) j = nI ((pre ++ [s]).getD j 0) := fun j hj => (if e : j = i then (by rw [e, pk_us, ← hpl]; simp [List.getD]) else (by rw [pk_un e, hr j (by omega)]; simp only [List.getD]; rw [List.getElem?_append_left (by omega)]))
        replace hA : mA b M0 M (va_up I 31 bs) (va_up (va_up A 29 (upd r i (nI s))) 30 br) L u v w := by rw [va_up_29_30] at hA; exact hA
        have hcall := hrec s o (upd r i (nI s)) br bs M (by omega) hq ho ⟨_, _, _, hA⟩
        have eb : zbits (fun t => t ∈ s :: gone) 4 = zbits (fun t => t ∈ gone) 4 ||| (1 <<< (nI s &&& 31)) := by rw [zbits_4 _ s (by omega)]; exact zbits_congr4 (fun t => by rw [List.mem_cons]) 4
        have es : oG ga 0 (pre ++ [s]) = oG ga 0 pre + A 28 (4 * i + s) := by rw [oG_snoc, hpl, Nat.zero_add, hmo i s (by omega) (by omega)]
        rw [eb, es] at hcall
        refine aj.aload_n dX12_goesOrder_91 rfl ?_
        refine aj.iload_n dX12_goesOrder_92 rfl ?_
        refine aj.iconst (v := 1) dX12_goesOrder_93 rfl ?_
        refine aj.iaddN (a := i) (b := 1) dX12_goesOrder_94 rfl rfl ?_
        refine aj.iload_n dX12_goesOrder_95 rfl ?_
        refine aj.iconst (v := 1) dX12_goesOrder_96 rfl ?_
        refine aj.iload dX12_goesOrder_97 rfl ?_
        refine aj.ishl dX12_goesOrder_99 ?_
        refine aj.ior dX12_goesOrder_100 ?_
        refine aj.iload_n dX12_goesOrder_101 rfl ?_
        refine aj.aload_n dX12_goesOrder_102 rfl ?_
        refine gM28 rfl dX12_goesOrder_103 hA ?_
        refine aj.iconst (v := 4) dX12_goesOrder_106 rfl ?_
        refine aj.iload_n dX12_goesOrder_107 rfl ?_
        refine aj.imulN (a := 4) (b := i) dX12_goesOrder_108 rfl rfl ?_
        refine aj.iload dX12_goesOrder_109 rfl ?_
        refine aj.iaddN (a := 4 * i) (b := s) dX12_goesOrder_111 rfl rfl ?_
        refine aM28N (i := (4 * i) + s) dX12_goesOrder_112 hA rfl (by omega) ?_
        refine aj.iadd dX12_goesOrder_113 ?_
        refine aj.callV0 (d' := k) (As := [.int (nI (i + 1)), .int ((zbits (fun t => t ∈ gone) 4) ||| (1 <<< ((nI s) &&& 31))), .int ((oG ga 0 pre) + (A 28 ((4 * i) + s)))]) (rest := []) dX12_goesOrder_114 v_X12_419 li_X12_goesOrder hA.1 rfl rfl rfl (Nat.le_of_ble_eq_true rfl) (by omega) (hcall) (fun M hM => ?_)
        obtain ⟨r2, br2, bs2, hr2, ho2, u, v, w, hA⟩ := hM
        refine aj.iincN (a := s) (c := 1) (lv' := [(4, .int (nI (s + 1))), (0, .ref b), (1, .int (nI i)), (2, .int (zbits (fun t => t ∈ gone) 4)), (3, .int (oG ga 0 pre))]) dX12_goesOrder_117 rfl (Nat.le_of_ble_eq_true rfl) rfl rfl rfl ?_
        refine aj.goto (tgt := 58) dX12_goesOrder_120 rfl ?_
        refine aj.pick [0, 1, 2, 3, 4] rfl ?_
        rw [oQ_s, if_neg (fun z => c77 ⟨by omega, z⟩), List.map_append, lmx_app, List.map_map]
        have em : (oP nS k (s :: gone)).map ((fun c => pre ++ c) ∘ (fun c => s :: c)) = (oP nS k (s :: gone)).map (fun c => (pre ++ [s]) ++ c) := List.map_congr_left (fun c _ => by show pre ++ s :: c = pre ++ [s] ++ c; rw [List.append_assoc]; rfl)
        rw [em]
        refine (ih (s + 1) _ r2 br2 bs2 M (by omega) (fun j hj => by rw [hr2 j (by omega), pk_un (by omega)]; exact hr j hj) ho2 ⟨_, _, _, hA⟩).mono (fun q M h => ?_)
        obtain ⟨h1, r3, br3, bs3, h2, h3, h4⟩ := h
        exact ⟨h1, r3, br3, bs3, fun j hj => by rw [h2 j hj, hr2 j (by omega), pk_un (by omega)], h3, h4⟩
      · refine aj.goto (tgt := 117) dX12_goesOrder_80 rfl ?_
        refine aj.iincN (a := s) (c := 1) (lv' := [(4, .int (nI (s + 1))), (0, .ref b), (1, .int (nI i)), (2, .int (zbits (fun t => t ∈ gone) 4)), (3, .int (oG ga 0 pre))]) dX12_goesOrder_117 rfl (Nat.le_of_ble_eq_true rfl) rfl rfl rfl ?_
        refine aj.goto (tgt := 58) dX12_goesOrder_120 rfl ?_
        refine aj.pick [0, 1, 2, 3, 4] rfl ?_
        rw [oQ_s, if_pos c77.2, List.nil_append]
        exact ih (s + 1) o r br bs M (by omega) hr ho ⟨_, _, _, hA⟩
theorem c_goesOrder {G : zG} {l : Launch} {b : Nat} {M0 : zM} {I : Nat → Int32} {A : Nat → Nat → Int32} {L : Nat → Nat → Int64} (nS : Nat) (h4 : nS ≤ 4) (h6 : A 1 6 = nI nS) (ga : Nat → Nat → Int32) (hga : gaOK ga nS) (hmo : ∀ i s, i < nS → s < nS → A 28 (4 * i + s) = ga i s) : ∀ (k i : Nat) (pre gone : List Nat) (o : Option (List Nat)) (r br : Nat → Int32) (bs : Int32) (M : zM), i + k = nS → pre.length = i → (∀ x ∈ pre, x < nS) → (∀ j, j < i → r j = nI (pre.getD j 0)) → oSt ga nS o bs br → mW b M0 M (va_up I 31 bs) (va_up (va_up A 29 r) 30 br) L → am G l kX12_goesOrder k [.ref b, .int (nI i), .int (zbits (fun t => t ∈ gone) 4), .int (oG ga 0 pre)] M 0 0 (zv (fun M' => ∃ (r' br' : Nat → Int32) (bs' : Int32), (∀ j, j < i → r' j = r j) ∧ oSt ga nS (lmx (oG ga 0) o ((oP nS k gone).map (fun c => pre ++ c))) bs' br' ∧ mW b M0 M' (va_up I 31 bs') (va_up (va_up A 29 r') 30 br') L)) := by
  intro k
  induction k with
  | zero =>
    intro i pre gone o r br bs M hik hpl hpx hr ho hM
    have e : i = nS := by omega
    subst e
    have h := order_end (G := G) (l := l) i h4 h6 ga hga hmo pre hpl hpx o r br bs hr ho (zbits (fun t => t ∈ gone) 4) M hM
    rw [show (oP i 0 gone).map (fun c => pre ++ c) = [pre] by show [pre ++ []] = [pre]; rw [List.append_nil]]
    exact h
  | succ k ih =>
    intro i pre gone o r br bs M hik hpl hpx hr ho hM
    obtain ⟨u, v, w, hA⟩ := hM
    refine am.of (by decide) (Nat.le_of_ble_eq_true rfl) ?_
    refine aj.iload_n dX12_goesOrder_0 rfl ?_
    refine aj.aload_n dX12_goesOrder_1 rfl ?_
    refine gM1 rfl dX12_goesOrder_2 hA ?_
    refine aj.bipush (v := 6) dX12_goesOrder_5 rfl ?_
    refine aM1N (i := 6) dX12_goesOrder_7 hA rfl (by omega) ?_
    refine aj.icmp_neN (a := i) (b := nS) (tgt := 55) dX12_goesOrder_8 rfl h6 (by omega) (by omega) rfl (fun c8 => ?_) (fun c8 => ?_)
    · refine aj.iconst (v := 0) dX12_goesOrder_55 rfl ?_
      refine aj.istore (lv' := [(4, .int 0), (0, .ref b), (1, .int (nI i)), (2, .int (zbits (fun t => t ∈ gone) 4)), (3, .int (oG ga 0 pre))]) dX12_goesOrder_56 (Nat.le_of_ble_eq_true rfl) rfl ?_
      refine aj.pick [0, 1, 2, 3, 4] rfl ?_
      exact order_loop nS h4 h6 ga hga hmo k i hik pre gone hpl (fun s o r br bs M hs hr ho hM => ih (i + 1) (pre ++ [s]) (s :: gone) o r br bs M (by omega) (by rw [List.length_append, hpl]; rfl) (fun x hx => by rcases List.mem_append.mp hx with q | q; exact hpx x q; rw [List.mem_singleton.mp q]; exact hs) hr ho hM) nS 0 o r br bs M (by omega) hr ho ⟨_, _, _, hA⟩
    · exact absurd c8 (by omega)
