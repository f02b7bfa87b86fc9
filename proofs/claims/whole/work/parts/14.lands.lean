def mN (x : Int32) : Nat := x.toNatClampNeg
/-- a number from 0 to n -/
def bd (x : Int32) (n : Nat) : Prop := x = nI (mN x) ∧ mN x ≤ n
theorem bd_nI {a n : Nat} (h : a ≤ n) (hn : n < 2 ^ 31) : bd (nI a) n := by
  have e : mN (nI a) = a := nI_clamp (by omega)
  exact ⟨by rw [e], by rw [e]; exact h⟩
theorem bd_of {x : Int32} {n : Nat} (h0 : 0 ≤ x.toInt) (h1 : x.toInt ≤ n) (hn : n < 2 ^ 31) : bd x n := by
  obtain ⟨a, ha, rfl⟩ := z_nat h0 h1 hn
  exact bd_nI ha hn
theorem mN_nI {a : Nat} (h : a < 2 ^ 31) : mN (nI a) = a := nI_clamp h
/-- a law in the row of codes -/
def lawAt (B : Nat → Int32) (j : Nat) (cs : List Nat) (t : Bool) : Prop :=
  B (11 + j) = nI cs.length ∧ (∃ fr : Nat, B (9 + j) = nI fr ∧ 140 + fr + cs.length ≤ 1040 ∧ ∀ (k : Nat) (h : k < cs.length), B (140 + fr + k) = nI cs[k]) ∧ lwTys cs [] = some [t]
def lwIs (B : Nat → Int32) (j : Nat) (o : Option (List Nat)) (t : Bool) (ws : List Nat) : Prop := match o with
  | none => B (7 + j) = 0
  | some cs => B (7 + j) = 1 ∧ lawAt B j cs t ∧ ∀ c ∈ cs, 1000 ≤ c → c < 3000 → c - 1000 ∈ ws
/-- a butt and a state as they may be: its laws, a bound of minutes and hurts -/
def mOK (B : Nat → Int32) (sl ol : Option (List Nat)) (T : Nat) : Prop :=
  (bd (B 1) 20 ∧ bd (B 2) 20 ∧ mN (B 1) ≤ mN (B 2)) ∧ (bd (B 3) 99 ∧ bd (B 4) 99 ∧ bd (B 5) 99) ∧ bd (B 6) 4 ∧ (∀ s : Nat, s < 4 → bd (B (13 + s)) 9) ∧ (∀ s : Nat, s < 4 → bd (B (21 + s)) 9) ∧ bd (B 25) T ∧ bd (B 26) 9 ∧ bd (B 27) T ∧ T < 2 ^ 24 ∧ lwIs B 0 sl false [0, 1, 2, 3, 4] ∧ lwIs B 1 ol true [0, 5, 6]
theorem lwStep_congr {w w' : Nat → Int32} {c : Nat} (h : 1000 ≤ c → c < 3000 → w (c - 1000) = w' (c - 1000)) (st : List Int32) : lwStep w c st = lwStep w' c st := by
  unfold lwStep
  by_cases h1 : c < 1000
  · rw [if_pos h1, if_pos h1]
  · rw [if_neg h1, if_neg h1]
    by_cases h2 : c < 3000
    · rw [if_pos h2, if_pos h2, h (by omega) h2]
    · rw [if_neg h2, if_neg h2]
theorem lwRun_congr {w w' : Nat → Int32} : ∀ {cs : List Nat} (_ : ∀ c ∈ cs, 1000 ≤ c → c < 3000 → w (c - 1000) = w' (c - 1000)) (st : List Int32), lwRun w cs st = lwRun w' cs st
  | [], _, _ => rfl
  | c :: cs, h, st => by
    show lwRun w cs (lwStep w c st) = lwRun w' cs (lwStep w' c st)
    rw [lwStep_congr (h c List.mem_cons_self) st]
    exact lwRun_congr (fun c hc => h c (List.mem_cons_of_mem _ hc)) _
/-- the words of a law of straying, of opening -/
def wS (wd lot : Nat) (sh : Int32) (age aim : Nat) : Nat → Int32 := fun j => if j = 0 then nI wd else if j = 1 then nI lot else if j = 2 then sh else if j = 3 then nI (min age 9) else nI aim
def wO (wd mi hu : Nat) : Nat → Int32 := fun j => if j = 0 then nI wd else if j = 5 then nI mi else nI (min hu 9)
/-- how far a shot strays, before it is held -/
def mStray (sl : Option (List Nat)) (sh : Int32) (age wd aim lot : Nat) : Int32 := match sl with
  | none => (nI lot - 5) * sh / 5
  | some cs => (lwRun (wS wd lot sh age aim) cs []).headD 0
def mLand (sl : Option (List Nat)) (sh : Int32) (age wd aim lot : Nat) : Nat := mN (mKept (nI aim + mKept (mStray sl sh age wd aim lot) (-9) 9) 0 20)
theorem mKept_20 (x : Int32) : mKept x 0 20 = nI (mN (mKept x 0 20)) ∧ mN (mKept x 0 20) ≤ 20 := by
  refine bd_of ?_ ?_ (by decide)
  · unfold mKept
    split
    · decide
    · split
      · decide
      · rename_i h1 h2
        rw [Int32.lt_iff_toInt_lt] at h1
        have : (0 : Int32).toInt = 0 := by decide
        omega
  · unfold mKept
    split
    · decide
    · split
      · decide
      · rename_i h1 h2
        rw [Int32.lt_iff_toInt_lt] at h2
        have : (20 : Int32).toInt = 20 := by decide
        omega
theorem mLand_le (sl : Option (List Nat)) (sh : Int32) (age wd aim lot : Nat) : mLand sl sh age wd aim lot ≤ 20 := (mKept_20 _).2
/-- whether the eye is open -/
def mOpen (ol : Option (List Nat)) (wd mi hu : Nat) : Bool := match ol with
  | none => decide (mi % 2 = 1)
  | some cs => decide ((lwRun (wO wd mi hu) cs []).headD 0 = 1)
theorem c_landsBy_none {G : zG} {l : Launch} {b : Nat} {M0 M : zM} {I : Nat → Int32} {A : Nat → Nat → Int32} {L : Nat → Nat → Int64} (s : Nat) {x_s : Int32} (e_s : x_s = nI s) (aim : Nat) {x_aim : Int32} (e_aim : x_aim = nI aim) (lot : Nat) {x_lot : Int32} (e_lot : x_lot = nI lot) (age : Nat) {x_age : Int32} (e_age : x_age = nI age) (wd : Nat) {x_wd : Int32} (e_wd : x_wd = nI wd) (hM : mW b M0 M I A L) (hs : s < 4) (haim : aim ≤ 20) (hlot : lot ≤ 9) (hage : age < 2 ^ 20) (hwd : wd ≤ 9) (hsl : A 1 7 = 0) : am G l kX12_landsBy 2 [.ref b, .int x_s, .int x_aim, .int x_lot, .int x_age, .int x_wd] M 0 0 (zr (.int (nI (mLand none (A 1 (13 + s)) age wd aim lot))) (fun M' => mW b M0 M' I A L)) := by
  subst e_s
  subst e_aim
  subst e_lot
  subst e_age
  subst e_wd
  obtain ⟨u, v, w, hA⟩ := hM
  have e9 : mStray none (A 1 (13 + s)) age wd aim lot = (nI lot - 5) * A 1 (13 + s) / 5 := rfl
  have h7 : A 1 7 = nI 0 := hsl
  refine am.of (by decide) (Nat.le_of_ble_eq_true rfl) ?_
  refine aj.aload_n dX12_landsBy_0 rfl ?_
  refine gM17 rfl dX12_landsBy_1 hA ?_
  refine aj.iconst (v := 0) dX12_landsBy_4 rfl ?_
  refine aj.iload dX12_landsBy_5 rfl ?_
  refine sM17N (i := 0) dX12_landsBy_7 hA rfl (by omega) (fun M hA => ?_)
  refine aj.aload_n dX12_landsBy_8 rfl ?_
  refine gM17 rfl dX12_landsBy_9 hA ?_
  refine aj.iconst (v := 1) dX12_landsBy_12 rfl ?_
  refine aj.iload_n dX12_landsBy_13 rfl ?_
  refine sM17N (i := 1) dX12_landsBy_14 hA rfl (by omega) (fun M hA => ?_)
  refine aj.aload_n dX12_landsBy_15 rfl ?_
  refine gM17 rfl dX12_landsBy_16 hA ?_
  refine aj.iconst (v := 2) dX12_landsBy_19 rfl ?_
  refine aj.aload_n dX12_landsBy_20 rfl ?_
  refine gM1 rfl dX12_landsBy_21 hA ?_
  refine aj.bipush (v := 13) dX12_landsBy_24 rfl ?_
  refine aj.iload_n dX12_landsBy_26 rfl ?_
  refine aj.iaddN (a := 13) (b := s) dX12_landsBy_27 rfl rfl ?_
  refine aM1N (i := 13 + s) dX12_landsBy_28 hA rfl (by omega) ?_
  refine sM17N (i := 2) dX12_landsBy_29 hA rfl (by omega) (fun M hA => ?_)
  refine aj.aload_n dX12_landsBy_30 rfl ?_
  refine gM17 rfl dX12_landsBy_31 hA ?_
  refine aj.iconst (v := 3) dX12_landsBy_34 rfl ?_
  refine aj.iload dX12_landsBy_35 rfl ?_
  refine aj.bipush (v := 9) dX12_landsBy_37 rfl ?_
  refine aj.icmp_geN (a := age) (b := 9) (tgt := 47) dX12_landsBy_39 rfl rfl (by omega) (by omega) rfl (fun c39 => ?_) (fun c39 => ?_)
  · refine aj.bipush (v := 9) dX12_landsBy_47 rfl ?_
    refine sM17N (i := 3) dX12_landsBy_49 hA rfl (by omega) (fun M hA => ?_)
    refine aj.aload_n dX12_landsBy_50 rfl ?_
    refine gM17 rfl dX12_landsBy_51 hA ?_
    refine aj.iconst (v := 4) dX12_landsBy_54 rfl ?_
    refine aj.iload_n dX12_landsBy_55 rfl ?_
    refine sM17N (i := 4) dX12_landsBy_56 hA rfl (by omega) (fun M hA => ?_)
    refine aj.aload_n dX12_landsBy_57 rfl ?_
    refine gM1 rfl dX12_landsBy_58 hA ?_
    refine aj.bipush (v := 7) dX12_landsBy_61 rfl ?_
    refine aM1N (i := 7) dX12_landsBy_63 hA rfl (by omega) ?_
    refine aj.iconst (v := 1) dX12_landsBy_64 rfl ?_
    refine aj.icmp_neN (a := 0) (b := 1) (tgt := 76) dX12_landsBy_65 h7 rfl (by omega) (by omega) rfl (fun c65 => ?_) (fun c65 => ?_)
    · refine aj.iload_n dX12_landsBy_76 rfl ?_
      refine aj.iconst (v := 5) dX12_landsBy_77 rfl ?_
      refine aj.isub dX12_landsBy_78 ?_
      refine aj.aload_n dX12_landsBy_79 rfl ?_
      refine gM1 rfl dX12_landsBy_80 hA ?_
      refine aj.bipush (v := 13) dX12_landsBy_83 rfl ?_
      refine aj.iload_n dX12_landsBy_85 rfl ?_
      refine aj.iaddN (a := 13) (b := s) dX12_landsBy_86 rfl rfl ?_
      refine aM1N (i := 13 + s) dX12_landsBy_87 hA rfl (by omega) ?_
      refine aj.imul dX12_landsBy_88 ?_
      refine aj.iconst (v := 5) dX12_landsBy_89 rfl ?_
      refine aj.idiv dX12_landsBy_90 (by decide) ?_
      refine aj.istore (lv' := [(6, .int ((((nI lot) - 5) * (A 1 (13 + s))) / 5)), (0, .ref b), (1, .int (nI s)), (2, .int (nI aim)), (3, .int (nI lot)), (4, .int (nI age)), (5, .int (nI wd))]) dX12_landsBy_91 (Nat.le_of_ble_eq_true rfl) rfl ?_
      refine aj.iload_n dX12_landsBy_93 rfl ?_
      refine aj.iload dX12_landsBy_94 rfl ?_
      refine aj.bipush (v := (-9)) dX12_landsBy_96 rfl ?_
      refine aj.bipush (v := 9) dX12_landsBy_98 rfl ?_
      refine aj.callS1 (d' := 0) (As := [.int ((((nI lot) - 5) * (A 1 (13 + s))) / 5), .int (-9), .int 9]) (rest := [.int (nI aim)]) dX12_landsBy_100 v_X12_222 w1531 rfl rfl (Nat.le_of_ble_eq_true rfl) (Nat.le_of_ble_eq_true rfl) (c_kept _ ((((nI lot) - 5) * (A 1 (13 + s))) / 5) ((-9)) 9) (fun M hM => ?_)
      subst hM
      refine aj.iadd dX12_landsBy_103 ?_
      refine aj.iconst (v := 0) dX12_landsBy_104 rfl ?_
      refine aj.bipush (v := 20) dX12_landsBy_105 rfl ?_
      refine aj.callS1 (d' := 0) (As := [.int ((nI aim) + (mKept ((((nI lot) - 5) * (A 1 (13 + s))) / 5) ((-9)) 9)), .int 0, .int 20]) (rest := []) dX12_landsBy_107 v_X12_222 w1531 rfl rfl (Nat.le_of_ble_eq_true rfl) (Nat.le_of_ble_eq_true rfl) (c_kept _ ((nI aim) + (mKept ((((nI lot) - 5) * (A 1 (13 + s))) / 5) ((-9)) 9)) 0 20) (fun M hM => ?_)
      subst hM
      exact aj.iret rfl dX12_landsBy_110 ⟨by rw [← e9]; exact congrArg (fun q => some (Value.int q)) (mKept_20 _).1, _, _, _, hA⟩
    · exact absurd c65 (by decide)
  · refine aj.iload dX12_landsBy_42 rfl ?_
    refine aj.goto (tgt := 49) dX12_landsBy_44 rfl ?_
    refine sM17N (i := 3) dX12_landsBy_49 hA rfl (by omega) (fun M hA => ?_)
    refine aj.aload_n dX12_landsBy_50 rfl ?_
    refine gM17 rfl dX12_landsBy_51 hA ?_
    refine aj.iconst (v := 4) dX12_landsBy_54 rfl ?_
    refine aj.iload_n dX12_landsBy_55 rfl ?_
    refine sM17N (i := 4) dX12_landsBy_56 hA rfl (by omega) (fun M hA => ?_)
    refine aj.aload_n dX12_landsBy_57 rfl ?_
    refine gM1 rfl dX12_landsBy_58 hA ?_
    refine aj.bipush (v := 7) dX12_landsBy_61 rfl ?_
    refine aM1N (i := 7) dX12_landsBy_63 hA rfl (by omega) ?_
    refine aj.iconst (v := 1) dX12_landsBy_64 rfl ?_
    refine aj.icmp_neN (a := 0) (b := 1) (tgt := 76) dX12_landsBy_65 h7 rfl (by omega) (by omega) rfl (fun c65 => ?_) (fun c65 => ?_)
    · refine aj.iload_n dX12_landsBy_76 rfl ?_
      refine aj.iconst (v := 5) dX12_landsBy_77 rfl ?_
      refine aj.isub dX12_landsBy_78 ?_
      refine aj.aload_n dX12_landsBy_79 rfl ?_
      refine gM1 rfl dX12_landsBy_80 hA ?_
      refine aj.bipush (v := 13) dX12_landsBy_83 rfl ?_
      refine aj.iload_n dX12_landsBy_85 rfl ?_
      refine aj.iaddN (a := 13) (b := s) dX12_landsBy_86 rfl rfl ?_
      refine aM1N (i := 13 + s) dX12_landsBy_87 hA rfl (by omega) ?_
      refine aj.imul dX12_landsBy_88 ?_
      refine aj.iconst (v := 5) dX12_landsBy_89 rfl ?_
      refine aj.idiv dX12_landsBy_90 (by decide) ?_
      refine aj.istore (lv' := [(6, .int ((((nI lot) - 5) * (A 1 (13 + s))) / 5)), (0, .ref b), (1, .int (nI s)), (2, .int (nI aim)), (3, .int (nI lot)), (4, .int (nI age)), (5, .int (nI wd))]) dX12_landsBy_91 (Nat.le_of_ble_eq_true rfl) rfl ?_
      refine aj.iload_n dX12_landsBy_93 rfl ?_
      refine aj.iload dX12_landsBy_94 rfl ?_
      refine aj.bipush (v := (-9)) dX12_landsBy_96 rfl ?_
      refine aj.bipush (v := 9) dX12_landsBy_98 rfl ?_
      refine aj.callS1 (d' := 0) (As := [.int ((((nI lot) - 5) * (A 1 (13 + s))) / 5), .int (-9), .int 9]) (rest := [.int (nI aim)]) dX12_landsBy_100 v_X12_222 w1531 rfl rfl (Nat.le_of_ble_eq_true rfl) (Nat.le_of_ble_eq_true rfl) (c_kept _ ((((nI lot) - 5) * (A 1 (13 + s))) / 5) ((-9)) 9) (fun M hM => ?_)
      subst hM
      refine aj.iadd dX12_landsBy_103 ?_
      refine aj.iconst (v := 0) dX12_landsBy_104 rfl ?_
      refine aj.bipush (v := 20) dX12_landsBy_105 rfl ?_
      refine aj.callS1 (d' := 0) (As := [.int ((nI aim) + (mKept ((((nI lot) - 5) * (A 1 (13 + s))) / 5) ((-9)) 9)), .int 0, .int 20]) (rest := []) dX12_landsBy_107 v_X12_222 w1531 rfl rfl (Nat.le_of_ble_eq_true rfl) (Nat.le_of_ble_eq_true rfl) (c_kept _ ((nI aim) + (mKept ((((nI lot) - 5) * (A 1 (13 + s))) / 5) ((-9)) 9)) 0 20) (fun M hM => ?_)
      subst hM
      exact aj.iret rfl dX12_landsBy_110 ⟨by rw [← e9]; exact congrArg (fun q => some (Value.int q)) (mKept_20 _).1, _, _, _, hA⟩
    · exact absurd c65 (by decide)
theorem landsBy_w {cs : List Nat} {w : Nat → Int32} {s wd lot age aim : Nat} {sh : Int32} (hws : ∀ c ∈ cs, 1000 ≤ c → c < 3000 → c - 1000 ∈ [0, 1, 2, 3, 4]) (h0 : nI wd = w 0) (h1 : nI lot = w 1) (h2 : sh = w 2) (h3 : nI (min age 9) = w 3) (h4 : nI aim = w 4) : (lwRun w cs []).headD 0 = mStray (some cs) sh age wd aim lot := by
  unfold mStray
  refine congrArg (fun q : List Int32 => q.headD 0) (lwRun_congr (fun c hc h5 h6 => ?_) [])
  have h7 := hws c hc h5 h6
  simp only [List.mem_cons, List.not_mem_nil, or_false] at h7
  rcases h7 with h7 | h7 | h7 | h7 | h7 <;> rw [h7]
  · exact h0.symm
  · exact h1.symm
  · exact h2.symm
  · exact h3.symm
  · exact h4.symm
theorem c_landsBy_some {G : zG} {l : Launch} {b : Nat} {M0 M : zM} {I : Nat → Int32} {A : Nat → Nat → Int32} {L : Nat → Nat → Int64} (s : Nat) {x_s : Int32} (e_s : x_s = nI s) (aim : Nat) {x_aim : Int32} (e_aim : x_aim = nI aim) (lot : Nat) {x_lot : Int32} (e_lot : x_lot = nI lot) (age : Nat) {x_age : Int32} (e_age : x_age = nI age) (wd : Nat) {x_wd : Int32} (e_wd : x_wd = nI wd) (cs : List Nat) (hM : mW b M0 M I A L) (hs : s < 4) (haim : aim ≤ 20) (hlot : lot ≤ 9) (hage : age < 2 ^ 20) (hwd : wd ≤ 9) (hsl : lwIs (A 1) 0 (some cs) false [0, 1, 2, 3, 4]) : am G l kX12_landsBy 2 [.ref b, .int x_s, .int x_aim, .int x_lot, .int x_age, .int x_wd] M 0 0 (zr (.int (nI (mLand (some cs) (A 1 (13 + s)) age wd aim lot))) (fun M' => mW b M0 M' I A L)) := by
  subst e_s
  subst e_aim
  subst e_lot
  subst e_age
  subst e_wd
  obtain ⟨u, v, w, hA⟩ := hM
  obtain ⟨h7, ⟨hcl, ⟨fr, hfr, hb, hcs⟩, hty⟩, hws⟩ := hsl
  have h7 : A 1 7 = nI 1 := h7
  refine am.of (by decide) (Nat.le_of_ble_eq_true rfl) ?_
  refine aj.aload_n dX12_landsBy_0 rfl ?_
  refine gM17 rfl dX12_landsBy_1 hA ?_
  refine aj.iconst (v := 0) dX12_landsBy_4 rfl ?_
  refine aj.iload dX12_landsBy_5 rfl ?_
  refine sM17N (i := 0) dX12_landsBy_7 hA rfl (by omega) (fun M hA => ?_)
  refine aj.aload_n dX12_landsBy_8 rfl ?_
  refine gM17 rfl dX12_landsBy_9 hA ?_
  refine aj.iconst (v := 1) dX12_landsBy_12 rfl ?_
  refine aj.iload_n dX12_landsBy_13 rfl ?_
  refine sM17N (i := 1) dX12_landsBy_14 hA rfl (by omega) (fun M hA => ?_)
  refine aj.aload_n dX12_landsBy_15 rfl ?_
  refine gM17 rfl dX12_landsBy_16 hA ?_
  refine aj.iconst (v := 2) dX12_landsBy_19 rfl ?_
  refine aj.aload_n dX12_landsBy_20 rfl ?_
  refine gM1 rfl dX12_landsBy_21 hA ?_
  refine aj.bipush (v := 13) dX12_landsBy_24 rfl ?_
  refine aj.iload_n dX12_landsBy_26 rfl ?_
  refine aj.iaddN (a := 13) (b := s) dX12_landsBy_27 rfl rfl ?_
  refine aM1N (i := 13 + s) dX12_landsBy_28 hA rfl (by omega) ?_
  refine sM17N (i := 2) dX12_landsBy_29 hA rfl (by omega) (fun M hA => ?_)
  refine aj.aload_n dX12_landsBy_30 rfl ?_
  refine gM17 rfl dX12_landsBy_31 hA ?_
  refine aj.iconst (v := 3) dX12_landsBy_34 rfl ?_
  refine aj.iload dX12_landsBy_35 rfl ?_
  refine aj.bipush (v := 9) dX12_landsBy_37 rfl ?_
  refine aj.icmp_geN (a := age) (b := 9) (tgt := 47) dX12_landsBy_39 rfl rfl (by omega) (by omega) rfl (fun c39 => ?_) (fun c39 => ?_)
  · refine aj.bipush (v := 9) dX12_landsBy_47 rfl ?_
    refine sM17N (i := 3) dX12_landsBy_49 hA rfl (by omega) (fun M hA => ?_)
    refine aj.aload_n dX12_landsBy_50 rfl ?_
    refine gM17 rfl dX12_landsBy_51 hA ?_
    refine aj.iconst (v := 4) dX12_landsBy_54 rfl ?_
    refine aj.iload_n dX12_landsBy_55 rfl ?_
    refine sM17N (i := 4) dX12_landsBy_56 hA rfl (by omega) (fun M hA => ?_)
    refine aj.aload_n dX12_landsBy_57 rfl ?_
    refine gM1 rfl dX12_landsBy_58 hA ?_
    refine aj.bipush (v := 7) dX12_landsBy_61 rfl ?_
    refine aM1N (i := 7) dX12_landsBy_63 hA rfl (by omega) ?_
    refine aj.iconst (v := 1) dX12_landsBy_64 rfl ?_
    refine aj.icmp_neN (a := 1) (b := 1) (tgt := 76) dX12_landsBy_65 h7 rfl (by omega) (by omega) rfl (fun c65 => ?_) (fun c65 => ?_)
    · exact absurd rfl c65
    · refine aj.aload_n dX12_landsBy_68 rfl ?_
      refine aj.iconst (v := 0) dX12_landsBy_69 rfl ?_
      refine aj.callV1 (d' := 1) (As := [.int 0]) (rest := []) dX12_landsBy_70 v_X12_219 li_X12_reckons hA.1 rfl rfl rfl (Nat.le_of_ble_eq_true rfl) (Nat.le_of_ble_eq_true rfl) (c_reckons 0 fr cs.length cs false hA (by decide) hcl hfr rfl hb hcs hty) (fun M hM => ?_)
      obtain ⟨v, hA⟩ := hM
      refine aj.goto (tgt := 91) dX12_landsBy_73 rfl ?_
      refine aj.istore (lv' := [(6, .int ((lwRun (upd (upd (upd (upd (upd w 0 (nI wd)) 1 (nI lot)) 2 (A 1 (13 + s))) 3 9) 4 (nI aim)) cs []).headD 0)), (0, .ref b), (1, .int (nI s)), (2, .int (nI aim)), (3, .int (nI lot)), (4, .int (nI age)), (5, .int (nI wd))]) dX12_landsBy_91 (Nat.le_of_ble_eq_true rfl) rfl ?_
      refine aj.iload_n dX12_landsBy_93 rfl ?_
      refine aj.iload dX12_landsBy_94 rfl ?_
      refine aj.bipush (v := (-9)) dX12_landsBy_96 rfl ?_
      refine aj.bipush (v := 9) dX12_landsBy_98 rfl ?_
      refine aj.callS1 (d' := 0) (As := [.int ((lwRun (upd (upd (upd (upd (upd w 0 (nI wd)) 1 (nI lot)) 2 (A 1 (13 + s))) 3 9) 4 (nI aim)) cs []).headD 0), .int (-9), .int 9]) (rest := [.int (nI aim)]) dX12_landsBy_100 v_X12_222 w1531 rfl rfl (Nat.le_of_ble_eq_true rfl) (Nat.le_of_ble_eq_true rfl) (c_kept _ ((lwRun (upd (upd (upd (upd (upd w 0 (nI wd)) 1 (nI lot)) 2 (A 1 (13 + s))) 3 9) 4 (nI aim)) cs []).headD 0) ((-9)) 9) (fun M hM => ?_)
      subst hM
      refine aj.iadd dX12_landsBy_103 ?_
      refine aj.iconst (v := 0) dX12_landsBy_104 rfl ?_
      refine aj.bipush (v := 20) dX12_landsBy_105 rfl ?_
      refine aj.callS1 (d' := 0) (As := [.int ((nI aim) + (mKept ((lwRun (upd (upd (upd (upd (upd w 0 (nI wd)) 1 (nI lot)) 2 (A 1 (13 + s))) 3 9) 4 (nI aim)) cs []).headD 0) ((-9)) 9)), .int 0, .int 20]) (rest := []) dX12_landsBy_107 v_X12_222 w1531 rfl rfl (Nat.le_of_ble_eq_true rfl) (Nat.le_of_ble_eq_true rfl) (c_kept _ ((nI aim) + (mKept ((lwRun (upd (upd (upd (upd (upd w 0 (nI wd)) 1 (nI lot)) 2 (A 1 (13 + s))) 3 9) 4 (nI aim)) cs []).headD 0) ((-9)) 9)) 0 20) (fun M hM => ?_)
      subst hM
      exact aj.iret rfl dX12_landsBy_110 ⟨by rw [landsBy_w (s := s) (wd := wd) (lot := lot) (age := age) (aim := aim) (sh := A 1 (13 + s)) hws rfl rfl rfl (by first | exact congrArg nI (show min age 9 = 9 by omega) | exact congrArg nI (show min age 9 = age by omega)) rfl]; exact congrArg (fun q => some (Value.int q)) (mKept_20 _).1, _, _, _, hA⟩
  · refine aj.iload dX12_landsBy_42 rfl ?_
    refine aj.goto (tgt := 49) dX12_landsBy_44 rfl ?_
    refine sM17N (i := 3) dX12_landsBy_49 hA rfl (by omega) (fun M hA => ?_)
    refine aj.aload_n dX12_landsBy_50 rfl ?_
    refine gM17 rfl dX12_landsBy_51 hA ?_
    refine aj.iconst (v := 4) dX12_landsBy_54 rfl ?_
    refine aj.iload_n dX12_landsBy_55 rfl ?_
    refine sM17N (i := 4) dX12_landsBy_56 hA rfl (by omega) (fun M hA => ?_)
    refine aj.aload_n dX12_landsBy_57 rfl ?_
    refine gM1 rfl dX12_landsBy_58 hA ?_
    refine aj.bipush (v := 7) dX12_landsBy_61 rfl ?_
    refine aM1N (i := 7) dX12_landsBy_63 hA rfl (by omega) ?_
    refine aj.iconst (v := 1) dX12_landsBy_64 rfl ?_
    refine aj.icmp_neN (a := 1) (b := 1) (tgt := 76) dX12_landsBy_65 h7 rfl (by omega) (by omega) rfl (fun c65 => ?_) (fun c65 => ?_)
    · exact absurd rfl c65
    · refine aj.aload_n dX12_landsBy_68 rfl ?_
      refine aj.iconst (v := 0) dX12_landsBy_69 rfl ?_
      refine aj.callV1 (d' := 1) (As := [.int 0]) (rest := []) dX12_landsBy_70 v_X12_219 li_X12_reckons hA.1 rfl rfl rfl (Nat.le_of_ble_eq_true rfl) (Nat.le_of_ble_eq_true rfl) (c_reckons 0 fr cs.length cs false hA (by decide) hcl hfr rfl hb hcs hty) (fun M hM => ?_)
      obtain ⟨v, hA⟩ := hM
      refine aj.goto (tgt := 91) dX12_landsBy_73 rfl ?_
      refine aj.istore (lv' := [(6, .int ((lwRun (upd (upd (upd (upd (upd w 0 (nI wd)) 1 (nI lot)) 2 (A 1 (13 + s))) 3 (nI age)) 4 (nI aim)) cs []).headD 0)), (0, .ref b), (1, .int (nI s)), (2, .int (nI aim)), (3, .int (nI lot)), (4, .int (nI age)), (5, .int (nI wd))]) dX12_landsBy_91 (Nat.le_of_ble_eq_true rfl) rfl ?_
      refine aj.iload_n dX12_landsBy_93 rfl ?_
      refine aj.iload dX12_landsBy_94 rfl ?_
      refine aj.bipush (v := (-9)) dX12_landsBy_96 rfl ?_
      refine aj.bipush (v := 9) dX12_landsBy_98 rfl ?_
      refine aj.callS1 (d' := 0) (As := [.int ((lwRun (upd (upd (upd (upd (upd w 0 (nI wd)) 1 (nI lot)) 2 (A 1 (13 + s))) 3 (nI age)) 4 (nI aim)) cs []).headD 0), .int (-9), .int 9]) (rest := [.int (nI aim)]) dX12_landsBy_100 v_X12_222 w1531 rfl rfl (Nat.le_of_ble_eq_true rfl) (Nat.le_of_ble_eq_true rfl) (c_kept _ ((lwRun (upd (upd (upd (upd (upd w 0 (nI wd)) 1 (nI lot)) 2 (A 1 (13 + s))) 3 (nI age)) 4 (nI aim)) cs []).headD 0) ((-9)) 9) (fun M hM => ?_)
      subst hM
      refine aj.iadd dX12_landsBy_103 ?_
      refine aj.iconst (v := 0) dX12_landsBy_104 rfl ?_
      refine aj.bipush (v := 20) dX12_landsBy_105 rfl ?_
      refine aj.callS1 (d' := 0) (As := [.int ((nI aim) + (mKept ((lwRun (upd (upd (upd (upd (upd w 0 (nI wd)) 1 (nI lot)) 2 (A 1 (13 + s))) 3 (nI age)) 4 (nI aim)) cs []).headD 0) ((-9)) 9)), .int 0, .int 20]) (rest := []) dX12_landsBy_107 v_X12_222 w1531 rfl rfl (Nat.le_of_ble_eq_true rfl) (Nat.le_of_ble_eq_true rfl) (c_kept _ ((nI aim) + (mKept ((lwRun (upd (upd (upd (upd (upd w 0 (nI wd)) 1 (nI lot)) 2 (A 1 (13 + s))) 3 (nI age)) 4 (nI aim)) cs []).headD 0) ((-9)) 9)) 0 20) (fun M hM => ?_)
      subst hM
      exact aj.iret rfl dX12_landsBy_110 ⟨by rw [landsBy_w (s := s) (wd := wd) (lot := lot) (age := age) (aim := aim) (sh := A 1 (13 + s)) hws rfl rfl rfl (by first | exact congrArg nI (show min age 9 = 9 by omega) | exact congrArg nI (show min age 9 = age by omega)) rfl]; exact congrArg (fun q => some (Value.int q)) (mKept_20 _).1, _, _, _, hA⟩
theorem c_landsBy {G : zG} {l : Launch} {b : Nat} {M0 M : zM} {I : Nat → Int32} {A : Nat → Nat → Int32} {L : Nat → Nat → Int64} (s : Nat) {x_s : Int32} (e_s : x_s = nI s) (aim : Nat) {x_aim : Int32} (e_aim : x_aim = nI aim) (lot : Nat) {x_lot : Int32} (e_lot : x_lot = nI lot) (age : Nat) {x_age : Int32} (e_age : x_age = nI age) (wd : Nat) {x_wd : Int32} (e_wd : x_wd = nI wd) {sl ol : Option (List Nat)} {T : Nat} (hM : mW b M0 M I A L) (hB : mOK (A 1) sl ol T) (hs : s < 4) (haim : aim ≤ 20) (hlot : lot ≤ 9) (hage : age < 2 ^ 20) (hwd : wd ≤ 9) :
    am G l kX12_landsBy 2 [.ref b, .int x_s, .int x_aim, .int x_lot, .int x_age, .int x_wd] M 0 0 (zr (.int (nI (mLand sl (A 1 (13 + s)) age wd aim lot))) (fun M' => mW b M0 M' I A L)) := by
  have hsl := hB.2.2.2.2.2.2.2.2.2.1
  cases sl with
  | none => exact c_landsBy_none s e_s aim e_aim lot e_lot age e_age wd e_wd hM hs haim hlot hage hwd hsl
  | some cs => exact c_landsBy_some s e_s aim e_aim lot e_lot age e_age wd e_wd cs hM hs haim hlot hage hwd hsl
theorem c_landsNow {G : zG} {l : Launch} {b : Nat} {M0 M : zM} {I : Nat → Int32} {A : Nat → Nat → Int32} {L : Nat → Nat → Int64} (s : Nat) {x_s : Int32} (e_s : x_s = nI s) (aim : Nat) {x_aim : Int32} (e_aim : x_aim = nI aim) (lot : Nat) {x_lot : Int32} (e_lot : x_lot = nI lot) {sl ol : Option (List Nat)} {T : Nat}  (hM : mW b M0 M I A L) (hB : mOK (A 1) sl ol T) (hs : s < 4) (haim : aim ≤ 20) (hlot : lot ≤ 9) : am G l kX12_landsNow 3 [.ref b, .int x_s, .int x_aim, .int x_lot] M 0 0 (zr (.int (nI (mLand sl (A 1 (13 + s)) (mN (A 1 (21 + s))) (mN (A 1 26)) aim lot))) (fun M' => mW b M0 M' I A L)) := by
  subst e_s
  subst e_aim
  subst e_lot
  obtain ⟨u, v, w, hA⟩ := hM
  have hT := hB.2.2.2.2.2.2.2.2.1
  have hN6 := hB.2.2.1.2
  have hN25 := hB.2.2.2.2.2.1.2
  have hN26 := hB.2.2.2.2.2.2.1.2
  have hN27 := hB.2.2.2.2.2.2.2.1.2
  have hN1 := hB.1.1.2
  have hN2 := hB.1.2.1.2
  have hag := (hB.2.2.2.2.1 s hs).2
  refine am.of (by decide) (Nat.le_of_ble_eq_true rfl) ?_
  refine aj.aload_n dX12_landsNow_0 rfl ?_
  refine aj.iload_n dX12_landsNow_1 rfl ?_
  refine aj.iload_n dX12_landsNow_2 rfl ?_
  refine aj.iload_n dX12_landsNow_3 rfl ?_
  refine aj.aload_n dX12_landsNow_4 rfl ?_
  refine gM1 rfl dX12_landsNow_5 hA ?_
  refine aj.bipush (v := 21) dX12_landsNow_8 rfl ?_
  refine aj.iload_n dX12_landsNow_10 rfl ?_
  refine aj.iaddN (a := 21) (b := s) dX12_landsNow_11 rfl rfl ?_
  refine aM1N (i := 21 + s) dX12_landsNow_12 hA rfl (by omega) ?_
  refine aj.aload_n dX12_landsNow_13 rfl ?_
  refine gM1 rfl dX12_landsNow_14 hA ?_
  refine aj.bipush (v := 26) dX12_landsNow_17 rfl ?_
  refine aM1N (i := 26) dX12_landsNow_19 hA rfl (by omega) ?_
  refine aj.callV1 (d' := 2) (As := [.int (nI s), .int (nI aim), .int (nI lot), .int (A 1 (21 + s)), .int (A 1 26)]) (rest := []) dX12_landsNow_20 v_X12_225 li_X12_landsBy hA.1 rfl rfl rfl (Nat.le_of_ble_eq_true rfl) (Nat.le_of_ble_eq_true rfl) (c_landsBy s rfl aim rfl lot rfl (mN (A 1 (21 + s))) ((hB.2.2.2.2.1 s hs).1) (mN (A 1 26)) hB.2.2.2.2.2.2.1.1 ⟨_, _, _, hA⟩ hB (by omega) (by omega) (by omega) (by omega) (by omega)) (fun M hM => ?_)
  obtain ⟨u, v, w, hA⟩ := hM
  exact aj.iret rfl dX12_landsNow_23 ⟨rfl, ⟨_, _, _, hA⟩⟩
theorem isOpen_w {cs : List Nat} {w : Nat → Int32} {wd mi hu : Nat} (hws : ∀ c ∈ cs, 1000 ≤ c → c < 3000 → c - 1000 ∈ [0, 5, 6]) (h0 : nI wd = w 0) (h1 : nI mi = w 5) (h2 : nI (min hu 9) = w 6) : (lwRun w cs []).headD 0 = (lwRun (wO wd mi hu) cs []).headD 0 := by
  refine congrArg (fun q : List Int32 => q.headD 0) (lwRun_congr (fun c hc h5 h6 => ?_) [])
  have h7 := hws c hc h5 h6
  simp only [List.mem_cons, List.not_mem_nil, or_false] at h7
  rcases h7 with h7 | h7 | h7 <;> rw [h7]
  · exact h0.symm
  · exact h1.symm
  · exact h2.symm
theorem c_isOpen_none {G : zG} {l : Launch} {b : Nat} {M0 M : zM} {I : Nat → Int32} {A : Nat → Nat → Int32} {L : Nat → Nat → Int64} (mi : Nat) {x_mi : Int32} (e_mi : x_mi = nI mi) (hu : Nat) {x_hu : Int32} (e_hu : x_hu = nI hu) (hM : mW b M0 M I A L) (hwd : bd (A 1 26) 9) (hmi : mi < 2 ^ 30) (hhu : hu < 2 ^ 30) (hol : A 1 8 = 0) : am G l kX12_isOpen 2 [.ref b, .int x_mi, .int x_hu] M 0 0 (zr (.int (zb (mOpen none (mN (A 1 26)) mi hu = true))) (fun M' => mW b M0 M' I A L)) := by
  subst e_mi
  subst e_hu
  obtain ⟨u, v, w, hA⟩ := hM
  have h8 : A 1 8 = nI 0 := hol
  refine am.of (by decide) (Nat.le_of_ble_eq_true rfl) ?_
  refine aj.aload_n dX12_isOpen_0 rfl ?_
  refine gM1 rfl dX12_isOpen_1 hA ?_
  refine aj.bipush (v := 8) dX12_isOpen_4 rfl ?_
  refine aM1N (i := 8) dX12_isOpen_6 hA rfl (by omega) ?_
  refine aj.if_neN (a := 0) (tgt := 23) dX12_isOpen_7 h8 (by omega) rfl (fun c7 => ?_) (fun c7 => ?_)
  · exact absurd rfl c7
  · refine aj.iload_n dX12_isOpen_10 rfl ?_
    refine aj.iconst (v := 2) dX12_isOpen_11 rfl ?_
    refine aj.iremN (a := mi) (b := 2) dX12_isOpen_12 rfl rfl (by omega) (by omega) (by omega) ?_
    refine aj.iconst (v := 1) dX12_isOpen_13 rfl ?_
    refine aj.icmp_neN (a := mi % 2) (b := 1) (tgt := 21) dX12_isOpen_14 rfl rfl (by omega) (by omega) rfl (fun c14 => ?_) (fun c14 => ?_)
    · refine aj.iconst (v := 0) dX12_isOpen_21 rfl ?_
      exact aj.zret (ty := .boolean) rfl rfl dX12_isOpen_22 ⟨by rw [zb_f (by simp only [mOpen, decide_eq_true_eq]; omega)], _, _, _, hA⟩
    · refine aj.iconst (v := 1) dX12_isOpen_17 rfl ?_
      refine aj.goto (tgt := 22) dX12_isOpen_18 rfl ?_
      exact aj.zret (ty := .boolean) rfl rfl dX12_isOpen_22 ⟨by rw [zb_t (by simp only [mOpen]; exact decide_eq_true (by omega))], _, _, _, hA⟩
theorem c_isOpen_some {G : zG} {l : Launch} {b : Nat} {M0 M : zM} {I : Nat → Int32} {A : Nat → Nat → Int32} {L : Nat → Nat → Int64} (mi : Nat) {x_mi : Int32} (e_mi : x_mi = nI mi) (hu : Nat) {x_hu : Int32} (e_hu : x_hu = nI hu) (cs : List Nat) (hM : mW b M0 M I A L) (hwd : bd (A 1 26) 9) (hmi : mi < 2 ^ 30) (hhu : hu < 2 ^ 30) (hol : lwIs (A 1) 1 (some cs) true [0, 5, 6]) : am G l kX12_isOpen 2 [.ref b, .int x_mi, .int x_hu] M 0 0 (zr (.int (zb (mOpen (some cs) (mN (A 1 26)) mi hu = true))) (fun M' => mW b M0 M' I A L)) := by
  subst e_mi
  subst e_hu
  obtain ⟨u, v, w, hA⟩ := hM
  obtain ⟨h8, ⟨hcl, ⟨fr, hfr, hb, hcs⟩, hty⟩, hws⟩ := hol
  have h8 : A 1 8 = nI 1 := h8
  refine am.of (by decide) (Nat.le_of_ble_eq_true rfl) ?_
  refine aj.aload_n dX12_isOpen_0 rfl ?_
  refine gM1 rfl dX12_isOpen_1 hA ?_
  refine aj.bipush (v := 8) dX12_isOpen_4 rfl ?_
  refine aM1N (i := 8) dX12_isOpen_6 hA rfl (by omega) ?_
  refine aj.if_neN (a := 1) (tgt := 23) dX12_isOpen_7 h8 (by omega) rfl (fun c7 => ?_) (fun c7 => ?_)
  · refine aj.aload_n dX12_isOpen_23 rfl ?_
    refine gM17 rfl dX12_isOpen_24 hA ?_
    refine aj.iconst (v := 0) dX12_isOpen_27 rfl ?_
    refine aj.aload_n dX12_isOpen_28 rfl ?_
    refine gM1 rfl dX12_isOpen_29 hA ?_
    refine aj.bipush (v := 26) dX12_isOpen_32 rfl ?_
    refine aM1N (i := 26) dX12_isOpen_34 hA rfl (by omega) ?_
    refine sM17N (i := 0) dX12_isOpen_35 hA rfl (by omega) (fun M hA => ?_)
    refine aj.aload_n dX12_isOpen_36 rfl ?_
    refine gM17 rfl dX12_isOpen_37 hA ?_
    refine aj.iconst (v := 5) dX12_isOpen_40 rfl ?_
    refine aj.iload_n dX12_isOpen_41 rfl ?_
    refine sM17N (i := 5) dX12_isOpen_42 hA rfl (by omega) (fun M hA => ?_)
    refine aj.aload_n dX12_isOpen_43 rfl ?_
    refine gM17 rfl dX12_isOpen_44 hA ?_
    refine aj.bipush (v := 6) dX12_isOpen_47 rfl ?_
    refine aj.iload_n dX12_isOpen_49 rfl ?_
    refine aj.bipush (v := 9) dX12_isOpen_50 rfl ?_
    refine aj.icmp_geN (a := hu) (b := 9) (tgt := 59) dX12_isOpen_52 rfl rfl (by omega) (by omega) rfl (fun c52 => ?_) (fun c52 => ?_)
    · refine aj.bipush (v := 9) dX12_isOpen_59 rfl ?_
      refine sM17N (i := 6) dX12_isOpen_61 hA rfl (by omega) (fun M hA => ?_)
      refine aj.aload_n dX12_isOpen_62 rfl ?_
      refine aj.iconst (v := 1) dX12_isOpen_63 rfl ?_
      refine aj.callV1 (d' := 1) (As := [.int 1]) (rest := []) dX12_isOpen_64 v_X12_219 li_X12_reckons hA.1 rfl rfl rfl (Nat.le_of_ble_eq_true rfl) (Nat.le_of_ble_eq_true rfl) (c_reckons 1 fr cs.length cs true hA (by decide) hcl hfr rfl hb hcs hty) (fun M hM => ?_)
      obtain ⟨v, hA⟩ := hM
      refine aj.iconst (v := 1) dX12_isOpen_67 rfl ?_
      refine aj.icmp_ne (tgt := 75) dX12_isOpen_68 rfl (fun c68 => ?_) (fun c68 => ?_)
      · refine aj.iconst (v := 0) dX12_isOpen_75 rfl ?_
        exact aj.zret (ty := .boolean) rfl rfl dX12_isOpen_76 ⟨by rw [zb_f (by simp only [mOpen, decide_eq_true_eq]; rw [← isOpen_w (w := upd (upd (upd w 0 (A 1 26)) 5 (nI mi)) 6 9) (wd := mN (A 1 26)) (mi := mi) (hu := hu) hws hwd.1.symm rfl (by first | exact congrArg nI (show min hu 9 = 9 by omega) | exact congrArg nI (show min hu 9 = hu by omega))]; assumption)], _, _, _, hA⟩
      · refine aj.iconst (v := 1) dX12_isOpen_71 rfl ?_
        refine aj.goto (tgt := 76) dX12_isOpen_72 rfl ?_
        exact aj.zret (ty := .boolean) rfl rfl dX12_isOpen_76 ⟨by rw [zb_t (by simp only [mOpen]; refine decide_eq_true ?_; rw [← isOpen_w (w := upd (upd (upd w 0 (A 1 26)) 5 (nI mi)) 6 9) (wd := mN (A 1 26)) (mi := mi) (hu := hu) hws hwd.1.symm rfl (by first | exact congrArg nI (show min hu 9 = 9 by omega) | exact congrArg nI (show min hu 9 = hu by omega))]; assumption)], _, _, _, hA⟩
    · refine aj.iload_n dX12_isOpen_55 rfl ?_
      refine aj.goto (tgt := 61) dX12_isOpen_56 rfl ?_
      refine sM17N (i := 6) dX12_isOpen_61 hA rfl (by omega) (fun M hA => ?_)
      refine aj.aload_n dX12_isOpen_62 rfl ?_
      refine aj.iconst (v := 1) dX12_isOpen_63 rfl ?_
      refine aj.callV1 (d' := 1) (As := [.int 1]) (rest := []) dX12_isOpen_64 v_X12_219 li_X12_reckons hA.1 rfl rfl rfl (Nat.le_of_ble_eq_true rfl) (Nat.le_of_ble_eq_true rfl) (c_reckons 1 fr cs.length cs true hA (by decide) hcl hfr rfl hb hcs hty) (fun M hM => ?_)
      obtain ⟨v, hA⟩ := hM
      refine aj.iconst (v := 1) dX12_isOpen_67 rfl ?_
      refine aj.icmp_ne (tgt := 75) dX12_isOpen_68 rfl (fun c68 => ?_) (fun c68 => ?_)
      · refine aj.iconst (v := 0) dX12_isOpen_75 rfl ?_
        exact aj.zret (ty := .boolean) rfl rfl dX12_isOpen_76 ⟨by rw [zb_f (by simp only [mOpen, decide_eq_true_eq]; rw [← isOpen_w (w := upd (upd (upd w 0 (A 1 26)) 5 (nI mi)) 6 (nI hu)) (wd := mN (A 1 26)) (mi := mi) (hu := hu) hws hwd.1.symm rfl (by first | exact congrArg nI (show min hu 9 = 9 by omega) | exact congrArg nI (show min hu 9 = hu by omega))]; assumption)], _, _, _, hA⟩
      · refine aj.iconst (v := 1) dX12_isOpen_71 rfl ?_
        refine aj.goto (tgt := 76) dX12_isOpen_72 rfl ?_
        exact aj.zret (ty := .boolean) rfl rfl dX12_isOpen_76 ⟨by rw [zb_t (by simp only [mOpen]; refine decide_eq_true ?_; rw [← isOpen_w (w := upd (upd (upd w 0 (A 1 26)) 5 (nI mi)) 6 (nI hu)) (wd := mN (A 1 26)) (mi := mi) (hu := hu) hws hwd.1.symm rfl (by first | exact congrArg nI (show min hu 9 = 9 by omega) | exact congrArg nI (show min hu 9 = hu by omega))]; assumption)], _, _, _, hA⟩
  · exact absurd c7 (by decide)
