section Rules13
variable {G : zG} {l : Launch} {k : zY} {d pc bc bs : Nat} {lv lv' : List (Nat × Value)} {st : List Value} {M : zM} {Q : Option Value → zM → Prop}
/-- fewer listed locals, in any order -/
theorem aj.pick (ks : List Nat) (hs : lv_pick lv ks = lv') (h : aj G l k d pc lv' st M bc bs Q) : aj G l k d pc lv st M bc bs Q :=
  fun p e R s m args below meth c H locs cells slots LS C hS hV hL h1 h2 h3 h4 => h p e R s m args below meth c H locs cells slots LS C hS hV (lv_sub hL ks hs) h1 h2 h3 h4
end Rules13
/-- a sum, difference or product, held within a million -/
def lwHeld (z : Int64) : Int32 := (if 1000000 < z then (1000000 : Int64) else if z < -1000000 then (-1000000 : Int64) else z).toInt32
/-- two values joined by a code -/
def lwBin (c : Nat) (a b : Int32) : Int32 :=
  if c = 3003 then zb (a = b) else if c = 3004 then zb (a < b) else if c = 3005 then zb (b < a) else if c = 3007 then a &&& b else if c = 3008 then a ||| b
  else lwHeld (if c = 3000 then a.toInt64 + b.toInt64 else if c = 3001 then a.toInt64 - b.toInt64 else a.toInt64 * b.toInt64)
def lwStep (w : Nat → Int32) (c : Nat) (st : List Int32) : List Int32 :=
  if c < 1000 then nI c :: st else if c < 3000 then w (c - 1000) :: st
  else if c = 3006 then (match st with
    | x :: r => (1 - x) :: r
    | [] => [])
  else if c = 3009 then (match st with
    | y :: x :: t :: r => (if t = 1 then x else y) :: r
    | _ => [])
  else (match st with
    | y :: x :: r => lwBin c x y :: r
    | _ => [])
def lwRun (w : Nat → Int32) : List Nat → List Int32 → List Int32
  | [], st => st
  | c :: r, st => lwRun w r (lwStep w c st)
/-- the types of what stands on the stack: true for a truth; at most 64 deep -/
def lwTy (c : Nat) (s : List Bool) : Option (List Bool) :=
  if c < 1000 ∨ (1000 ≤ c ∧ c < 1007) then (if s.length < 64 then some (false :: s) else none)
  else if c = 3000 ∨ c = 3001 ∨ c = 3002 then (match s with
    | false :: false :: r => some (false :: r)
    | _ => none)
  else if c = 3003 ∨ c = 3004 ∨ c = 3005 then (match s with
    | false :: false :: r => some (true :: r)
    | _ => none)
  else if c = 3006 then (match s with
    | true :: r => some (true :: r)
    | _ => none)
  else if c = 3007 ∨ c = 3008 then (match s with
    | true :: true :: r => some (true :: r)
    | _ => none)
  else if c = 3009 then (match s with
    | false :: false :: true :: r => some (false :: r)
    | _ => none)
  else none
def lwTys : List Nat → List Bool → Option (List Bool)
  | [], s => some s
  | c :: r, s => (lwTy c s).bind (lwTys r)
/-- a stack of such types -/
def stM : List Bool → List Int32 → Prop
  | [], st => st = []
  | t :: s, st => ∃ x r, st = x :: r ∧ (t = true → x = 0 ∨ x = 1) ∧ stM s r
theorem stM_len : ∀ {s : List Bool} {st : List Int32}, stM s st → st.length = s.length
  | [], st, h => by have e : st = [] := h; subst e; rfl
  | t :: s, st, h => by obtain ⟨x, r, rfl, -, h⟩ := h; simp [stM_len h]
theorem zb_01 (c : Prop) [Decidable c] : zb c = 0 ∨ zb c = 1 := by
  by_cases h : c
  · exact Or.inr (zb_t h)
  · exact Or.inl (zb_f h)
theorem lw_and01 {a b : Int32} (ha : a = 0 ∨ a = 1) (hb : b = 0 ∨ b = 1) : a &&& b = 0 ∨ a &&& b = 1 := by
  rcases ha with rfl | rfl <;> rcases hb with rfl | rfl <;> decide
theorem lw_or01 {a b : Int32} (ha : a = 0 ∨ a = 1) (hb : b = 0 ∨ b = 1) : a ||| b = 0 ∨ a ||| b = 1 := by
  rcases ha with rfl | rfl <;> rcases hb with rfl | rfl <;> decide
theorem lw_not01 {a : Int32} (ha : a = 0 ∨ a = 1) : 1 - a = 0 ∨ 1 - a = 1 := by
  rcases ha with rfl | rfl <;> decide
/-- a step, by its type -/
theorem lwTy_cases {c : Nat} {s s' : List Bool} (h : lwTy c s = some s') :
    ((c < 1000 ∨ (1000 ≤ c ∧ c < 1007)) ∧ s.length < 64 ∧ s' = false :: s) ∨ ((c = 3000 ∨ c = 3001 ∨ c = 3002) ∧ ∃ r, s = false :: false :: r ∧ s' = false :: r)
    ∨ ((c = 3003 ∨ c = 3004 ∨ c = 3005) ∧ ∃ r, s = false :: false :: r ∧ s' = true :: r) ∨ (c = 3006 ∧ ∃ r, s = true :: r ∧ s' = true :: r)
    ∨ ((c = 3007 ∨ c = 3008) ∧ ∃ r, s = true :: true :: r ∧ s' = true :: r) ∨ (c = 3009 ∧ ∃ r, s = false :: false :: true :: r ∧ s' = false :: r) := by
  unfold lwTy at h
  split at h
  · rename_i hc
    split at h
    · rename_i hl
      exact Or.inl ⟨hc, hl, (Option.some.inj h).symm⟩
    · cases h
  · split at h
    · rename_i hc
      split at h
      · exact Or.inr (Or.inl ⟨hc, _, rfl, (Option.some.inj h).symm⟩)
      · cases h
    · split at h
      · rename_i hc
        split at h
        · exact Or.inr (Or.inr (Or.inl ⟨hc, _, rfl, (Option.some.inj h).symm⟩))
        · cases h
      · split at h
        · rename_i hc
          split at h
          · exact Or.inr (Or.inr (Or.inr (Or.inl ⟨hc, _, rfl, (Option.some.inj h).symm⟩)))
          · cases h
        · split at h
          · rename_i hc
            split at h
            · exact Or.inr (Or.inr (Or.inr (Or.inr (Or.inl ⟨hc, _, rfl, (Option.some.inj h).symm⟩))))
            · cases h
          · split at h
            · rename_i hc
              split at h
              · exact Or.inr (Or.inr (Or.inr (Or.inr (Or.inr ⟨hc, _, rfl, (Option.some.inj h).symm⟩))))
              · cases h
            · cases h
theorem lwStep_M (w : Nat → Int32) {c : Nat} {s s' : List Bool} {st : List Int32} (h : lwTy c s = some s') (hs : stM s st) : stM s' (lwStep w c st) := by
  rcases lwTy_cases h with ⟨hc, -, rfl⟩ | ⟨hc, r, rfl, rfl⟩ | ⟨hc, r, rfl, rfl⟩ | ⟨hc, r, rfl, rfl⟩ | ⟨hc, r, rfl, rfl⟩ | ⟨hc, r, rfl, rfl⟩
  · unfold lwStep
    by_cases h1 : c < 1000
    · rw [if_pos h1]; exact ⟨_, _, rfl, (fun q => nomatch q), hs⟩
    · rw [if_neg h1, if_pos (by omega)]; exact ⟨_, _, rfl, (fun q => nomatch q), hs⟩
  · obtain ⟨y, r1, rfl, -, x, r2, rfl, -, hr⟩ := hs
    unfold lwStep
    rw [if_neg (by omega), if_neg (by omega), if_neg (by omega), if_neg (by omega)]
    exact ⟨_, _, rfl, (fun q => nomatch q), hr⟩
  · obtain ⟨y, r1, rfl, -, x, r2, rfl, -, hr⟩ := hs
    unfold lwStep
    rw [if_neg (by omega), if_neg (by omega), if_neg (by omega), if_neg (by omega)]
    refine ⟨_, _, rfl, fun _ => ?_, hr⟩
    unfold lwBin
    rcases hc with rfl | rfl | rfl
    · exact zb_01 _
    · exact zb_01 _
    · exact zb_01 _
  · obtain ⟨x, r2, rfl, h1, hr⟩ := hs
    subst hc
    exact ⟨_, _, rfl, fun _ => lw_not01 (h1 rfl), hr⟩
  · obtain ⟨y, r1, rfl, h1, x, r2, rfl, h2, hr⟩ := hs
    unfold lwStep
    rw [if_neg (by omega), if_neg (by omega), if_neg (by omega), if_neg (by omega)]
    refine ⟨_, _, rfl, fun _ => ?_, hr⟩
    unfold lwBin
    rcases hc with rfl | rfl
    · exact lw_and01 (h2 rfl) (h1 rfl)
    · exact lw_or01 (h2 rfl) (h1 rfl)
  · obtain ⟨y, r1, rfl, -, x, r2, rfl, -, t, r3, rfl, -, hr⟩ := hs
    subst hc
    exact ⟨_, _, rfl, (fun q => nomatch q), hr⟩
theorem lwRun_M (w : Nat → Int32) : ∀ {cs : List Nat} {s s' : List Bool} {st : List Int32}, lwTys cs s = some s' → stM s st → stM s' (lwRun w cs st)
  | [], s, s', st, h, hs => by cases h; exact hs
  | c :: cs, s, s', st, h, hs => by
    obtain ⟨s1, h1, h2⟩ := Option.bind_eq_some_iff.mp h
    show stM s' (lwRun w cs (lwStep w c st))
    exact lwRun_M w h2 (lwStep_M w h1 hs)
/-- a stack in a row of cells, its bottom first -/
def vst (v : Nat → Int32) : List Int32 → Prop
  | [] => True
  | x :: r => v r.length = x ∧ vst v r
theorem vst_upd {v : Nat → Int32} {x : Int32} : ∀ {r : List Int32} {n : Nat}, r.length ≤ n → vst v r → vst (upd v n x) r
  | [], _, _, _ => trivial
  | y :: r, n, h, hv => ⟨by rw [pk_un (by simp at h; omega)]; exact hv.1, vst_upd (by simp at h; omega) hv.2⟩
theorem vst_push {v : Nat → Int32} {x : Int32} {r : List Int32} {n : Nat} (h : r.length = n) (hv : vst v r) : vst (upd v n x) (x :: r) := ⟨by rw [h]; exact pk_us, vst_upd (by omega) hv⟩
theorem c_between {G : zG} {l : Launch} (M : zM) (c : Nat) (x y : Int32) (hc : c = 3000 ∨ c = 3001 ∨ c = 3002 ∨ c = 3003 ∨ c = 3004 ∨ c = 3005 ∨ c = 3007 ∨ c = 3008) : am G l kX12_between 0 [.int (nI c), .int x, .int y] M 0 0 (zr (.int (lwBin c x y)) (fun M' => M' = M)) := by
  refine am.of (by decide) (Nat.le_of_ble_eq_true rfl) ?_
  rcases hc with rfl | rfl | rfl | rfl | rfl | rfl | rfl | rfl
  · refine aj.iload_n dX12_between_0 rfl ?_
    refine aj.swOut (tgt := 81) dX12_between_1 (by rw [nI_toInt (by omega)]; omega) rfl ?_
    refine aj.iload_n dX12_between_81 rfl ?_
    refine aj.sipush (v := 3000) dX12_between_82 rfl ?_
    refine aj.icmp_neN (a := 3000) (b := 3000) (tgt := 96) dX12_between_85 rfl rfl (by omega) (by omega) rfl (fun c85 => ?_) (fun c85 => ?_)
    · exact absurd rfl c85
    · refine aj.iload_n dX12_between_88 rfl ?_
      refine aj.i2l dX12_between_89 ?_
      refine aj.iload_n dX12_between_90 rfl ?_
      refine aj.i2l dX12_between_91 ?_
      refine aj.ladd dX12_between_92 ?_
      refine aj.goto (tgt := 116) dX12_between_93 rfl ?_
      refine aj.lstore_n (lv' := [(3, .long ((Int32.toInt64 x) + (Int32.toInt64 y))), (0, .int (nI 3000)), (1, .int x), (2, .int y)]) dX12_between_116 (Nat.le_of_ble_eq_true rfl) rfl ?_
      refine aj.lload_n dX12_between_117 rfl ?_
      refine aj.ldc2 dX12_between_118 w1528 ?_
      refine aj.lif_le (tgt := 131) dX12_between_121 dX12_between_122 rfl (fun c121 => ?_) (fun c121 => ?_)
      · refine aj.lload_n dX12_between_131 rfl ?_
        refine aj.ldc2 dX12_between_132 w1529 ?_
        refine aj.lif_ge (tgt := 145) dX12_between_135 dX12_between_136 rfl (fun c135 => ?_) (fun c135 => ?_)
        · refine aj.lload_n dX12_between_145 rfl ?_
          refine aj.l2i dX12_between_146 ?_
          exact aj.iret rfl dX12_between_147 ⟨by simp [lwBin, lwHeld, *], rfl⟩
        · refine aj.ldc2 dX12_between_139 w1529 ?_
          refine aj.goto (tgt := 146) dX12_between_142 rfl ?_
          refine aj.l2i dX12_between_146 ?_
          exact aj.iret rfl dX12_between_147 ⟨by simp [lwBin, lwHeld, *], rfl⟩
      · refine aj.ldc2 dX12_between_125 w1528 ?_
        refine aj.goto (tgt := 146) dX12_between_128 rfl ?_
        refine aj.l2i dX12_between_146 ?_
        exact aj.iret rfl dX12_between_147 ⟨by simp [lwBin, lwHeld, *], rfl⟩
  · refine aj.iload_n dX12_between_0 rfl ?_
    refine aj.swOut (tgt := 81) dX12_between_1 (by rw [nI_toInt (by omega)]; omega) rfl ?_
    refine aj.iload_n dX12_between_81 rfl ?_
    refine aj.sipush (v := 3000) dX12_between_82 rfl ?_
    refine aj.icmp_neN (a := 3001) (b := 3000) (tgt := 96) dX12_between_85 rfl rfl (by omega) (by omega) rfl (fun c85 => ?_) (fun c85 => ?_)
    · refine aj.iload_n dX12_between_96 rfl ?_
      refine aj.sipush (v := 3001) dX12_between_97 rfl ?_
      refine aj.icmp_neN (a := 3001) (b := 3001) (tgt := 111) dX12_between_100 rfl rfl (by omega) (by omega) rfl (fun c100 => ?_) (fun c100 => ?_)
      · exact absurd rfl c100
      · refine aj.iload_n dX12_between_103 rfl ?_
        refine aj.i2l dX12_between_104 ?_
        refine aj.iload_n dX12_between_105 rfl ?_
        refine aj.i2l dX12_between_106 ?_
        refine aj.lsub dX12_between_107 ?_
        refine aj.goto (tgt := 116) dX12_between_108 rfl ?_
        refine aj.lstore_n (lv' := [(3, .long ((Int32.toInt64 x) - (Int32.toInt64 y))), (0, .int (nI 3001)), (1, .int x), (2, .int y)]) dX12_between_116 (Nat.le_of_ble_eq_true rfl) rfl ?_
        refine aj.lload_n dX12_between_117 rfl ?_
        refine aj.ldc2 dX12_between_118 w1528 ?_
        refine aj.lif_le (tgt := 131) dX12_between_121 dX12_between_122 rfl (fun c121 => ?_) (fun c121 => ?_)
        · refine aj.lload_n dX12_between_131 rfl ?_
          refine aj.ldc2 dX12_between_132 w1529 ?_
          refine aj.lif_ge (tgt := 145) dX12_between_135 dX12_between_136 rfl (fun c135 => ?_) (fun c135 => ?_)
          · refine aj.lload_n dX12_between_145 rfl ?_
            refine aj.l2i dX12_between_146 ?_
            exact aj.iret rfl dX12_between_147 ⟨by simp [lwBin, lwHeld, *], rfl⟩
          · refine aj.ldc2 dX12_between_139 w1529 ?_
            refine aj.goto (tgt := 146) dX12_between_142 rfl ?_
            refine aj.l2i dX12_between_146 ?_
            exact aj.iret rfl dX12_between_147 ⟨by simp [lwBin, lwHeld, *], rfl⟩
        · refine aj.ldc2 dX12_between_125 w1528 ?_
          refine aj.goto (tgt := 146) dX12_between_128 rfl ?_
          refine aj.l2i dX12_between_146 ?_
          exact aj.iret rfl dX12_between_147 ⟨by simp [lwBin, lwHeld, *], rfl⟩
    · exact absurd c85 (by decide)
  · refine aj.iload_n dX12_between_0 rfl ?_
    refine aj.swOut (tgt := 81) dX12_between_1 (by rw [nI_toInt (by omega)]; omega) rfl ?_
    refine aj.iload_n dX12_between_81 rfl ?_
    refine aj.sipush (v := 3000) dX12_between_82 rfl ?_
    refine aj.icmp_neN (a := 3002) (b := 3000) (tgt := 96) dX12_between_85 rfl rfl (by omega) (by omega) rfl (fun c85 => ?_) (fun c85 => ?_)
    · refine aj.iload_n dX12_between_96 rfl ?_
      refine aj.sipush (v := 3001) dX12_between_97 rfl ?_
      refine aj.icmp_neN (a := 3002) (b := 3001) (tgt := 111) dX12_between_100 rfl rfl (by omega) (by omega) rfl (fun c100 => ?_) (fun c100 => ?_)
      · refine aj.iload_n dX12_between_111 rfl ?_
        refine aj.i2l dX12_between_112 ?_
        refine aj.iload_n dX12_between_113 rfl ?_
        refine aj.i2l dX12_between_114 ?_
        refine aj.lmul dX12_between_115 ?_
        refine aj.lstore_n (lv' := [(3, .long ((Int32.toInt64 x) * (Int32.toInt64 y))), (0, .int (nI 3002)), (1, .int x), (2, .int y)]) dX12_between_116 (Nat.le_of_ble_eq_true rfl) rfl ?_
        refine aj.lload_n dX12_between_117 rfl ?_
        refine aj.ldc2 dX12_between_118 w1528 ?_
        refine aj.lif_le (tgt := 131) dX12_between_121 dX12_between_122 rfl (fun c121 => ?_) (fun c121 => ?_)
        · refine aj.lload_n dX12_between_131 rfl ?_
          refine aj.ldc2 dX12_between_132 w1529 ?_
          refine aj.lif_ge (tgt := 145) dX12_between_135 dX12_between_136 rfl (fun c135 => ?_) (fun c135 => ?_)
          · refine aj.lload_n dX12_between_145 rfl ?_
            refine aj.l2i dX12_between_146 ?_
            exact aj.iret rfl dX12_between_147 ⟨by simp [lwBin, lwHeld, *], rfl⟩
          · refine aj.ldc2 dX12_between_139 w1529 ?_
            refine aj.goto (tgt := 146) dX12_between_142 rfl ?_
            refine aj.l2i dX12_between_146 ?_
            exact aj.iret rfl dX12_between_147 ⟨by simp [lwBin, lwHeld, *], rfl⟩
        · refine aj.ldc2 dX12_between_125 w1528 ?_
          refine aj.goto (tgt := 146) dX12_between_128 rfl ?_
          refine aj.l2i dX12_between_146 ?_
          exact aj.iret rfl dX12_between_147 ⟨by simp [lwBin, lwHeld, *], rfl⟩
      · exact absurd c100 (by decide)
    · exact absurd c85 (by decide)
  · refine aj.iload_n dX12_between_0 rfl ?_
    refine aj.swIn (tgt := 40) (off := 39) dX12_between_1 (by decide) (by decide) (by decide) rfl ?_
    refine aj.iload_n dX12_between_40 rfl ?_
    refine aj.iload_n dX12_between_41 rfl ?_
    refine aj.icmp_ne (tgt := 49) dX12_between_42 rfl (fun c42 => ?_) (fun c42 => ?_)
    · refine aj.iconst (v := 0) dX12_between_49 rfl ?_
      exact aj.iret rfl dX12_between_50 ⟨by unfold lwBin; simp [zb, *], rfl⟩
    · refine aj.iconst (v := 1) dX12_between_45 rfl ?_
      refine aj.goto (tgt := 50) dX12_between_46 rfl ?_
      exact aj.iret rfl dX12_between_50 ⟨by unfold lwBin; simp [zb, *], rfl⟩
  · refine aj.iload_n dX12_between_0 rfl ?_
    refine aj.swIn (tgt := 51) (off := 50) dX12_between_1 (by decide) (by decide) (by decide) rfl ?_
    refine aj.iload_n dX12_between_51 rfl ?_
    refine aj.iload_n dX12_between_52 rfl ?_
    refine aj.icmp_ge (tgt := 60) dX12_between_53 rfl (fun c53 => ?_) (fun c53 => ?_)
    · refine aj.iconst (v := 0) dX12_between_60 rfl ?_
      exact aj.iret rfl dX12_between_61 ⟨by unfold lwBin; simp [zb, *], rfl⟩
    · refine aj.iconst (v := 1) dX12_between_56 rfl ?_
      refine aj.goto (tgt := 61) dX12_between_57 rfl ?_
      exact aj.iret rfl dX12_between_61 ⟨by unfold lwBin; simp [zb, *], rfl⟩
  · refine aj.iload_n dX12_between_0 rfl ?_
    refine aj.swIn (tgt := 62) (off := 61) dX12_between_1 (by decide) (by decide) (by decide) rfl ?_
    refine aj.iload_n dX12_between_62 rfl ?_
    refine aj.iload_n dX12_between_63 rfl ?_
    refine aj.icmp_le (tgt := 71) dX12_between_64 rfl (fun c64 => ?_) (fun c64 => ?_)
    · refine aj.iconst (v := 0) dX12_between_71 rfl ?_
      exact aj.iret rfl dX12_between_72 ⟨by unfold lwBin; simp [zb, *], rfl⟩
    · refine aj.iconst (v := 1) dX12_between_67 rfl ?_
      refine aj.goto (tgt := 72) dX12_between_68 rfl ?_
      exact aj.iret rfl dX12_between_72 ⟨by unfold lwBin; simp [zb, *], rfl⟩
  · refine aj.iload_n dX12_between_0 rfl ?_
    refine aj.swIn (tgt := 73) (off := 72) dX12_between_1 (by decide) (by decide) (by decide) rfl ?_
    refine aj.iload_n dX12_between_73 rfl ?_
    refine aj.iload_n dX12_between_74 rfl ?_
    refine aj.iand dX12_between_75 ?_
    exact aj.iret rfl dX12_between_76 ⟨rfl, rfl⟩
  · refine aj.iload_n dX12_between_0 rfl ?_
    refine aj.swIn (tgt := 77) (off := 76) dX12_between_1 (by decide) (by decide) (by decide) rfl ?_
    refine aj.iload_n dX12_between_77 rfl ?_
    refine aj.iload_n dX12_between_78 rfl ?_
    refine aj.ior dX12_between_79 ?_
    exact aj.iret rfl dX12_between_80 ⟨rfl, rfl⟩
theorem c_betweenP {G : zG} {l : Launch} (M : zM) (c : Nat) {z : Int32} (x y : Int32) (hz : z = nI c) (hc : c = 3000 ∨ c = 3001 ∨ c = 3002 ∨ c = 3003 ∨ c = 3004 ∨ c = 3005 ∨ c = 3007 ∨ c = 3008) : am G l kX12_between 0 [.int z, .int x, .int y] M 0 0 (zr (.int (lwBin c x y)) (fun M' => M' = M)) := by subst hz; exact c_between M c x y hc
theorem z_dec2 {a : Nat} (h : 2 ≤ a) : nI a + Int32.ofInt (-2) = nI (a - 2) := by
  obtain ⟨n, rfl⟩ : ∃ n, a = n + 2 := ⟨a - 2, by omega⟩
  rw [← nI_add, Int32.add_assoc, show nI 2 + Int32.ofInt (-2) = 0 by decide, Int32.add_zero]
  rfl
theorem reckons_loop {G : zG} {l : Launch} {b : Nat} {M0 : zM} {I : Nat → Int32} {A : Nat → Nat → Int32} {L : Nat → Nat → Int64} {u : Int32} {w : Nat → Int32} (law fr n : Nat) (cs : List Nat) (t : Bool) (hlaw : law < 2) (hn : A 1 (11 + law) = nI n) (hf : A 1 (9 + law) = nI fr) (hlen : cs.length = n) (hb : 140 + fr + n ≤ 1040) (hc : ∀ (k : Nat) (h : k < cs.length), A 1 (140 + fr + k) = nI cs[k]) :
    ∀ (r : List Nat) (kk : Nat) (st : List Int32) (s : List Bool) (v : Nat → Int32) (M : zM) (dp : Nat), cs.drop kk = r → kk + r.length = n → lwTys r s = some [t] → stM s st → st.length = dp → dp ≤ 64 → vst v st → mA b M0 M I A L u v w → lwRun w r st = lwRun w cs [] →
    aj G l kX12_reckons 1 4 [(3, .int (nI kk)), (2, .int (nI dp)), (0, .ref b), (1, .int (nI law))] [] M 0 0 (zr (.int ((lwRun w cs []).headD 0)) (fun M' => ∃ v', mA b M0 M' I A L u v' w)) := by
  intro r
  induction r with
  | nil =>
    intro kk st s v M dp hdr hk hty hst hdp h64 hv hA hrun
    have hs : s = [t] := Option.some.inj hty
    subst hs
    obtain ⟨x, r0, rfl, -, hr0⟩ := hst
    have hr0 : r0 = [] := hr0
    subst hr0
    have hkn : kk = n := by simpa using hk
    refine aj.iload_n dX12_reckons_4 rfl ?_
    refine aj.aload_n dX12_reckons_5 rfl ?_
    refine gM1 rfl dX12_reckons_6 hA ?_
    refine aj.bipush (v := 11) dX12_reckons_9 rfl ?_
    refine aj.iload_n dX12_reckons_11 rfl ?_
    refine aj.iaddN (a := 11) (b := law) dX12_reckons_12 rfl rfl ?_
    refine aM1N (i := 11 + law) dX12_reckons_13 hA rfl (by omega) ?_
    refine aj.icmp_geN (a := kk) (b := n) (tgt := 199) dX12_reckons_14 rfl hn (by omega) (by omega) rfl (fun c14 => ?_) (fun c14 => ?_)
    · refine aj.aload_n dX12_reckons_199 rfl ?_
      refine gM16 rfl dX12_reckons_200 hA ?_
      refine aj.iconst (v := 0) dX12_reckons_203 rfl ?_
      refine aM16N (i := 0) dX12_reckons_204 hA rfl (by omega) ?_
      exact aj.iret rfl dX12_reckons_205 ⟨by rw [← hrun, show v 0 = x from hv.1]; rfl, _, hA⟩
    · exact absurd c14 (by omega)
  | cons c r ih =>
    intro kk st s v M dp hdr hk hty hst hdp h64 hv hA hrun
    obtain ⟨s1, hst1, hty1⟩ := Option.bind_eq_some_iff.mp hty
    have hM1 := lwStep_M w hst1 hst
    have hkl : kk < cs.length := by rw [hlen]; simp at hk; omega
    have hdr2 := List.drop_eq_getElem_cons hkl
    rw [hdr] at hdr2
    obtain ⟨hce, hre⟩ := List.cons.inj hdr2
    have hck : A 1 (140 + fr + kk) = nI c := by rw [hce]; exact hc kk hkl
    have hk1 : kk + 1 + r.length = n := by simp at hk; omega
    have hsl := stM_len hst
    have hcc : ((c < 1000 ∨ 1000 ≤ c ∧ c < 1007) ∧ dp < 64) ∨ (3000 ≤ c ∧ c ≤ 3009) := by
      rcases lwTy_cases hst1 with ⟨h1, h2, -⟩ | ⟨h1, -⟩ | ⟨h1, -⟩ | ⟨h1, -⟩ | ⟨h1, -⟩ | ⟨h1, -⟩ <;> omega
    refine aj.iload_n dX12_reckons_4 rfl ?_
    refine aj.aload_n dX12_reckons_5 rfl ?_
    refine gM1 rfl dX12_reckons_6 hA ?_
    refine aj.bipush (v := 11) dX12_reckons_9 rfl ?_
    refine aj.iload_n dX12_reckons_11 rfl ?_
    refine aj.iaddN (a := 11) (b := law) dX12_reckons_12 rfl rfl ?_
    refine aM1N (i := 11 + law) dX12_reckons_13 hA rfl (by omega) ?_
    refine aj.icmp_geN (a := kk) (b := n) (tgt := 199) dX12_reckons_14 rfl hn (by omega) (by omega) rfl (fun c14 => ?_) (fun c14 => ?_)
    · exact absurd c14 (by omega)
    · refine aj.aload_n dX12_reckons_17 rfl ?_
      refine gM1 rfl dX12_reckons_18 hA ?_
      refine aj.sipush (v := 140) dX12_reckons_21 rfl ?_
      refine aj.aload_n dX12_reckons_24 rfl ?_
      refine gM1 rfl dX12_reckons_25 hA ?_
      refine aj.bipush (v := 9) dX12_reckons_28 rfl ?_
      refine aj.iload_n dX12_reckons_30 rfl ?_
      refine aj.iaddN (a := 9) (b := law) dX12_reckons_31 rfl rfl ?_
      refine aM1N (i := 9 + law) dX12_reckons_32 hA rfl (by omega) ?_
      refine aj.iaddN (a := 140) (b := fr) dX12_reckons_33 rfl hf ?_
      refine aj.iload_n dX12_reckons_34 rfl ?_
      refine aj.iaddN (a := 140 + fr) (b := kk) dX12_reckons_35 rfl rfl ?_
      refine aM1N (i := (140 + fr) + kk) dX12_reckons_36 hA rfl (by omega) ?_
      refine aj.istore (lv' := [(4, .int (A 1 (140 + fr + kk))), (3, .int (nI kk)), (2, .int (nI dp)), (0, .ref b), (1, .int (nI law))]) dX12_reckons_37 (Nat.le_of_ble_eq_true rfl) rfl ?_
      refine aj.iload dX12_reckons_39 rfl ?_
      refine aj.sipush (v := 3000) dX12_reckons_41 rfl ?_
      refine aj.icmp_geN (a := c) (b := 3000) (tgt := 83) dX12_reckons_44 hck rfl (by omega) (by omega) rfl (fun c44 => ?_) (fun c44 => ?_)
      · refine aj.iload dX12_reckons_83 rfl ?_
        refine aj.sipush (v := 3006) dX12_reckons_85 rfl ?_
        refine aj.icmp_neN (a := c) (b := 3006) (tgt := 112) dX12_reckons_88 hck rfl (by omega) (by omega) rfl (fun c88 => ?_) (fun c88 => ?_)
        · refine aj.iload dX12_reckons_112 rfl ?_
          refine aj.sipush (v := 3009) dX12_reckons_114 rfl ?_
          refine aj.icmp_neN (a := c) (b := 3009) (tgt := 163) dX12_reckons_117 hck rfl (by omega) (by omega) rfl (fun c117 => ?_) (fun c117 => ?_)
          · obtain ⟨y, x, r0, rfl, hcb⟩ : ∃ y x r0, st = y :: x :: r0 ∧ (c = 3000 ∨ c = 3001 ∨ c = 3002 ∨ c = 3003 ∨ c = 3004 ∨ c = 3005 ∨ c = 3007 ∨ c = 3008) := by
              rcases lwTy_cases hst1 with ⟨h1, -⟩ | ⟨h1, r2, rfl, -⟩ | ⟨h1, r2, rfl, -⟩ | ⟨h1, -⟩ | ⟨h1, r2, rfl, -⟩ | ⟨h1, -⟩
              · omega
              · obtain ⟨y, r1, rfl, -, x, r3, rfl, -⟩ := hst; exact ⟨y, x, r3, rfl, by omega⟩
              · obtain ⟨y, r1, rfl, -, x, r3, rfl, -⟩ := hst; exact ⟨y, x, r3, rfl, by omega⟩
              · omega
              · obtain ⟨y, r1, rfl, -, x, r3, rfl, -⟩ := hst; exact ⟨y, x, r3, rfl, by omega⟩
              · omega
            have hst2 : lwStep w c (y :: x :: r0) = lwBin c x y :: r0 := by unfold lwStep; rw [if_neg (by omega), if_neg (by omega), if_neg (by omega), if_neg (by omega)]
            have hdp1 : dp - 1 - 1 = r0.length := by simp at hdp; omega
            have hdp2 : dp - 1 = (x :: r0).length := by simp at hdp ⊢; omega
            have hdp0 : 2 ≤ dp := by simp at hdp; omega
            refine aj.iinc (v := nI (dp - 1)) (lv' := [(2, .int (nI (dp - 1))), (4, .int (A 1 (140 + fr + kk))), (3, .int (nI kk)), (0, .ref b), (1, .int (nI law))]) dX12_reckons_163 rfl (Nat.le_of_ble_eq_true rfl) (z_dec (by omega)) rfl ?_
            refine aj.aload_n dX12_reckons_166 rfl ?_
            refine gM16 rfl dX12_reckons_167 hA ?_
            refine aj.iload_n dX12_reckons_170 rfl ?_
            refine aj.iconst (v := 1) dX12_reckons_171 rfl ?_
            refine aj.isubN (a := dp - 1) (b := 1) dX12_reckons_172 rfl rfl (by omega) ?_
            refine aj.iload dX12_reckons_173 rfl ?_
            refine aj.aload_n dX12_reckons_175 rfl ?_
            refine gM16 rfl dX12_reckons_176 hA ?_
            refine aj.iload_n dX12_reckons_179 rfl ?_
            refine aj.iconst (v := 1) dX12_reckons_180 rfl ?_
            refine aj.isubN (a := dp - 1) (b := 1) dX12_reckons_181 rfl rfl (by omega) ?_
            refine aM16N (i := (dp - 1) - 1) dX12_reckons_182 hA rfl (by omega) ?_
            refine aj.aload_n dX12_reckons_183 rfl ?_
            refine gM16 rfl dX12_reckons_184 hA ?_
            refine aj.iload_n dX12_reckons_187 rfl ?_
            refine aM16N (i := dp - 1) dX12_reckons_188 hA rfl (by omega) ?_
            refine aj.callS1 (d' := 0) (As := [.int (A 1 (140 + fr + kk)), .int (v ((dp - 1) - 1)), .int (v (dp - 1))]) (rest := [.int (nI ((dp - 1) - 1)), .ref (b + 5)]) dX12_reckons_189 v_X12_216 w1526 rfl rfl (Nat.le_of_ble_eq_true rfl) (Nat.le_of_ble_eq_true rfl) (c_betweenP _ c (v ((dp - 1) - 1)) (v (dp - 1)) hck hcb) (fun M hM => ?_)
            subst hM
            refine sM16N (i := (dp - 1) - 1) dX12_reckons_192 hA rfl (by omega) (fun M hA => ?_)
            refine aj.iincN (a := kk) (c := 1) (lv' := [(3, .int (nI (kk + 1))), (2, .int (nI (dp - 1))), (4, .int (A 1 (140 + fr + kk))), (0, .ref b), (1, .int (nI law))]) dX12_reckons_193 rfl (Nat.le_of_ble_eq_true rfl) rfl rfl rfl ?_
            refine aj.goto (tgt := 4) dX12_reckons_196 rfl ?_
            refine aj.pick [0, 1, 3, 4] rfl ?_
            exact ih (kk + 1) _ s1 _ M _ hre.symm hk1 hty1 hM1 (by rw [hst2]; simp at hdp ⊢; omega) (by omega) (by rw [hst2, hdp1, hdp2, hv.1, hv.2.1]; exact vst_push rfl hv.2.2) hA hrun
          · obtain ⟨y, x, tt, r0, rfl⟩ : ∃ y x tt r0, st = y :: x :: tt :: r0 := by
              rcases lwTy_cases hst1 with ⟨h1, -⟩ | ⟨h1, -⟩ | ⟨h1, -⟩ | ⟨h1, -⟩ | ⟨h1, -⟩ | ⟨h1, r2, rfl, -⟩
              · omega
              · omega
              · omega
              · omega
              · omega
              · obtain ⟨y, r1, rfl, -, x, r3, rfl, -, tt, r0, rfl, -⟩ := hst; exact ⟨y, x, tt, r0, rfl⟩
            have hst2 : lwStep w c (y :: x :: tt :: r0) = (if tt = 1 then x else y) :: r0 := by unfold lwStep; rw [if_neg (by omega), if_neg (by omega), if_neg (by omega), if_pos c117]
            have hdp1 : dp - 2 - 1 = r0.length := by simp at hdp; omega
            have hdp2 : dp - 2 = (tt :: r0).length := by simp at hdp ⊢; omega
            have hdp3 : dp - 2 + 1 = (x :: tt :: r0).length := by simp at hdp ⊢; omega
            have hdp0 : 3 ≤ dp := by simp at hdp; omega
            refine aj.iinc (v := nI (dp - 2)) (lv' := [(2, .int (nI (dp - 2))), (4, .int (A 1 (140 + fr + kk))), (3, .int (nI kk)), (0, .ref b), (1, .int (nI law))]) dX12_reckons_120 rfl (Nat.le_of_ble_eq_true rfl) (z_dec2 (by omega)) rfl ?_
            refine aj.aload_n dX12_reckons_123 rfl ?_
            refine gM16 rfl dX12_reckons_124 hA ?_
            refine aj.iload_n dX12_reckons_127 rfl ?_
            refine aj.iconst (v := 1) dX12_reckons_128 rfl ?_
            refine aj.isubN (a := dp - 2) (b := 1) dX12_reckons_129 rfl rfl (by omega) ?_
            refine aj.aload_n dX12_reckons_130 rfl ?_
            refine gM16 rfl dX12_reckons_131 hA ?_
            refine aj.iload_n dX12_reckons_134 rfl ?_
            refine aj.iconst (v := 1) dX12_reckons_135 rfl ?_
            refine aj.isubN (a := dp - 2) (b := 1) dX12_reckons_136 rfl rfl (by omega) ?_
            refine aM16N (i := (dp - 2) - 1) dX12_reckons_137 hA rfl (by omega) ?_
            refine aj.iconst (v := 1) dX12_reckons_138 rfl ?_
            refine aj.icmp_ne (tgt := 151) dX12_reckons_139 rfl (fun c139 => ?_) (fun c139 => ?_)
            · refine aj.aload_n dX12_reckons_151 rfl ?_
              refine gM16 rfl dX12_reckons_152 hA ?_
              refine aj.iload_n dX12_reckons_155 rfl ?_
              refine aj.iconst (v := 1) dX12_reckons_156 rfl ?_
              refine aj.iaddN (a := dp - 2) (b := 1) dX12_reckons_157 rfl rfl ?_
              refine aM16N (i := (dp - 2) + 1) dX12_reckons_158 hA rfl (by omega) ?_
              refine sM16N (i := (dp - 2) - 1) dX12_reckons_159 hA rfl (by omega) (fun M hA => ?_)
              refine aj.goto (tgt := 193) dX12_reckons_160 rfl ?_
              refine aj.iincN (a := kk) (c := 1) (lv' := [(3, .int (nI (kk + 1))), (2, .int (nI (dp - 2))), (4, .int (A 1 (140 + fr + kk))), (0, .ref b), (1, .int (nI law))]) dX12_reckons_193 rfl (Nat.le_of_ble_eq_true rfl) rfl rfl rfl ?_
              refine aj.goto (tgt := 4) dX12_reckons_196 rfl ?_
              refine aj.pick [0, 1, 3, 4] rfl ?_
              exact ih (kk + 1) _ s1 _ M _ hre.symm hk1 hty1 hM1 (by rw [hst2]; simp at hdp ⊢; omega) (by omega) (by rw [hst2, hdp1]; (first | rw [if_pos (by rw [← hv.2.2.1, ← hdp1]; exact c139), hdp2, hv.2.1] | rw [if_neg (by rw [← hv.2.2.1, ← hdp1]; exact c139), hdp3, hv.1]); exact vst_push rfl hv.2.2.2) hA hrun
            · refine aj.aload_n dX12_reckons_142 rfl ?_
              refine gM16 rfl dX12_reckons_143 hA ?_
              refine aj.iload_n dX12_reckons_146 rfl ?_
              refine aM16N (i := dp - 2) dX12_reckons_147 hA rfl (by omega) ?_
              refine aj.goto (tgt := 159) dX12_reckons_148 rfl ?_
              refine sM16N (i := (dp - 2) - 1) dX12_reckons_159 hA rfl (by omega) (fun M hA => ?_)
              refine aj.goto (tgt := 193) dX12_reckons_160 rfl ?_
              refine aj.iincN (a := kk) (c := 1) (lv' := [(3, .int (nI (kk + 1))), (2, .int (nI (dp - 2))), (4, .int (A 1 (140 + fr + kk))), (0, .ref b), (1, .int (nI law))]) dX12_reckons_193 rfl (Nat.le_of_ble_eq_true rfl) rfl rfl rfl ?_
              refine aj.goto (tgt := 4) dX12_reckons_196 rfl ?_
              refine aj.pick [0, 1, 3, 4] rfl ?_
              exact ih (kk + 1) _ s1 _ M _ hre.symm hk1 hty1 hM1 (by rw [hst2]; simp at hdp ⊢; omega) (by omega) (by rw [hst2, hdp1]; (first | rw [if_pos (by rw [← hv.2.2.1, ← hdp1]; exact c139), hdp2, hv.2.1] | rw [if_neg (by rw [← hv.2.2.1, ← hdp1]; exact c139), hdp3, hv.1]); exact vst_push rfl hv.2.2.2) hA hrun
        · obtain ⟨x, r0, rfl, hx0⟩ : ∃ x r0, st = x :: r0 ∧ True := by
            rcases lwTy_cases hst1 with ⟨h1, -⟩ | ⟨h1, -⟩ | ⟨h1, -⟩ | ⟨h1, r2, rfl, -⟩ | ⟨h1, -⟩ | ⟨h1, -⟩
            · omega
            · omega
            · omega
            · obtain ⟨x, r0, h, -⟩ := hst; exact ⟨x, r0, h, trivial⟩
            · omega
            · omega
          have hst2 : lwStep w c (x :: r0) = (1 - x) :: r0 := by unfold lwStep; rw [if_neg (by omega), if_neg (by omega), if_pos c88]
          have hdp1 : dp - 1 = r0.length := by simp at hdp; omega
          have hdp0 : 1 ≤ dp := by simp at hdp; omega
          refine aj.aload_n dX12_reckons_91 rfl ?_
          refine gM16 rfl dX12_reckons_92 hA ?_
          refine aj.iload_n dX12_reckons_95 rfl ?_
          refine aj.iconst (v := 1) dX12_reckons_96 rfl ?_
          refine aj.isubN (a := dp) (b := 1) dX12_reckons_97 rfl rfl (by omega) ?_
          refine aj.iconst (v := 1) dX12_reckons_98 rfl ?_
          refine aj.aload_n dX12_reckons_99 rfl ?_
          refine gM16 rfl dX12_reckons_100 hA ?_
          refine aj.iload_n dX12_reckons_103 rfl ?_
          refine aj.iconst (v := 1) dX12_reckons_104 rfl ?_
          refine aj.isubN (a := dp) (b := 1) dX12_reckons_105 rfl rfl (by omega) ?_
          refine aM16N (i := dp - 1) dX12_reckons_106 hA rfl (by omega) ?_
          refine aj.isub dX12_reckons_107 ?_
          refine sM16N (i := dp - 1) dX12_reckons_108 hA rfl (by omega) (fun M hA => ?_)
          refine aj.goto (tgt := 193) dX12_reckons_109 rfl ?_
          refine aj.iincN (a := kk) (c := 1) (lv' := [(3, .int (nI (kk + 1))), (4, .int (A 1 (140 + fr + kk))), (2, .int (nI dp)), (0, .ref b), (1, .int (nI law))]) dX12_reckons_193 rfl (Nat.le_of_ble_eq_true rfl) rfl rfl rfl ?_
          refine aj.goto (tgt := 4) dX12_reckons_196 rfl ?_
          refine aj.pick [0, 2, 3, 4] rfl ?_
          exact ih (kk + 1) _ s1 _ M _ hre.symm hk1 hty1 hM1 (by rw [hst2]; simp at hdp ⊢; omega) (by omega) (by rw [hst2, hdp1, hv.1]; exact vst_push rfl hv.2) hA hrun
      · refine aj.aload_n dX12_reckons_47 rfl ?_
        refine gM16 rfl dX12_reckons_48 hA ?_
        refine aj.iload_n dX12_reckons_51 rfl ?_
        refine aj.iload dX12_reckons_52 rfl ?_
        refine aj.sipush (v := 1000) dX12_reckons_54 rfl ?_
        refine aj.icmp_geN (a := c) (b := 1000) (tgt := 65) dX12_reckons_57 hck rfl (by omega) (by omega) rfl (fun c57 => ?_) (fun c57 => ?_)
        · have hst2 : lwStep w c st = w (c - 1000) :: st := by unfold lwStep; rw [if_neg (by omega), if_pos (by omega)]
          refine aj.aload_n dX12_reckons_65 rfl ?_
          refine gM17 rfl dX12_reckons_66 hA ?_
          refine aj.iload dX12_reckons_69 rfl ?_
          refine aj.sipush (v := 1000) dX12_reckons_71 rfl ?_
          refine aj.isubN (a := c) (b := 1000) dX12_reckons_74 hck rfl (by omega) ?_
          refine aM17N (i := c - 1000) dX12_reckons_75 hA rfl (by omega) ?_
          refine sM16N (i := dp) dX12_reckons_76 hA rfl (by omega) (fun M hA => ?_)
          refine aj.iincN (a := dp) (c := 1) (lv' := [(2, .int (nI (dp + 1))), (4, .int (A 1 (140 + fr + kk))), (3, .int (nI kk)), (0, .ref b), (1, .int (nI law))]) dX12_reckons_77 rfl (Nat.le_of_ble_eq_true rfl) rfl rfl rfl ?_
          refine aj.goto (tgt := 193) dX12_reckons_80 rfl ?_
          refine aj.iincN (a := kk) (c := 1) (lv' := [(3, .int (nI (kk + 1))), (2, .int (nI (dp + 1))), (4, .int (A 1 (140 + fr + kk))), (0, .ref b), (1, .int (nI law))]) dX12_reckons_193 rfl (Nat.le_of_ble_eq_true rfl) rfl rfl rfl ?_
          refine aj.goto (tgt := 4) dX12_reckons_196 rfl ?_
          refine aj.pick [0, 1, 3, 4] rfl ?_
          exact ih (kk + 1) _ s1 _ M _ hre.symm hk1 hty1 hM1 (by rw [hst2]; simp; omega) (by omega) (by rw [hst2]; first | exact vst_push hdp hv | (rw [hck]; exact vst_push hdp hv)) hA hrun
        · have hst2 : lwStep w c st = nI c :: st := by unfold lwStep; rw [if_pos (by omega)]
          refine aj.iload dX12_reckons_60 rfl ?_
          refine aj.goto (tgt := 76) dX12_reckons_62 rfl ?_
          refine sM16N (i := dp) dX12_reckons_76 hA rfl (by omega) (fun M hA => ?_)
          refine aj.iincN (a := dp) (c := 1) (lv' := [(2, .int (nI (dp + 1))), (4, .int (A 1 (140 + fr + kk))), (3, .int (nI kk)), (0, .ref b), (1, .int (nI law))]) dX12_reckons_77 rfl (Nat.le_of_ble_eq_true rfl) rfl rfl rfl ?_
          refine aj.goto (tgt := 193) dX12_reckons_80 rfl ?_
          refine aj.iincN (a := kk) (c := 1) (lv' := [(3, .int (nI (kk + 1))), (2, .int (nI (dp + 1))), (4, .int (A 1 (140 + fr + kk))), (0, .ref b), (1, .int (nI law))]) dX12_reckons_193 rfl (Nat.le_of_ble_eq_true rfl) rfl rfl rfl ?_
          refine aj.goto (tgt := 4) dX12_reckons_196 rfl ?_
          refine aj.pick [0, 1, 3, 4] rfl ?_
          exact ih (kk + 1) _ s1 _ M _ hre.symm hk1 hty1 hM1 (by rw [hst2]; simp; omega) (by omega) (by rw [hst2]; first | exact vst_push hdp hv | (rw [hck]; exact vst_push hdp hv)) hA hrun
theorem c_reckons {G : zG} {l : Launch} {b : Nat} {M0 M : zM} {I : Nat → Int32} {A : Nat → Nat → Int32} {L : Nat → Nat → Int64} {u : Int32} {v w : Nat → Int32} (law fr n : Nat) (cs : List Nat) (t : Bool) (hA : mA b M0 M I A L u v w) (hlaw : law < 2) (hn : A 1 (11 + law) = nI n) (hf : A 1 (9 + law) = nI fr) (hlen : cs.length = n) (hb : 140 + fr + n ≤ 1040) (hc : ∀ (k : Nat) (h : k < cs.length), A 1 (140 + fr + k) = nI cs[k]) (hty : lwTys cs [] = some [t]) :
    am G l kX12_reckons 1 [.ref b, .int (nI law)] M 0 0 (zr (.int ((lwRun w cs []).headD 0)) (fun M' => ∃ v', mA b M0 M' I A L u v' w)) := by
  refine am.of (by decide) (Nat.le_of_ble_eq_true rfl) ?_
  refine aj.iconst (v := 0) dX12_reckons_0 rfl ?_
  refine aj.istore_n (lv' := [(2, .int 0), (0, .ref b), (1, .int (nI law))]) dX12_reckons_1 (Nat.le_of_ble_eq_true rfl) rfl ?_
  refine aj.iconst (v := 0) dX12_reckons_2 rfl ?_
  refine aj.istore_n (lv' := [(3, .int 0), (2, .int 0), (0, .ref b), (1, .int (nI law))]) dX12_reckons_3 (Nat.le_of_ble_eq_true rfl) rfl ?_
  refine aj.pick [0, 1, 2, 3] rfl ?_
  exact reckons_loop law fr n cs t hlaw hn hf hlen hb hc cs 0 [] [] v M 0 rfl (by omega) hty rfl rfl (by omega) trivial hA rfl
