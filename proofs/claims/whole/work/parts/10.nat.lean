theorem z_nI_sub {a b : Nat} (h : b ≤ a) : nI a - nI b = nI (a - b) := pk_sub h
theorem lg_lt {x y : Int64} : lg_cmp x y < 0 ↔ x < y := by
  unfold lg_cmp
  by_cases h1 : x > y
  · rw [if_pos h1]
    refine ⟨fun h => absurd h (by decide), fun h => ?_⟩
    have h2 := Int64.lt_iff_toInt_lt.mp h
    have h3 := Int64.lt_iff_toInt_lt.mp h1
    omega
  · rw [if_neg h1]
    by_cases h2 : x = y
    · rw [if_pos h2]
      refine ⟨fun h => absurd h (by decide), fun h => ?_⟩
      have h3 := Int64.lt_iff_toInt_lt.mp h
      rw [h2] at h3
      omega
    · rw [if_neg h2]
      refine ⟨fun _ => ?_, fun _ => by decide⟩
      have h3 : ¬ y.toInt < x.toInt := fun q => h1 (Int64.lt_iff_toInt_lt.mpr q)
      have h4 : ¬ x.toInt = y.toInt := fun q => h2 (Int64.toInt_inj.mp q)
      exact Int64.lt_iff_toInt_lt.mpr (by omega)
theorem lg_gt {x y : Int64} : 0 < lg_cmp x y ↔ y < x := by
  unfold lg_cmp
  by_cases h1 : x > y
  · rw [if_pos h1]
    exact ⟨fun _ => h1, fun _ => by decide⟩
  · rw [if_neg h1]
    refine ⟨fun h => ?_, fun h => absurd h h1⟩
    by_cases h2 : x = y
    · rw [if_pos h2] at h; exact absurd h (by decide)
    · rw [if_neg h2] at h; exact absurd h (by decide)
theorem lg_eq {x y : Int64} : lg_cmp x y = 0 ↔ x = y := by
  unfold lg_cmp
  by_cases h1 : x > y
  · rw [if_pos h1]
    refine ⟨fun h => absurd h (by decide), fun h => ?_⟩
    have h3 := Int64.lt_iff_toInt_lt.mp h1
    rw [h] at h3
    omega
  · rw [if_neg h1]
    by_cases h2 : x = y
    · rw [if_pos h2]; exact ⟨fun _ => h2, fun _ => rfl⟩
    · rw [if_neg h2]; exact ⟨fun h => absurd h (by decide), fun h => absurd h h2⟩
section Rules10
variable {G : zG} {l : Launch} {k : zY} {d pc bc bs : Nat} {lv : List (Nat × Value)} {st : List Value} {M : zM} {Q : Option Value → zM → Prop}
theorem aj.iaddN {x y : Int32} {a b : Nat} (hd : decode k.2.1 pc = .ok (.iadd, 1)) (hx : x = nI a) (hy : y = nI b) (h : aj G l k d (pc + 1) lv (.int (nI (a + b)) :: st) M bc bs Q) : aj G l k d pc lv (.int y :: .int x :: st) M bc bs Q := aj.iadd hd (by rw [hx, hy, nI_add]; exact h)
theorem aj.isubN {x y : Int32} {a b : Nat} (hd : decode k.2.1 pc = .ok (.isub, 1)) (hx : x = nI a) (hy : y = nI b) (hab : b ≤ a) (h : aj G l k d (pc + 1) lv (.int (nI (a - b)) :: st) M bc bs Q) : aj G l k d pc lv (.int y :: .int x :: st) M bc bs Q := aj.isub hd (by rw [hx, hy, pk_sub hab]; exact h)
theorem aj.imulN {x y : Int32} {a b : Nat} (hd : decode k.2.1 pc = .ok (.imul, 1)) (hx : x = nI a) (hy : y = nI b) (h : aj G l k d (pc + 1) lv (.int (nI (a * b)) :: st) M bc bs Q) : aj G l k d pc lv (.int y :: .int x :: st) M bc bs Q := aj.imul hd (by rw [hx, hy, pk_mul]; exact h)
theorem aj.idivN {x y : Int32} {a b : Nat} (hd : decode k.2.1 pc = .ok (.idiv, 1)) (hx : x = nI a) (hy : y = nI b) (ha : a < 2 ^ 31) (h0 : 0 < b) (hb : b < 2 ^ 31) (h : aj G l k d (pc + 1) lv (.int (nI (a / b)) :: st) M bc bs Q) : aj G l k d pc lv (.int y :: .int x :: st) M bc bs Q := aj.idiv hd (by rw [hy]; exact nI_ne0 h0 hb) (by rw [hx, hy, pk_div ha h0 hb]; exact h)
theorem aj.iremN {x y : Int32} {a b : Nat} (hd : decode k.2.1 pc = .ok (.irem, 1)) (hx : x = nI a) (hy : y = nI b) (ha : a < 2 ^ 31) (h0 : 0 < b) (hb : b < 2 ^ 31) (h : aj G l k d (pc + 1) lv (.int (nI (a % b)) :: st) M bc bs Q) : aj G l k d pc lv (.int y :: .int x :: st) M bc bs Q := aj.irem hd (by rw [hy]; exact nI_ne0 h0 hb) (by rw [hx, hy, pk_rem ha h0 hb]; exact h)
theorem aj.i2lN {x : Int32} {a : Nat} (hd : decode k.2.1 pc = .ok (.i2l, 1)) (hx : x = nI a) (ha : a < 2 ^ 31) (h : aj G l k d (pc + 1) lv (.long (lN a) :: st) M bc bs Q) : aj G l k d pc lv (.int x :: st) M bc bs Q := aj.i2l hd (by rw [hx, nI_l ha]; exact h)
theorem aj.l2iN {x : Int64} {a : Nat} (hd : decode k.2.1 pc = .ok (.l2i, 1)) (hx : x = lN a) (h : aj G l k d (pc + 1) lv (.int (nI a) :: st) M bc bs Q) : aj G l k d pc lv (.long x :: st) M bc bs Q := aj.l2i hd (by rw [hx, lN_i]; exact h)
theorem aj.iincN {i : Nat} {n : Int} {x : Int32} {a c : Nat} {lv' : List (Nat × Value)} (hd : decode k.2.1 pc = .ok (.iinc i n, 3)) (hv : z_g lv i = some (.int x)) (hn : i < k.2.2.1) (hx : x = nI a) (hc : Int32.ofInt n = nI c) (hl : z_s1 lv i (.int (nI (a + c))) = lv') (h : aj G l k d (pc + 3) lv' st M bc bs Q) : aj G l k d pc lv st M bc bs Q := aj.iinc hd hv hn (by rw [hx, hc, nI_add]) hl h
theorem aj.icmp_eqN {x y : Int32} {a b : Nat} {off : Int} {tgt : Nat} (hd : decode k.2.1 pc = .ok (.if_icmp .eq off, 3)) (hx : x = nI a) (hy : y = nI b) (ha : a < 2 ^ 31) (hb : b < 2 ^ 31) (ht : (pc : Int) + off = (tgt : Int)) (h1 : a = b → aj G l k d tgt lv st M bc bs Q) (h2 : a ≠ b → aj G l k d (pc + 3) lv st M bc bs Q) : aj G l k d pc lv (.int y :: .int x :: st) M bc bs Q := by
  subst hx; subst hy
  exact aj.icmp_eq hd ht (fun q => h1 ((nI_eq ha hb).mp q)) (fun q => h2 (fun z => q (by rw [z])))
theorem aj.icmp_neN {x y : Int32} {a b : Nat} {off : Int} {tgt : Nat} (hd : decode k.2.1 pc = .ok (.if_icmp .ne off, 3)) (hx : x = nI a) (hy : y = nI b) (ha : a < 2 ^ 31) (hb : b < 2 ^ 31) (ht : (pc : Int) + off = (tgt : Int)) (h1 : a ≠ b → aj G l k d tgt lv st M bc bs Q) (h2 : a = b → aj G l k d (pc + 3) lv st M bc bs Q) : aj G l k d pc lv (.int y :: .int x :: st) M bc bs Q := by
  subst hx; subst hy
  exact aj.icmp_ne hd ht (fun q => h1 (fun z => q (by rw [z]))) (fun q => h2 ((nI_eq ha hb).mp q))
theorem aj.icmp_ltN {x y : Int32} {a b : Nat} {off : Int} {tgt : Nat} (hd : decode k.2.1 pc = .ok (.if_icmp .lt off, 3)) (hx : x = nI a) (hy : y = nI b) (ha : a < 2 ^ 31) (hb : b < 2 ^ 31) (ht : (pc : Int) + off = (tgt : Int)) (h1 : a < b → aj G l k d tgt lv st M bc bs Q) (h2 : b ≤ a → aj G l k d (pc + 3) lv st M bc bs Q) : aj G l k d pc lv (.int y :: .int x :: st) M bc bs Q := by
  subst hx; subst hy
  exact aj.icmp_lt hd ht (fun q => h1 ((nI_ltI ha hb).mp q)) (fun q => h2 (Nat.not_lt.mp fun z => q ((nI_ltI ha hb).mpr z)))
theorem aj.icmp_geN {x y : Int32} {a b : Nat} {off : Int} {tgt : Nat} (hd : decode k.2.1 pc = .ok (.if_icmp .ge off, 3)) (hx : x = nI a) (hy : y = nI b) (ha : a < 2 ^ 31) (hb : b < 2 ^ 31) (ht : (pc : Int) + off = (tgt : Int)) (h1 : b ≤ a → aj G l k d tgt lv st M bc bs Q) (h2 : a < b → aj G l k d (pc + 3) lv st M bc bs Q) : aj G l k d pc lv (.int y :: .int x :: st) M bc bs Q := by
  subst hx; subst hy
  exact aj.icmp_ge hd ht (fun q => h1 ((nI_leI hb ha).mp q)) (fun q => h2 (Nat.not_le.mp fun z => q ((nI_leI hb ha).mpr z)))
theorem aj.icmp_gtN {x y : Int32} {a b : Nat} {off : Int} {tgt : Nat} (hd : decode k.2.1 pc = .ok (.if_icmp .gt off, 3)) (hx : x = nI a) (hy : y = nI b) (ha : a < 2 ^ 31) (hb : b < 2 ^ 31) (ht : (pc : Int) + off = (tgt : Int)) (h1 : b < a → aj G l k d tgt lv st M bc bs Q) (h2 : a ≤ b → aj G l k d (pc + 3) lv st M bc bs Q) : aj G l k d pc lv (.int y :: .int x :: st) M bc bs Q := by
  subst hx; subst hy
  exact aj.icmp_gt hd ht (fun q => h1 ((nI_ltI hb ha).mp q)) (fun q => h2 (Nat.not_lt.mp fun z => q ((nI_ltI hb ha).mpr z)))
theorem aj.icmp_leN {x y : Int32} {a b : Nat} {off : Int} {tgt : Nat} (hd : decode k.2.1 pc = .ok (.if_icmp .le off, 3)) (hx : x = nI a) (hy : y = nI b) (ha : a < 2 ^ 31) (hb : b < 2 ^ 31) (ht : (pc : Int) + off = (tgt : Int)) (h1 : a ≤ b → aj G l k d tgt lv st M bc bs Q) (h2 : b < a → aj G l k d (pc + 3) lv st M bc bs Q) : aj G l k d pc lv (.int y :: .int x :: st) M bc bs Q := by
  subst hx; subst hy
  exact aj.icmp_le hd ht (fun q => h1 ((nI_leI ha hb).mp q)) (fun q => h2 (Nat.not_le.mp fun z => q ((nI_leI ha hb).mpr z)))
theorem aj.lif_lt {x y : Int64} {off : Int} {tgt : Nat} (hd : decode k.2.1 pc = .ok (.lcmp, 1)) (hd2 : decode k.2.1 (pc + 1) = .ok (.ifCond .lt off, 3)) (ht : ((pc + 1 : Nat) : Int) + off = (tgt : Int)) (h1 : x < y → aj G l k d tgt lv st M bc bs Q) (h2 : ¬ x < y → aj G l k d (pc + 1 + 3) lv st M bc bs Q) : aj G l k d pc lv (.long y :: .long x :: st) M bc bs Q := aj.lcmp hd (aj.if_lt hd2 ht (fun q => h1 (lg_lt.mp q)) (fun q => h2 (fun z => q (lg_lt.mpr z))))
theorem aj.lif_ge {x y : Int64} {off : Int} {tgt : Nat} (hd : decode k.2.1 pc = .ok (.lcmp, 1)) (hd2 : decode k.2.1 (pc + 1) = .ok (.ifCond .ge off, 3)) (ht : ((pc + 1 : Nat) : Int) + off = (tgt : Int)) (h1 : ¬ x < y → aj G l k d tgt lv st M bc bs Q) (h2 : x < y → aj G l k d (pc + 1 + 3) lv st M bc bs Q) : aj G l k d pc lv (.long y :: .long x :: st) M bc bs Q := aj.lcmp hd (aj.if_ge hd2 ht (fun q => h1 (fun z => (by have h9 := Int32.le_iff_toInt_le.mp q; have h8 := Int32.lt_iff_toInt_lt.mp (lg_lt.mpr z); omega : False))) (fun q => h2 (lg_lt.mp (by apply Int32.lt_iff_toInt_lt.mpr; have h9 : ¬ _ := fun z => q (Int32.le_iff_toInt_le.mpr z); omega))))
theorem aj.lif_gt {x y : Int64} {off : Int} {tgt : Nat} (hd : decode k.2.1 pc = .ok (.lcmp, 1)) (hd2 : decode k.2.1 (pc + 1) = .ok (.ifCond .gt off, 3)) (ht : ((pc + 1 : Nat) : Int) + off = (tgt : Int)) (h1 : y < x → aj G l k d tgt lv st M bc bs Q) (h2 : ¬ y < x → aj G l k d (pc + 1 + 3) lv st M bc bs Q) : aj G l k d pc lv (.long y :: .long x :: st) M bc bs Q := aj.lcmp hd (aj.if_gt hd2 ht (fun q => h1 (lg_gt.mp q)) (fun q => h2 (fun z => q (lg_gt.mpr z))))
theorem aj.lif_le {x y : Int64} {off : Int} {tgt : Nat} (hd : decode k.2.1 pc = .ok (.lcmp, 1)) (hd2 : decode k.2.1 (pc + 1) = .ok (.ifCond .le off, 3)) (ht : ((pc + 1 : Nat) : Int) + off = (tgt : Int)) (h1 : ¬ y < x → aj G l k d tgt lv st M bc bs Q) (h2 : y < x → aj G l k d (pc + 1 + 3) lv st M bc bs Q) : aj G l k d pc lv (.long y :: .long x :: st) M bc bs Q := aj.lcmp hd (aj.if_le hd2 ht (fun q => h1 (fun z => (by have h9 := Int32.le_iff_toInt_le.mp q; have h8 := Int32.lt_iff_toInt_lt.mp (lg_gt.mpr z); omega : False))) (fun q => h2 (lg_gt.mp (by apply Int32.lt_iff_toInt_lt.mpr; have h9 : ¬ _ := fun z => q (Int32.le_iff_toInt_le.mpr z); omega))))
theorem aj.lif_eq {x y : Int64} {off : Int} {tgt : Nat} (hd : decode k.2.1 pc = .ok (.lcmp, 1)) (hd2 : decode k.2.1 (pc + 1) = .ok (.ifCond .eq off, 3)) (ht : ((pc + 1 : Nat) : Int) + off = (tgt : Int)) (h1 : x = y → aj G l k d tgt lv st M bc bs Q) (h2 : ¬ x = y → aj G l k d (pc + 1 + 3) lv st M bc bs Q) : aj G l k d pc lv (.long y :: .long x :: st) M bc bs Q := aj.lcmp hd (aj.if_eq hd2 ht (fun q => h1 (lg_eq.mp q)) (fun q => h2 (fun z => q (lg_eq.mpr z))))
theorem aj.lif_ne {x y : Int64} {off : Int} {tgt : Nat} (hd : decode k.2.1 pc = .ok (.lcmp, 1)) (hd2 : decode k.2.1 (pc + 1) = .ok (.ifCond .ne off, 3)) (ht : ((pc + 1 : Nat) : Int) + off = (tgt : Int)) (h1 : ¬ x = y → aj G l k d tgt lv st M bc bs Q) (h2 : x = y → aj G l k d (pc + 1 + 3) lv st M bc bs Q) : aj G l k d pc lv (.long y :: .long x :: st) M bc bs Q := aj.lcmp hd (aj.if_ne hd2 ht (fun q => h1 (fun z => q (lg_eq.mpr z))) (fun q => h2 (lg_eq.mp q)))
end Rules10
