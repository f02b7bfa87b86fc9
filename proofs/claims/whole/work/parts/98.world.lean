section E98
variable {args : Array Value} {s : State}
theorem arr_p {ty : FieldType} (h : (Cond.arrayClass ty).before args s = true) : ∃ cA : ClassId, ArrOfT s cA ty ∧ s.vm.findClass ("[" ++ ty.toString) = some cA := by
  obtain ⟨c, k, comp, h1, h2, h3⟩ := Cond.arrayClass_spec h
  exact ⟨c, fun n z => ⟨fun k h => (by cases h), k, h2, comp, h3⟩, h1⟩
theorem arr_o {C : String} (h : (Cond.arrayOver (.object C)).before args s = true) : ∃ cA : ClassId, ArrOfT s cA (.object C) ∧ va_RA s cA (.object C) := by
  obtain ⟨comp, c, k, h1, h2, h3, h4, h5⟩ := Cond.arrayOver_spec h
  exact ⟨c, fun n z => ⟨fun k h => (by cases h), k, h3, comp, h4⟩, k, comp, h3, h4, h1, h5⟩
theorem str_of {t : Term} {n : Nat} {bs : List Int32} {A : Nat → Prop} (hn : n < 2 ^ 31) (hex : (Cond.exactly t "java/lang/String").before args s = true) (hco : (Cond.eq (.field t "java/lang/String" "coder" "B") (.int 0)).before args s = true) (har : (Cond.arrayOf (.field t "java/lang/String" "value" "[B") .byte).before args s = true) (hle : (Cond.eq (.length (.field t "java/lang/String" "value" "[B")) (.int (Int32.ofNat n))).before args s = true) (hel : ∀ j : Nat, j < n → (Cond.eq (.elem (.field t "java/lang/String" "value" "[B") (.int (Int32.ofNat j))) (.int (bs.getD j 0))).before args s = true) (hA : ∀ a : Nat, a < s.heap.size → ¬ A a) : ∃ k v : Nat, vk_S 1 [n] [bs] (fun _ => k) (fun _ => v) A s s.heap ∧ t.eval args s none [] s = some (.ref k) := by
  have z : ∀ i : Nat, i < 1 → i = 0 := fun i hi => by omega
  obtain ⟨adK, adV, h1, h2⟩ := vk_Sof (args := args) (s := s) (N := 1) (tm := fun _ => t) (len := [n]) (byt := [bs]) (A := A) (fun i hi => by obtain rfl : i = 0 := z i hi; exact hn) (fun _ _ => hex) (fun _ _ => hco) (fun _ _ => har) (fun i hi => by obtain rfl : i = 0 := z i hi; exact hle) (fun i hi j hj => by obtain rfl : i = 0 := z i hi; exact hel j hj) (fun i j hi hj hne => absurd ((z i hi).trans (z j hj).symm) hne) hA
  refine ⟨adK 0, adV 0, ⟨fun i hi => ?_, fun i j hi hj _ => (z i hi).trans (z j hj).symm⟩, h2 0 (by decide)⟩
  obtain rfl : i = 0 := z i hi
  exact h1.1 0 hi
end E98
theorem sel_0 : ∀ j : Nat, j < 108 → (flatC (Jvm.Cond.and given_1 narrow_1))[65 + j]? = some (Cond.eq (.elem (.field (.string "LashRing$Tokens" 54) "java/lang/String" "value" "[B") (.int (Int32.ofNat j))) (.int ((z_byt.getD 0 []).getD j 0))) := by decide +kernel
theorem str_0 {args : Array Value} {s : State} {A : Nat → Prop} (h : (Jvm.Cond.and given_1 narrow_1).before args s = true) (hA : ∀ a : Nat, a < s.heap.size → ¬ A a) : ∃ k v : Nat, vk_S 1 [108] [z_byt.getD 0 []] (fun _ => k) (fun _ => v) A s s.heap ∧ (Term.string "LashRing$Tokens" 54).eval args s none [] s = some (.ref k) := by
  have hs := flat_of_before _ h
  exact str_of (by decide) (hs _ (List.mem_of_getElem? (i := 61) (by decide +kernel))) (hs _ (List.mem_of_getElem? (i := 62) (by decide +kernel))) (hs _ (List.mem_of_getElem? (i := 63) (by decide +kernel))) (hs _ (List.mem_of_getElem? (i := 64) (by decide +kernel))) (fun j hj => hs _ (List.mem_of_getElem? (sel_0 j hj))) hA
theorem sel_1 : ∀ j : Nat, j < 12 → (flatC (Jvm.Cond.and given_1 narrow_1))[177 + j]? = some (Cond.eq (.elem (.field (.string "LashRing$Tokens" 46) "java/lang/String" "value" "[B") (.int (Int32.ofNat j))) (.int ((z_byt.getD 1 []).getD j 0))) := by decide +kernel
theorem str_1 {args : Array Value} {s : State} {A : Nat → Prop} (h : (Jvm.Cond.and given_1 narrow_1).before args s = true) (hA : ∀ a : Nat, a < s.heap.size → ¬ A a) : ∃ k v : Nat, vk_S 1 [12] [z_byt.getD 1 []] (fun _ => k) (fun _ => v) A s s.heap ∧ (Term.string "LashRing$Tokens" 46).eval args s none [] s = some (.ref k) := by
  have hs := flat_of_before _ h
  exact str_of (by decide) (hs _ (List.mem_of_getElem? (i := 173) (by decide +kernel))) (hs _ (List.mem_of_getElem? (i := 174) (by decide +kernel))) (hs _ (List.mem_of_getElem? (i := 175) (by decide +kernel))) (hs _ (List.mem_of_getElem? (i := 176) (by decide +kernel))) (fun j hj => hs _ (List.mem_of_getElem? (sel_1 j hj))) hA
theorem sel_2 : ∀ j : Nat, j < 109 → (flatC (Jvm.Cond.and given_1 narrow_1))[194 + j]? = some (Cond.eq (.elem (.field (.string "LashRingModel" 86) "java/lang/String" "value" "[B") (.int (Int32.ofNat j))) (.int ((z_byt.getD 2 []).getD j 0))) := by decide +kernel
theorem str_2 {args : Array Value} {s : State} {A : Nat → Prop} (h : (Jvm.Cond.and given_1 narrow_1).before args s = true) (hA : ∀ a : Nat, a < s.heap.size → ¬ A a) : ∃ k v : Nat, vk_S 1 [109] [z_byt.getD 2 []] (fun _ => k) (fun _ => v) A s s.heap ∧ (Term.string "LashRingModel" 86).eval args s none [] s = some (.ref k) := by
  have hs := flat_of_before _ h
  exact str_of (by decide) (hs _ (List.mem_of_getElem? (i := 190) (by decide +kernel))) (hs _ (List.mem_of_getElem? (i := 191) (by decide +kernel))) (hs _ (List.mem_of_getElem? (i := 192) (by decide +kernel))) (hs _ (List.mem_of_getElem? (i := 193) (by decide +kernel))) (fun j hj => hs _ (List.mem_of_getElem? (sel_2 j hj))) hA
theorem sel_3 : ∀ j : Nat, j < 12 → (flatC (Jvm.Cond.and given_1 narrow_1))[309 + j]? = some (Cond.eq (.elem (.field (.string "LashRingModel" 124) "java/lang/String" "value" "[B") (.int (Int32.ofNat j))) (.int ((z_byt.getD 3 []).getD j 0))) := by decide +kernel
theorem str_3 {args : Array Value} {s : State} {A : Nat → Prop} (h : (Jvm.Cond.and given_1 narrow_1).before args s = true) (hA : ∀ a : Nat, a < s.heap.size → ¬ A a) : ∃ k v : Nat, vk_S 1 [12] [z_byt.getD 3 []] (fun _ => k) (fun _ => v) A s s.heap ∧ (Term.string "LashRingModel" 124).eval args s none [] s = some (.ref k) := by
  have hs := flat_of_before _ h
  exact str_of (by decide) (hs _ (List.mem_of_getElem? (i := 305) (by decide +kernel))) (hs _ (List.mem_of_getElem? (i := 306) (by decide +kernel))) (hs _ (List.mem_of_getElem? (i := 307) (by decide +kernel))) (hs _ (List.mem_of_getElem? (i := 308) (by decide +kernel))) (fun j hj => hs _ (List.mem_of_getElem? (sel_3 j hj))) hA
theorem z_N_in : ∀ q ∈ z_N, Cond.methodLinkNest q.1 q.2.1 q.2.2.1 q.2.2.2 ∈ lw_tbl := by decide +kernel
theorem z_W_in {w : Cond} (h : w ∈ z_W) : w ∈ lw_tbl := (List.mem_filter.mp h).1
theorem kn_all {args : Array Value} {s : State} (hts : ∀ w ∈ lw_tbl, w.before args s = true) : ∃ (dC : Nat → ClassId) (dI : Nat → Nat → Nat), ∀ (k : Nat) (q : vw_C), classes[k]? = some q → u_Kn s q.1 q.2.1 q.2.2 (dC k) (dI k) := by
  obtain ⟨c0, i0, h0⟩ := u_known (C := RX0) (T := TX0) (N := 11) (n := 11) hts inX0 (hts (.instantiable RX0 11) (by decide +kernel))
  obtain ⟨c1, i1, h1⟩ := u_known (C := RX1) (T := TX1) (N := 3) (n := 3) hts inX1 (hts (.instantiable RX1 3) (by decide +kernel))
  obtain ⟨c2, i2, h2⟩ := u_known (C := RX2) (T := TX2) (N := 2) (n := 2) hts inX2 (hts (.instantiable RX2 2) (by decide +kernel))
  obtain ⟨c3, i3, h3⟩ := u_known (C := RX3) (T := TX3) (N := 4) (n := 4) hts inX3 (hts (.instantiable RX3 4) (by decide +kernel))
  obtain ⟨c4, i4, h4⟩ := u_known (C := RX4) (T := TX4) (N := 2) (n := 2) hts inX4 (hts (.instantiable RX4 2) (by decide +kernel))
  obtain ⟨c5, i5, h5⟩ := u_known (C := RX5) (T := TX5) (N := 8) (n := 8) hts inX5 (hts (.instantiable RX5 8) (by decide +kernel))
  obtain ⟨c6, i6, h6⟩ := u_known (C := RX6) (T := TX6) (N := 3) (n := 3) hts inX6 (hts (.instantiable RX6 3) (by decide +kernel))
  obtain ⟨c7, i7, h7⟩ := u_known (C := RX7) (T := TX7) (N := 5) (n := 5) hts inX7 (hts (.instantiable RX7 5) (by decide +kernel))
  obtain ⟨c8, i8, h8⟩ := u_known (C := RX8) (T := TX8) (N := 3) (n := 3) hts inX8 (hts (.instantiable RX8 3) (by decide +kernel))
  obtain ⟨c9, i9, h9⟩ := u_known (C := RX9) (T := TX9) (N := 2) (n := 2) hts inX9 (hts (.instantiable RX9 2) (by decide +kernel))
  obtain ⟨c10, i10, h10⟩ := u_known (C := RX10) (T := TX10) (N := 4) (n := 4) hts inX10 (hts (.instantiable RX10 4) (by decide +kernel))
  obtain ⟨c11, i11, h11⟩ := u_known (C := RX11) (T := TX11) (N := 17) (n := 17) hts inX11 (hts (.instantiable RX11 17) (by decide +kernel))
  obtain ⟨c12, i12, h12⟩ := u_known (C := RX12) (T := TX12) (N := 35) (n := 35) hts inX12 (hts (.instantiable RX12 35) (by decide +kernel))
  refine ⟨fun k => match k with | 0 => c0 | 1 => c1 | 2 => c2 | 3 => c3 | 4 => c4 | 5 => c5 | 6 => c6 | 7 => c7 | 8 => c8 | 9 => c9 | 10 => c10 | 11 => c11 | _ => c12, fun k => match k with | 0 => i0 | 1 => i1 | 2 => i2 | 3 => i3 | 4 => i4 | 5 => i5 | 6 => i6 | 7 => i7 | 8 => i8 | 9 => i9 | 10 => i10 | 11 => i11 | _ => i12, fun k q hq => ?_⟩
  match k, hq with
  | 0, hq => cases hq; exact h0
  | 1, hq => cases hq; exact h1
  | 2, hq => cases hq; exact h2
  | 3, hq => cases hq; exact h3
  | 4, hq => cases hq; exact h4
  | 5, hq => cases hq; exact h5
  | 6, hq => cases hq; exact h6
  | 7, hq => cases hq; exact h7
  | 8, hq => cases hq; exact h8
  | 9, hq => cases hq; exact h9
  | 10, hq => cases hq; exact h10
  | 11, hq => cases hq; exact h11
  | 12, hq => cases hq; exact h12
  | k + 13, hq => simp [classes] at hq
theorem ar_all {args : Array Value} {s : State} (hts : ∀ w ∈ lw_tbl, w.before args s = true) : ∃ aC : Nat → ClassId, ∀ t, t < 8 → ArrOfT s (aC t) (z_ty t) ∧ va_RA s (aC t) (z_ty t) := by
  obtain ⟨c0, a0, b0⟩ := arr_p (hts (.arrayClass .int) (by decide +kernel))
  obtain ⟨c1, a1, b1⟩ := arr_p (hts (.arrayClass .long) (by decide +kernel))
  obtain ⟨c2, a2, b2⟩ := arr_p (hts (.arrayClass .byte) (by decide +kernel))
  obtain ⟨c3, a3, b3⟩ := arr_p (hts (.arrayClass .boolean) (by decide +kernel))
  obtain ⟨c4, h4⟩ := arr_o (hts (.arrayOver (.object RX7)) (by decide +kernel))
  obtain ⟨c5, h5⟩ := arr_o (hts (.arrayOver (.object RX10)) (by decide +kernel))
  obtain ⟨c6, h6⟩ := arr_o (hts (.arrayOver (.object RX0)) (by decide +kernel))
  obtain ⟨c7, h7⟩ := arr_o (hts (.arrayOver (.object RX8)) (by decide +kernel))
  refine ⟨fun k => match k with | 0 => c0 | 1 => c1 | 2 => c2 | 3 => c3 | 4 => c4 | 5 => c5 | 6 => c6 | _ => c7, fun t ht => ?_⟩
  rcases (show t = 0 ∨ t = 1 ∨ t = 2 ∨ t = 3 ∨ t = 4 ∨ t = 5 ∨ t = 6 ∨ t = 7 by omega) with rfl | rfl | rfl | rfl | rfl | rfl | rfl | rfl
  · exact ⟨a0, b0⟩
  · exact ⟨a1, b1⟩
  · exact ⟨a2, b2⟩
  · exact ⟨a3, b3⟩
  · exact h4
  · exact h5
  · exact h6
  · exact h7
theorem ao_all {args : Array Value} {s : State} (hts : ∀ w ∈ lw_tbl, w.before args s = true) : ∀ C ∈ [RX7, RX10, RX0, RX8], va_AO C s := List.forall_mem_cons.mpr ⟨va_AO.of (hts (.arrayOver (.object RX7)) (by decide +kernel)), List.forall_mem_cons.mpr ⟨va_AO.of (hts (.arrayOver (.object RX10)) (by decide +kernel)), List.forall_mem_cons.mpr ⟨va_AO.of (hts (.arrayOver (.object RX0)) (by decide +kernel)), List.forall_mem_cons.mpr ⟨va_AO.of (hts (.arrayOver (.object RX8)) (by decide +kernel)), fun _ h => absurd h List.not_mem_nil⟩⟩⟩⟩
/-- the world of the law -/
theorem w_all {b : Nat} {s : State} (hts : ∀ w ∈ lw_tbl, w.before #[Value.ref b] s = true) (hgv : (Jvm.Cond.and given_1 narrow_1).before #[Value.ref b] s = true) : ∃ (G : zG) (av : Nat → Nat) (fm : Nat), G.2.2.2.1 = s.heap ∧ (∀ U : State, G.2.2.2.2.2 U ↔ s.vm.Alike U.vm) ∧ zSt G av fm ∧ zCl G ∧ z_K G s := by
  obtain ⟨dC, dI, hKn⟩ := kn_all hts
  obtain ⟨aC, hAr⟩ := ar_all hts
  have hA : ∀ a : Nat, a < s.heap.size → ¬ (fun q : Nat => s.heap.size ≤ q) a := fun a ha => Nat.not_le.mpr ha
  obtain ⟨k0, v0, s0, e0⟩ := str_0 (A := fun q : Nat => s.heap.size ≤ q) hgv hA
  obtain ⟨k1, v1, s1, e1⟩ := str_1 (A := fun q : Nat => s.heap.size ≤ q) hgv hA
  obtain ⟨k2, v2, s2, e2⟩ := str_2 (A := fun q : Nat => s.heap.size ≤ q) hgv hA
  obtain ⟨k3, v3, s3, e3⟩ := str_3 (A := fun q : Nat => s.heap.size ≤ q) hgv hA
  have hs := flat_of_before _ hgv
  have z1 : va_Z "java/lang/String" "COMPACT_STRINGS" "Z" (.int 1) (fun q : Nat => s.heap.size ≤ q) s s.heap := va_Zof (hts (.laysStatic "java/lang/String" "COMPACT_STRINGS" "Z") (by decide +kernel)) (hts (.initialized "java/lang/String") (by decide +kernel)) (va_eqt (hs _ (List.mem_of_getElem? (i := 4) (by decide +kernel)))) hA
  have z2 : va_Zq "jdk/internal/util/Preconditions" "SIOOBE_FORMATTER" "Ljava/util/function/BiFunction;" (fun q : Nat => s.heap.size ≤ q) s s.heap := va_Zqof (hts (.laysStatic "jdk/internal/util/Preconditions" "SIOOBE_FORMATTER" "Ljava/util/function/BiFunction;") (by decide +kernel)) (hts (.initialized "jdk/internal/util/Preconditions") (by decide +kernel)) (hs _ (List.mem_of_getElem? (i := 5) (by decide +kernel))) hA
  obtain ⟨fm, z3⟩ : ∃ fm : Nat, va_Z "jdk/internal/util/Preconditions" "SIOOBE_FORMATTER" "Ljava/util/function/BiFunction;" (zfv fm) (fun q : Nat => s.heap.size ≤ q) s s.heap := by
    rcases z2 with h | ⟨t, h⟩
    · exact ⟨0, h⟩
    · exact ⟨t + 1, h⟩
  have hcl : va_Nw (.castable "[I" "java/lang/Cloneable") s := va_Nw.of rfl (hts (.castable "[I" "java/lang/Cloneable") (by decide +kernel))
  refine ⟨(dC, dI, aC, s.heap, fun i => match i with | 0 => k0 | 1 => k1 | 2 => k2 | _ => k3, fun U => s.vm.Alike U.vm), fun i => match i with | 0 => v0 | 1 => v1 | 2 => v2 | _ => v3, fm, rfl, fun U => Iff.rfl, fun U hU => ⟨fun i hi => ?_, va_Z.moved hU z1, va_Z.moved hU z3⟩, fun U hU => va_tabs rfl (rfl : (s.setVm U.vm).vm = U.vm) (by rw [Cond.castable_setVm hU]; exact hcl), ⟨hKn, fun k q hq => ?_⟩, fun q hq => va_Nw.of rfl (hts _ (z_N_in q hq)), ao_all hts, fun i q hq => ?_, fun U' hU => hU⟩
  · rcases (show i = 0 ∨ i = 1 ∨ i = 2 ∨ i = 3 by omega) with rfl | rfl | rfl | rfl
    · exact vk_S.moved hU s0
    · exact vk_S.moved hU s1
    · exact vk_S.moved hU s2
    · exact vk_S.moved hU s3
  · by_cases h : k < 8
    · rw [z_t_at _ h] at hq
      cases hq
      exact hAr k h
    · simp [z_t, h] at hq
  · match i, hq with
    | 0, hq => cases hq; exact vk_R.of (hts _ (by decide +kernel)) e0
    | 1, hq => cases hq; exact vk_R.of (hts _ (by decide +kernel)) e1
    | 2, hq => cases hq; exact vk_R.of (hts _ (by decide +kernel)) e2
    | 3, hq => cases hq; exact vk_R.of (hts _ (by decide +kernel)) e3
    | i + 4, hq => simp [z_str] at hq
