/-! cells, memory, worlds of this claim -/
abbrev zC : Type := (Nat × vp_A) ⊕ (Nat × List Value)
abbrev zM : Type := (Nat → Option zC) × Nat
abbrev zG : Type := (Nat → ClassId) × (Nat → Nat → Nat) × (Nat → ClassId) × Heap × (Nat → Nat) × (State → Prop)
abbrev zY : Type := MethodName × ByteArray × Nat × Option FieldType
def z_ty (t : Nat) : FieldType := match t with
  | 0 => .int
  | 1 => .long
  | 2 => .byte
  | 3 => .boolean
  | 4 => .object RX7
  | 5 => .object RX10
  | 6 => .object RX0
  | _ => .object RX8
def z_D (G : zG) : va_G := (G.1, G.2.1)
def z_e (G : zG) (c : zC) : va_E := match c with
  | .inl a => .inl (G.2.2.1 a.1, a.2)
  | .inr o => .inr o
def z_t (G : zG) : List (ClassId × FieldType) := (List.range 8).map (fun t => (G.2.2.1 t, z_ty t))
theorem z_t_at (G : zG) {t : Nat} (h : t < 8) : (z_t G)[t]? = some (G.2.2.1 t, z_ty t) := by
  simp [z_t, h]
abbrev z_B (G : zG) : Nat := G.2.2.2.1.size
abbrev z_A (G : zG) : Nat → Prop := fun q => z_B G ≤ q
def z_up (M : zM) (a : Nat) (c : zC) : zM := (fun b => if b = a then some c else M.1 b, M.2)
def z_nw (M : zM) (c : zC) : zM := (fun b => if b = M.2 then some c else M.1 b, M.2 + 1)
theorem z_up_s (M : zM) (a : Nat) (c : zC) : (z_up M a c).1 a = some c := if_pos rfl
theorem z_up_n (M : zM) {a b : Nat} (c : zC) (h : b ≠ a) : (z_up M a c).1 b = M.1 b := if_neg h
theorem z_nw_s (M : zM) (c : zC) : (z_nw M c).1 M.2 = some c := if_pos rfl
theorem z_nw_n (M : zM) {b : Nat} (c : zC) (h : b ≠ M.2) : (z_nw M c).1 b = M.1 b := if_neg h
def z_S (G : zG) (M : zM) (H : Heap) : Prop := H.size = M.2 ∧ z_B G ≤ M.2 ∧ (∀ q : Nat, q < z_B G → H[q]? = G.2.2.2.1[q]?) ∧ ∀ (a : Nat) (c : zC), M.1 a = some c → z_B G ≤ a ∧ va_at (z_D G) classes (a, z_e G c) H
theorem z_S.lt {G : zG} {M : zM} {H : Heap} (h : z_S G M H) {a : Nat} {c : zC} (ha : M.1 a = some c) : a < M.2 := by
  have := (h.2.2.2 a c ha).2.lt
  rw [← h.1]; exact this
theorem z_S.put {G : zG} {M : zM} {H H1 : Heap} {a : Nat} {c c' : zC} (h : z_S G M H) (ha : M.1 a = some c) (he : va_at (z_D G) classes (a, z_e G c') H1) (z : H1.size = H.size) (oq : ∀ q : Nat, q ≠ a → H1[q]? = H[q]?) : z_S G (z_up M a c') H1 := by
  have hb := (h.2.2.2 a c ha).1
  refine ⟨z.trans h.1, h.2.1, fun q hq => ?_, fun b x hx => ?_⟩
  · rw [oq q (by omega)]; exact h.2.2.1 q hq
  · by_cases e : b = a
    · subst e
      rw [z_up_s] at hx
      cases hx
      exact ⟨hb, he⟩
    · rw [z_up_n M c' e] at hx
      obtain ⟨h1, h2⟩ := h.2.2.2 b x hx
      exact ⟨h1, h2.kept (oq b e)⟩
theorem z_S.new {G : zG} {M : zM} {H H1 : Heap} {c : zC} (h : z_S G M H) (he : va_at (z_D G) classes (H.size, z_e G c) H1) (z : H1.size = H.size + 1) (oq : ∀ q : Nat, q < H.size → H1[q]? = H[q]?) : z_S G (z_nw M c) H1 := by
  have h0 := h.2.1
  have hs := h.1
  refine ⟨by rw [z, h.1]; rfl, Nat.le_succ_of_le h.2.1, fun q hq => ?_, fun b x hx => ?_⟩
  · rw [oq q (by omega)]; exact h.2.2.1 q hq
  · by_cases e : b = M.2
    · subst e
      rw [z_nw_s] at hx
      cases hx
      rw [← h.1]
      exact ⟨by omega, he⟩
    · rw [z_nw_n M c e] at hx
      obtain ⟨h1, h2⟩ := h.2.2.2 b x hx
      exact ⟨h1, h2.kept (oq b h2.lt)⟩
def z_K (G : zG) (U : State) : Prop := va_K (z_D G) classes (z_t G) U ∧ (∀ q ∈ z_N, va_Nw (.methodLinkNest q.1 q.2.1 q.2.2.1 q.2.2.2) U) ∧ (∀ C ∈ [RX7, RX10, RX0, RX8], va_AO C U) ∧ (∀ (i : Nat) (q : String × Nat × String), z_str[i]? = some q → vk_R q.1 q.2.1 q.2.2 (G.2.2.2.2.1 i) U) ∧ ∀ U' : State, U.vm.Alike U'.vm → G.2.2.2.2.2 U'
theorem z_K.warm {G : zG} {s U : State} (hW : s.WarmedH U.vm) (h : z_K G s) : z_K G U :=
  ⟨va_K.moved hW.alike h.1, fun q hq => va_Nw.warmM hW (h.2.1 q hq), fun C hC => va_AO.moved hW.alike (h.2.2.1 C hC), fun i q hq => vk_R.warm hW (h.2.2.2.1 i q hq), fun U' hU => h.2.2.2.2 U' (hW.alike.trans hU)⟩
theorem z_K.same {G : zG} {u U : State} (hv : U.vm = u.vm) (h : z_K G u) : z_K G U :=
  ⟨va_K.moved (by rw [hv]; exact Vm.Alike.refl _) h.1, fun q hq => va_Nw.same rfl hv.symm (h.2.1 q hq), fun C hC => va_AO.moved (by rw [hv]; exact Vm.Alike.refl _) (h.2.2.1 C hC), fun i q hq => vk_R.same hv (h.2.2.2.1 i q hq), fun U' hU => h.2.2.2.2 U' (by rw [← hv]; exact hU)⟩
/-- what holds of a method's frame all the time -/
def z_C (G : zG) (k : zY) (p : Program) (s : State) (m : MethodId) (args : Array Value) (meth : Method) (c : Code) : Prop :=
  p.tables.exec = Jvm.exec ∧ c.code = k.2.1 ∧ meth.sig.returnType = k.2.2.2 ∧ c.maxLocals = k.2.2.1 ∧ s.vm.findClass k.1.cls = some m.cls ∧ (∀ w ∈ z_W, w.before args s = true) ∧ meth.locks = false ∧ z_K G s ∧ meth.name = k.1.name
/-- a method's end -/
def z_Q (G : zG) (Q : Option Value → zM → Prop) : Array Value → State → Outcome → State → Prop := fun _ st o t => ∃ (r : Option Value) (M : zM), o = .returned r ∧ Q r M ∧ z_S G M t.heap ∧ st.heap.size ≤ t.heap.size
/-- a method's contract: d frames, kc cells, ks slots -/
def am (G : zG) (l : Launch) (k : zY) (d : Nat) (As : List Value) (M : zM) (kc ks : Nat) (Q : Option Value → zM → Prop) : Prop :=
  Met l k.1 (Cond.code k.1 k.2.1 k.2.2.1 k.2.2.2 :: z_W) ({ frames := d, cells := kc, slots := ks, locals := 64 * d } : Room) (va_Pc As (fun U => z_S G M U.heap ∧ z_K G U)) (z_Q G Q) kc ks (z_A G)
/-- a frame on its way -/
def aj (G : zG) (l : Launch) (k : zY) (d pc : Nat) (lv : List (Nat × Value)) (st : List Value) (M : zM) (bc bs : Nat) (Q : Option Value → zM → Prop) : Prop :=
  ∀ (p : Program) (e : Env) (R : Room) (s : State) (m : MethodId) (args : Array Value) (below : List Frame) (meth : Method) (c : Code) (H : Heap) (locs : List Loc) (cells slots : Nat) (LS : Array Slot),
    z_C G k p s m args meth c → z_S G M H → va_S (z_A G) s.heap H locs → lv_has LS k.2.2.1 lv → d ≤ R.frames → 64 * d ≤ R.locals → cells + bc ≤ R.cells → slots + bs ≤ R.slots →
    W p l e R s m args below meth c H locs cells slots (MQ below (z_Q G Q) args s (cells + bc) (slots + bs) (z_A G)) (F0 m pc LS st)
theorem am.of {G : zG} {l : Launch} {k : zY} {d : Nat} {As : List Value} {M : zM} {kc ks : Nat} {Q : Option Value → zM → Prop} (hy : plainName k.1.cls = true) (hn : (lg_sl As).length ≤ k.2.2.1) (h : aj G l k d 0 (lv_args 0 As) [] M kc ks Q) : am G l k d As M kc ks Q := by
  refine Met.ofW (cc := k.2.1) (maxL := k.2.2.1) (ret := k.2.2.2) hy rfl ?_
  intro p e s m args below meth c s₁ B hml hv
  obtain ⟨rfl, hS, hK⟩ := hv
  have hts := atoms_spec (ws := Cond.code k.1 k.2.1 k.2.2.1 k.2.2.2 :: z_W) B.pre
  have hl := lv_entry As (n := k.2.2.1) hn
  rw [lg_entry_eq]
  have := h p e (headSpec (Cond.code k.1 k.2.1 k.2.2.1 k.2.2.2 :: z_W) ({ frames := d, cells := kc, slots := ks, locals := 64 * d } : Room)).room s m As.toArray below meth c s.heap [] 0 0 _ ⟨B.exec, B.bytes, B.returns, hml, findClass_of_methodNamed B.named, fun w hw => hts w (List.mem_cons_of_mem _ hw), B.notSynchronized, hK, (name_of_methodNamed B.named B.method).1⟩ hS va_S.rf hl (Nat.le_refl _) (Nat.le_refl _) (by rw [Nat.zero_add]; exact Nat.le_refl _) (by rw [Nat.zero_add]; exact Nat.le_refl _)
  rw [Nat.zero_add, Nat.zero_add] at this
  exact this
theorem am.mono {G : zG} {l : Launch} {k : zY} {d : Nat} {As : List Value} {M : zM} {kc ks : Nat} {Q Q' : Option Value → zM → Prop} (h : am G l k d As M kc ks Q) (hq : ∀ r M', Q r M' → Q' r M') : am G l k d As M kc ks Q' := by
  unfold am Met at h ⊢
  exact MetFree.mono h (fun _ _ h => h) (fun _ _ _ _ _ _ => trivial) (fun a st o t _ hh => ⟨by obtain ⟨r, M', h1, h2, h3⟩ := hh.1; exact ⟨r, M', h1, hq _ _ h2, h3⟩, hh.2⟩)
