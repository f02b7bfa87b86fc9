/-- a value in the listed locals -/
def z_g : List (Nat × Value) → Nat → Option Value
  | [], _ => none
  | (j, v) :: r, i => if j = i then some v else z_g r i
theorem z_g_has {LS : Array Slot} {n : Nat} {i : Nat} {v : Value} : ∀ {lv : List (Nat × Value)}, lv_has LS n lv → z_g lv i = some v → LS[i]? = some (.val v) := by
  intro lv
  induction lv with
  | nil => intro _ h; cases h
  | cons q r ih =>
    intro hl h
    obtain ⟨j, w⟩ := q
    unfold z_g at h
    by_cases e : j = i
    · rw [if_pos e] at h
      cases h
      subst e
      exact hl.2.2 (j, v) List.mem_cons_self
    · rw [if_neg e] at h
      exact ih ⟨hl.1, hl.2.1, fun q hq => hl.2.2 q (List.mem_cons_of_mem _ hq)⟩ h
/-- the listed locals behind a store of one slot, of two -/
def z_s1 (lv : List (Nat × Value)) (i : Nat) (v : Value) : List (Nat × Value) := (i, v) :: lv.filter (fun q => !(q.1 == i) && !(q.1 + 1 == i && q.2.category == 2))
def z_s2 (lv : List (Nat × Value)) (i : Nat) (v : Value) : List (Nat × Value) := (i, v) :: lv.filter (fun q => !(q.1 == i) && (!(q.1 == i + 1) && !(q.1 + 1 == i && q.2.category == 2)))
section Rules
variable {G : zG} {l : Launch} {k : zY} {d pc bc bs : Nat} {lv : List (Nat × Value)} {st : List Value} {M : zM} {Q : Option Value → zM → Prop}
theorem aj.pure {pc' : Nat} {st' : List Value} (f : ∀ {p : Program} {e : Env} {R : Room} {s : State} {m : MethodId} {args : Array Value} {below : List Frame} {meth : Method} {c : Code} {H : Heap} {locs : List Loc} {cells slots : Nat} {Z : State → Prop} {LS : Array Slot}, p.tables.exec = Jvm.exec → c.code = k.2.1 → lv_has LS k.2.2.1 lv → s.vm.findClass k.1.cls = some m.cls → (∀ w ∈ z_W, w.before args s = true) → W p l e R s m args below meth c H locs cells slots Z (F0 m pc' LS st') → W p l e R s m args below meth c H locs cells slots Z (F0 m pc LS st))
    (h : aj G l k d pc' lv st' M bc bs Q) : aj G l k d pc lv st M bc bs Q :=
  fun p e R s m args below meth c H locs cells slots LS C hS hV hL h1 h2 h3 h4 => f C.1 C.2.1 hL C.2.2.2.2.1 C.2.2.2.2.2.1 (h p e R s m args below meth c H locs cells slots LS C hS hV hL h1 h2 h3 h4)
theorem aj.two {c1 c2 : Prop} {pc1 pc2 : Nat} {st' : List Value} (f : ∀ {p : Program} {e : Env} {R : Room} {s : State} {m : MethodId} {args : Array Value} {below : List Frame} {meth : Method} {c : Code} {H : Heap} {locs : List Loc} {cells slots : Nat} {Z : State → Prop} {LS : Array Slot}, p.tables.exec = Jvm.exec → c.code = k.2.1 → (c1 → W p l e R s m args below meth c H locs cells slots Z (F0 m pc1 LS st')) → (c2 → W p l e R s m args below meth c H locs cells slots Z (F0 m pc2 LS st')) → W p l e R s m args below meth c H locs cells slots Z (F0 m pc LS st))
    (h : c1 → aj G l k d pc1 lv st' M bc bs Q) (h' : c2 → aj G l k d pc2 lv st' M bc bs Q) : aj G l k d pc lv st M bc bs Q :=
  fun p e R s m args below meth c H locs cells slots LS C hS hV hL h1 h2 h3 h4 => f C.1 C.2.1 (fun x => h x p e R s m args below meth c H locs cells slots LS C hS hV hL h1 h2 h3 h4) (fun x => h' x p e R s m args below meth c H locs cells slots LS C hS hV hL h1 h2 h3 h4)
theorem aj.lst {pc' : Nat} {lv' : List (Nat × Value)} {st' : List Value} (f : ∀ {p : Program} {e : Env} {R : Room} {s : State} {m : MethodId} {args : Array Value} {below : List Frame} {meth : Method} {c : Code} {H : Heap} {locs : List Loc} {cells slots : Nat} {Z : State → Prop} {LS : Array Slot}, p.tables.exec = Jvm.exec → c.code = k.2.1 → lv_has LS k.2.2.1 lv → (∀ LS' : Array Slot, lv_has LS' k.2.2.1 lv' → W p l e R s m args below meth c H locs cells slots Z (F0 m pc' LS' st')) → W p l e R s m args below meth c H locs cells slots Z (F0 m pc LS st))
    (h : aj G l k d pc' lv' st' M bc bs Q) : aj G l k d pc lv st M bc bs Q :=
  fun p e R s m args below meth c H locs cells slots LS C hS hV hL h1 h2 h3 h4 => f C.1 C.2.1 hL (fun LS' hL' => h p e R s m args below meth c H locs cells slots LS' C hS hV hL' h1 h2 h3 h4)
theorem aj.iconst {n : Int} {v : Int32} (hd : decode k.2.1 pc = .ok (.iconst n, 1)) (hv : Int32.ofInt n = v) (h : aj G l k d (pc + 1) lv (.int v :: st) M bc bs Q) : aj G l k d pc lv (st) M bc bs Q := aj.pure (fun hx hb hl ho ht w => lv_iconst hx hb hd hv w) h
theorem aj.bipush {n : Int} {v : Int32} (hd : decode k.2.1 pc = .ok (.bipush n, 2)) (hv : (Int8.ofInt n).toInt32 = v) (h : aj G l k d (pc + 2) lv (.int v :: st) M bc bs Q) : aj G l k d pc lv (st) M bc bs Q := aj.pure (fun hx hb hl ho ht w => lv_bipush hx hb hd hv w) h
theorem aj.sipush {n : Int} {v : Int32} (hd : decode k.2.1 pc = .ok (.sipush n, 3)) (hv : (Int16.ofInt n).toInt32 = v) (h : aj G l k d (pc + 3) lv (.int v :: st) M bc bs Q) : aj G l k d pc lv (st) M bc bs Q := aj.pure (fun hx hb hl ho ht w => lv_sipush hx hb hd hv w) h
theorem aj.lconst {n : Fin 2} {v : Int64} (hd : decode k.2.1 pc = .ok (.lconst n, 1)) (hv : Int64.ofNat (n : Nat) = v) (h : aj G l k d (pc + 1) lv (.long v :: st) M bc bs Q) : aj G l k d pc lv (st) M bc bs Q := aj.pure (fun hx hb hl ho ht w => lv_lconst hx hb hd hv w) h
theorem aj.ldc {i : Nat} {v : Int32} (hd : decode k.2.1 pc = .ok (.ldc i, 2)) (hv : Cond.constant k.1.cls i v ∈ z_W) (h : aj G l k d (pc + 2) lv (.int v :: st) M bc bs Q) : aj G l k d pc lv (st) M bc bs Q := aj.pure (fun hx hb hl ho ht w => lv_ldc hx hb ho (ht _ hv) hd w) h
theorem aj.ldcw {i : Nat} {v : Int32} (hd : decode k.2.1 pc = .ok (.ldc_w i, 3)) (hv : Cond.constant k.1.cls i v ∈ z_W) (h : aj G l k d (pc + 3) lv (.int v :: st) M bc bs Q) : aj G l k d pc lv (st) M bc bs Q := aj.pure (fun hx hb hl ho ht w => lv_ldcw hx hb ho (ht _ hv) hd w) h
theorem aj.ldc2 {i : Nat} {v : Int64} (hd : decode k.2.1 pc = .ok (.ldc2_w i, 3)) (hv : Cond.constantLong k.1.cls i v ∈ z_W) (h : aj G l k d (pc + 3) lv (.long v :: st) M bc bs Q) : aj G l k d pc lv (st) M bc bs Q := aj.pure (fun hx hb hl ho ht w => lv_ldc2 hx hb ho (ht _ hv) hd w) h
theorem aj.null  (hd : decode k.2.1 pc = .ok (.aconst_null, 1))  (h : aj G l k d (pc + 1) lv (.null :: st) M bc bs Q) : aj G l k d pc lv (st) M bc bs Q := aj.pure (fun hx hb hl ho ht w => lv_null hx hb hd w) h
theorem aj.iload_n {i : Fin 4} {x : Int32} (hd : decode k.2.1 pc = .ok (.iload_n i, 1)) (hv : z_g lv i = some (.int x)) (h : aj G l k d (pc + 1) lv (.int x :: st) M bc bs Q) : aj G l k d pc lv (st) M bc bs Q := aj.pure (fun hx hb hl ho ht w => lv_iload_n hx hb hd rfl (z_g_has hl hv) w) h
theorem aj.iload {i : Nat} {x : Int32} (hd : decode k.2.1 pc = .ok (.iload i, 2)) (hv : z_g lv i = some (.int x)) (h : aj G l k d (pc + 2) lv (.int x :: st) M bc bs Q) : aj G l k d pc lv (st) M bc bs Q := aj.pure (fun hx hb hl ho ht w => lv_iload hx hb hd (z_g_has hl hv) w) h
theorem aj.istore_n {i : Fin 4} {x : Int32} {lv' : List (Nat × Value)} (hd : decode k.2.1 pc = .ok (.istore_n i, 1)) (hn : ((i : Nat) : Nat) < k.2.2.1) (hl : z_s1 lv i (.int x) = lv') (h : aj G l k d (pc + 1) lv' st M bc bs Q) : aj G l k d pc lv (.int x :: st) M bc bs Q := aj.lst (fun hx hb hL w => lv_istore_n hx hb hd rfl hL hn hl w) h
theorem aj.istore {i : Nat} {x : Int32} {lv' : List (Nat × Value)} (hd : decode k.2.1 pc = .ok (.istore i, 2)) (hn : i < k.2.2.1) (hl : z_s1 lv i (.int x) = lv') (h : aj G l k d (pc + 2) lv' st M bc bs Q) : aj G l k d pc lv (.int x :: st) M bc bs Q := aj.lst (fun hx hb hL w => lv_istore hx hb hd hL hn hl w) h
theorem aj.lload_n {i : Fin 4} {x : Int64} (hd : decode k.2.1 pc = .ok (.lload_n i, 1)) (hv : z_g lv i = some (.long x)) (h : aj G l k d (pc + 1) lv (.long x :: st) M bc bs Q) : aj G l k d pc lv (st) M bc bs Q := aj.pure (fun hx hb hl ho ht w => lv_lload_n hx hb hd rfl (z_g_has hl hv) w) h
theorem aj.lload {i : Nat} {x : Int64} (hd : decode k.2.1 pc = .ok (.lload i, 2)) (hv : z_g lv i = some (.long x)) (h : aj G l k d (pc + 2) lv (.long x :: st) M bc bs Q) : aj G l k d pc lv (st) M bc bs Q := aj.pure (fun hx hb hl ho ht w => lv_lload hx hb hd (z_g_has hl hv) w) h
theorem aj.lstore_n {i : Fin 4} {x : Int64} {lv' : List (Nat × Value)} (hd : decode k.2.1 pc = .ok (.lstore_n i, 1)) (hn : ((i : Nat) + 1 : Nat) < k.2.2.1) (hl : z_s2 lv i (.long x) = lv') (h : aj G l k d (pc + 1) lv' st M bc bs Q) : aj G l k d pc lv (.long x :: st) M bc bs Q := aj.lst (fun hx hb hL w => lv_lstore_n hx hb hd rfl hL hn hl w) h
theorem aj.lstore {i : Nat} {x : Int64} {lv' : List (Nat × Value)} (hd : decode k.2.1 pc = .ok (.lstore i, 2)) (hn : i + 1 < k.2.2.1) (hl : z_s2 lv i (.long x) = lv') (h : aj G l k d (pc + 2) lv' st M bc bs Q) : aj G l k d pc lv (.long x :: st) M bc bs Q := aj.lst (fun hx hb hL w => lv_lstore hx hb hd hL hn hl w) h
theorem aj.aload_n {i : Fin 4} {x : Nat} (hd : decode k.2.1 pc = .ok (.aload_n i, 1)) (hv : z_g lv i = some (.ref x)) (h : aj G l k d (pc + 1) lv (.ref x :: st) M bc bs Q) : aj G l k d pc lv (st) M bc bs Q := aj.pure (fun hx hb hl ho ht w => lv_aload_n hx hb hd rfl (z_g_has hl hv) w) h
theorem aj.aload {i : Nat} {x : Nat} (hd : decode k.2.1 pc = .ok (.aload i, 2)) (hv : z_g lv i = some (.ref x)) (h : aj G l k d (pc + 2) lv (.ref x :: st) M bc bs Q) : aj G l k d pc lv (st) M bc bs Q := aj.pure (fun hx hb hl ho ht w => lv_aload hx hb hd (z_g_has hl hv) w) h
theorem aj.astore_n {i : Fin 4} {x : Nat} {lv' : List (Nat × Value)} (hd : decode k.2.1 pc = .ok (.astore_n i, 1)) (hn : ((i : Nat) : Nat) < k.2.2.1) (hl : z_s1 lv i (.ref x) = lv') (h : aj G l k d (pc + 1) lv' st M bc bs Q) : aj G l k d pc lv (.ref x :: st) M bc bs Q := aj.lst (fun hx hb hL w => lv_astore_n hx hb hd rfl hL hn hl w) h
theorem aj.astore {i : Nat} {x : Nat} {lv' : List (Nat × Value)} (hd : decode k.2.1 pc = .ok (.astore i, 2)) (hn : i < k.2.2.1) (hl : z_s1 lv i (.ref x) = lv') (h : aj G l k d (pc + 2) lv' st M bc bs Q) : aj G l k d pc lv (.ref x :: st) M bc bs Q := aj.lst (fun hx hb hL w => lv_astore hx hb hd hL hn hl w) h
theorem aj.aload_nN {i : Fin 4} (hd : decode k.2.1 pc = .ok (.aload_n i, 1)) (hv : z_g lv i = some .null) (h : aj G l k d (pc + 1) lv (.null :: st) M bc bs Q) : aj G l k d pc lv (st) M bc bs Q := aj.pure (fun hx hb hl ho ht w => lv_aload_nN hx hb hd rfl (z_g_has hl hv) w) h
theorem aj.astore_nN {i : Fin 4} {lv' : List (Nat × Value)} (hd : decode k.2.1 pc = .ok (.astore_n i, 1)) (hn : (i : Nat) < k.2.2.1) (hl : z_s1 lv i .null = lv') (h : aj G l k d (pc + 1) lv' st M bc bs Q) : aj G l k d pc lv (.null :: st) M bc bs Q := aj.lst (fun hx hb hL w => lv_astore_nN hx hb hd rfl hL hn hl w) h
theorem z_g_ix {i : Nat} {v : Value} : ∀ {lv : List (Nat × Value)}, z_g lv i = some v → ∃ j : Nat, lv[j]? = some (i, v) := by
  intro lv
  induction lv with
  | nil => intro h; cases h
  | cons q r ih =>
    intro h
    obtain ⟨j, w⟩ := q
    unfold z_g at h
    by_cases e : j = i
    · rw [if_pos e] at h
      cases h
      subst e
      exact ⟨0, rfl⟩
    · rw [if_neg e] at h
      obtain ⟨j', h'⟩ := ih h
      exact ⟨j' + 1, by simpa using h'⟩
theorem aj.iinc {i : Nat} {n : Int} {x v : Int32} {lv' : List (Nat × Value)} (hd : decode k.2.1 pc = .ok (.iinc i n, 3)) (hv : z_g lv i = some (.int x)) (hn : i < k.2.2.1) (hw : x + Int32.ofInt n = v) (hl : z_s1 lv i (.int v) = lv') (h : aj G l k d (pc + 3) lv' st M bc bs Q) : aj G l k d pc lv st M bc bs Q := by
  obtain ⟨j, hj⟩ := z_g_ix hv
  exact aj.lst (fun hx hb hL w => lv_iinc hx hb hd hL hj hw hn hl w) h
theorem aj.iadd {x y : Int32} (hd : decode k.2.1 pc = .ok (.iadd, 1))  (h : aj G l k d (pc + 1) lv (.int (x + y) :: st) M bc bs Q) : aj G l k d pc lv (.int y :: .int x :: st) M bc bs Q := aj.pure (fun hx hb hl ho ht w => lv_iadd hx hb hd w) h
theorem aj.isub {x y : Int32} (hd : decode k.2.1 pc = .ok (.isub, 1))  (h : aj G l k d (pc + 1) lv (.int (x - y) :: st) M bc bs Q) : aj G l k d pc lv (.int y :: .int x :: st) M bc bs Q := aj.pure (fun hx hb hl ho ht w => lv_isub hx hb hd w) h
theorem aj.imul {x y : Int32} (hd : decode k.2.1 pc = .ok (.imul, 1))  (h : aj G l k d (pc + 1) lv (.int (x * y) :: st) M bc bs Q) : aj G l k d pc lv (.int y :: .int x :: st) M bc bs Q := aj.pure (fun hx hb hl ho ht w => lv_imul hx hb hd w) h
theorem aj.iand {x y : Int32} (hd : decode k.2.1 pc = .ok (.iand, 1))  (h : aj G l k d (pc + 1) lv (.int (x &&& y) :: st) M bc bs Q) : aj G l k d pc lv (.int y :: .int x :: st) M bc bs Q := aj.pure (fun hx hb hl ho ht w => lv_iand hx hb hd w) h
theorem aj.ior {x y : Int32} (hd : decode k.2.1 pc = .ok (.ior, 1))  (h : aj G l k d (pc + 1) lv (.int (x ||| y) :: st) M bc bs Q) : aj G l k d pc lv (.int y :: .int x :: st) M bc bs Q := aj.pure (fun hx hb hl ho ht w => lv_ior hx hb hd w) h
theorem aj.ishl {x y : Int32} (hd : decode k.2.1 pc = .ok (.ishl, 1))  (h : aj G l k d (pc + 1) lv (.int (x <<< (y &&& 31)) :: st) M bc bs Q) : aj G l k d pc lv (.int y :: .int x :: st) M bc bs Q := aj.pure (fun hx hb hl ho ht w => lv_ishl hx hb hd w) h
theorem aj.ishr {x y : Int32} (hd : decode k.2.1 pc = .ok (.ishr, 1))  (h : aj G l k d (pc + 1) lv (.int (x >>> (y &&& 31)) :: st) M bc bs Q) : aj G l k d pc lv (.int y :: .int x :: st) M bc bs Q := aj.pure (fun hx hb hl ho ht w => lv_ishr hx hb hd w) h
theorem aj.ladd {x y : Int64} (hd : decode k.2.1 pc = .ok (.ladd, 1))  (h : aj G l k d (pc + 1) lv (.long (x + y) :: st) M bc bs Q) : aj G l k d pc lv (.long y :: .long x :: st) M bc bs Q := aj.pure (fun hx hb hl ho ht w => lv_ladd hx hb hd w) h
theorem aj.lsub {x y : Int64} (hd : decode k.2.1 pc = .ok (.lsub, 1))  (h : aj G l k d (pc + 1) lv (.long (x - y) :: st) M bc bs Q) : aj G l k d pc lv (.long y :: .long x :: st) M bc bs Q := aj.pure (fun hx hb hl ho ht w => lv_lsub hx hb hd w) h
theorem aj.lmul {x y : Int64} (hd : decode k.2.1 pc = .ok (.lmul, 1))  (h : aj G l k d (pc + 1) lv (.long (x * y) :: st) M bc bs Q) : aj G l k d pc lv (.long y :: .long x :: st) M bc bs Q := aj.pure (fun hx hb hl ho ht w => lv_lmul hx hb hd w) h
theorem aj.land {x y : Int64} (hd : decode k.2.1 pc = .ok (.land, 1))  (h : aj G l k d (pc + 1) lv (.long (x &&& y) :: st) M bc bs Q) : aj G l k d pc lv (.long y :: .long x :: st) M bc bs Q := aj.pure (fun hx hb hl ho ht w => lv_land hx hb hd w) h
theorem aj.lor {x y : Int64} (hd : decode k.2.1 pc = .ok (.lor, 1))  (h : aj G l k d (pc + 1) lv (.long (x ||| y) :: st) M bc bs Q) : aj G l k d pc lv (.long y :: .long x :: st) M bc bs Q := aj.pure (fun hx hb hl ho ht w => lv_lor hx hb hd w) h
theorem aj.idiv {x y : Int32} (hd : decode k.2.1 pc = .ok (.idiv, 1)) (hne : ¬ y = 0) (h : aj G l k d (pc + 1) lv (.int (x / y) :: st) M bc bs Q) : aj G l k d pc lv (.int y :: .int x :: st) M bc bs Q := aj.pure (fun hx hb hl ho ht w => lv_idiv hx hb hd hne w) h
theorem aj.irem {x y : Int32} (hd : decode k.2.1 pc = .ok (.irem, 1)) (hne : ¬ y = 0) (h : aj G l k d (pc + 1) lv (.int (x - x / y * y) :: st) M bc bs Q) : aj G l k d pc lv (.int y :: .int x :: st) M bc bs Q := aj.pure (fun hx hb hl ho ht w => lv_irem hx hb hd hne w) h
theorem aj.ldiv {x y : Int64} (hd : decode k.2.1 pc = .ok (.ldiv, 1)) (hne : ¬ y = 0) (h : aj G l k d (pc + 1) lv (.long (x / y) :: st) M bc bs Q) : aj G l k d pc lv (.long y :: .long x :: st) M bc bs Q := aj.pure (fun hx hb hl ho ht w => lv_ldiv hx hb hd hne w) h
theorem aj.lrem {x y : Int64} (hd : decode k.2.1 pc = .ok (.lrem, 1)) (hne : ¬ y = 0) (h : aj G l k d (pc + 1) lv (.long (x - x / y * y) :: st) M bc bs Q) : aj G l k d pc lv (.long y :: .long x :: st) M bc bs Q := aj.pure (fun hx hb hl ho ht w => lv_lrem hx hb hd hne w) h
theorem aj.ineg {x : Int32} (hd : decode k.2.1 pc = .ok (.ineg, 1))  (h : aj G l k d (pc + 1) lv (.int (-x) :: st) M bc bs Q) : aj G l k d pc lv (.int x :: st) M bc bs Q := aj.pure (fun hx hb hl ho ht w => lv_ineg hx hb hd w) h
theorem aj.lneg {x : Int64} (hd : decode k.2.1 pc = .ok (.lneg, 1))  (h : aj G l k d (pc + 1) lv (.long (-x) :: st) M bc bs Q) : aj G l k d pc lv (.long x :: st) M bc bs Q := aj.pure (fun hx hb hl ho ht w => lv_lneg hx hb hd w) h
theorem aj.iushr {x y : Int32} (hd : decode k.2.1 pc = .ok (.iushr, 1))  (h : aj G l k d (pc + 1) lv (.int ((x.toUInt32 >>> (y.toUInt32 &&& Int32.toUInt32 31)).toInt32) :: st) M bc bs Q) : aj G l k d pc lv (.int y :: .int x :: st) M bc bs Q := aj.pure (fun hx hb hl ho ht w => lv_iushr hx hb hd rfl w) h
theorem aj.lshl {x : Int64} {y : Int32} (hd : decode k.2.1 pc = .ok (.lshl, 1))  (h : aj G l k d (pc + 1) lv (.long (x <<< (y.toInt64 &&& 63)) :: st) M bc bs Q) : aj G l k d pc lv (.int y :: .long x :: st) M bc bs Q := aj.pure (fun hx hb hl ho ht w => lv_lshl hx hb hd rfl w) h
theorem aj.lshr {x : Int64} {y : Int32} (hd : decode k.2.1 pc = .ok (.lshr, 1))  (h : aj G l k d (pc + 1) lv (.long (x >>> (y.toInt64 &&& 63)) :: st) M bc bs Q) : aj G l k d pc lv (.int y :: .long x :: st) M bc bs Q := aj.pure (fun hx hb hl ho ht w => lv_lshr hx hb hd rfl w) h
theorem aj.i2l {x : Int32} (hd : decode k.2.1 pc = .ok (.i2l, 1))  (h : aj G l k d (pc + 1) lv (.long x.toInt64 :: st) M bc bs Q) : aj G l k d pc lv (.int x :: st) M bc bs Q := aj.pure (fun hx hb hl ho ht w => lv_i2l hx hb hd rfl w) h
theorem aj.l2i {x : Int64} (hd : decode k.2.1 pc = .ok (.l2i, 1))  (h : aj G l k d (pc + 1) lv (.int x.toInt32 :: st) M bc bs Q) : aj G l k d pc lv (.long x :: st) M bc bs Q := aj.pure (fun hx hb hl ho ht w => lv_l2i hx hb hd rfl w) h
theorem aj.i2b {x : Int32} (hd : decode k.2.1 pc = .ok (.i2b, 1))  (h : aj G l k d (pc + 1) lv (.int x.toInt8.toInt32 :: st) M bc bs Q) : aj G l k d pc lv (.int x :: st) M bc bs Q := aj.pure (fun hx hb hl ho ht w => lv_i2b hx hb hd rfl w) h
theorem aj.i2s {x : Int32} (hd : decode k.2.1 pc = .ok (.i2s, 1))  (h : aj G l k d (pc + 1) lv (.int x.toInt16.toInt32 :: st) M bc bs Q) : aj G l k d pc lv (.int x :: st) M bc bs Q := aj.pure (fun hx hb hl ho ht w => lv_i2s hx hb hd rfl w) h
theorem aj.i2c {x : Int32} (hd : decode k.2.1 pc = .ok (.i2c, 1))  (h : aj G l k d (pc + 1) lv (.int (x.toUInt32 % 65536).toInt32 :: st) M bc bs Q) : aj G l k d pc lv (.int x :: st) M bc bs Q := aj.pure (fun hx hb hl ho ht w => lv_i2c hx hb hd rfl w) h
theorem aj.lcmp {x y : Int64} (hd : decode k.2.1 pc = .ok (.lcmp, 1))  (h : aj G l k d (pc + 1) lv (.int (lg_cmp x y) :: st) M bc bs Q) : aj G l k d pc lv (.long y :: .long x :: st) M bc bs Q := aj.pure (fun hx hb hl ho ht w => W.lcmp hx hb hd w) h
theorem aj.dup {v : Value} (hd : decode k.2.1 pc = .ok (.dup, 1)) (hc : v.category = 1) (h : aj G l k d (pc + 1) lv (v :: v :: st) M bc bs Q) : aj G l k d pc lv (v :: st) M bc bs Q := aj.pure (fun hx hb hl ho ht w => lv_dup hx hb hd hc w) h
theorem aj.pop {v : Value} (hd : decode k.2.1 pc = .ok (.pop, 1)) (hc : v.category = 1) (h : aj G l k d (pc + 1) lv (st) M bc bs Q) : aj G l k d pc lv (v :: st) M bc bs Q := aj.pure (fun hx hb hl ho ht w => lv_pop hx hb hd hc w) h
theorem aj.pop2 {v : Value} (hd : decode k.2.1 pc = .ok (.pop2, 1)) (hc : v.category = 2) (h : aj G l k d (pc + 1) lv (st) M bc bs Q) : aj G l k d pc lv (v :: st) M bc bs Q := aj.pure (fun hx hb hl ho ht w => lv_pop2_2 hx hb hd hc w) h
theorem aj.dup2 {u v : Value} (hd : decode k.2.1 pc = .ok (.dup2, 1)) (hu : u.category = 1) (hc : v.category = 1) (h : aj G l k d (pc + 1) lv (u :: v :: u :: v :: st) M bc bs Q) : aj G l k d pc lv (u :: v :: st) M bc bs Q := aj.pure (fun hx hb hl ho ht w => lv_dup2_11 hx hb hd hu hc w) h
theorem aj.dup2l {v : Value} (hd : decode k.2.1 pc = .ok (.dup2, 1)) (hc : v.category = 2) (h : aj G l k d (pc + 1) lv (v :: v :: st) M bc bs Q) : aj G l k d pc lv (v :: st) M bc bs Q := aj.pure (fun hx hb hl ho ht w => lv_dup2_2 hx hb hd hc w) h
theorem aj.goto {off : Int} {tgt : Nat} (hd : decode k.2.1 pc = .ok (.goto off, 3)) (ht : (pc : Int) + off = (tgt : Int)) (h : aj G l k d tgt lv st M bc bs Q) : aj G l k d pc lv st M bc bs Q := aj.pure (fun hx hb hl ho hw w => lv_goto hx hb hd ht w) h
theorem aj.if_eq {x : Int32} {off : Int} {tgt : Nat} (hd : decode k.2.1 pc = .ok (.ifCond .eq off, 3)) (ht : (pc : Int) + off = (tgt : Int)) (h1 : x = 0 → aj G l k d tgt lv st M bc bs Q) (h2 : ¬ x = 0 → aj G l k d (pc + 3) lv st M bc bs Q) : aj G l k d pc lv (.int x :: st) M bc bs Q := aj.two (fun hx hb w1 w2 => lv_if_eq hx hb hd ht w1 w2) h1 h2
theorem aj.icmp_eq {x y : Int32} {off : Int} {tgt : Nat} (hd : decode k.2.1 pc = .ok (.if_icmp .eq off, 3)) (ht : (pc : Int) + off = (tgt : Int)) (h1 : x = y → aj G l k d tgt lv st M bc bs Q) (h2 : ¬ x = y → aj G l k d (pc + 3) lv st M bc bs Q) : aj G l k d pc lv (.int y :: .int x :: st) M bc bs Q := aj.two (fun hx hb w1 w2 => lv_icmp_eq hx hb hd ht w1 w2) h1 h2
theorem aj.if_ne {x : Int32} {off : Int} {tgt : Nat} (hd : decode k.2.1 pc = .ok (.ifCond .ne off, 3)) (ht : (pc : Int) + off = (tgt : Int)) (h1 : ¬ x = 0 → aj G l k d tgt lv st M bc bs Q) (h2 : x = 0 → aj G l k d (pc + 3) lv st M bc bs Q) : aj G l k d pc lv (.int x :: st) M bc bs Q := aj.two (fun hx hb w1 w2 => lv_if_ne hx hb hd ht w1 w2) h1 h2
theorem aj.icmp_ne {x y : Int32} {off : Int} {tgt : Nat} (hd : decode k.2.1 pc = .ok (.if_icmp .ne off, 3)) (ht : (pc : Int) + off = (tgt : Int)) (h1 : ¬ x = y → aj G l k d tgt lv st M bc bs Q) (h2 : x = y → aj G l k d (pc + 3) lv st M bc bs Q) : aj G l k d pc lv (.int y :: .int x :: st) M bc bs Q := aj.two (fun hx hb w1 w2 => lv_icmp_ne hx hb hd ht w1 w2) h1 h2
theorem aj.if_lt {x : Int32} {off : Int} {tgt : Nat} (hd : decode k.2.1 pc = .ok (.ifCond .lt off, 3)) (ht : (pc : Int) + off = (tgt : Int)) (h1 : x < 0 → aj G l k d tgt lv st M bc bs Q) (h2 : ¬ x < 0 → aj G l k d (pc + 3) lv st M bc bs Q) : aj G l k d pc lv (.int x :: st) M bc bs Q := aj.two (fun hx hb w1 w2 => lv_if_lt hx hb hd ht w1 w2) h1 h2
theorem aj.icmp_lt {x y : Int32} {off : Int} {tgt : Nat} (hd : decode k.2.1 pc = .ok (.if_icmp .lt off, 3)) (ht : (pc : Int) + off = (tgt : Int)) (h1 : x < y → aj G l k d tgt lv st M bc bs Q) (h2 : ¬ x < y → aj G l k d (pc + 3) lv st M bc bs Q) : aj G l k d pc lv (.int y :: .int x :: st) M bc bs Q := aj.two (fun hx hb w1 w2 => lv_icmp_lt hx hb hd ht w1 w2) h1 h2
theorem aj.if_ge {x : Int32} {off : Int} {tgt : Nat} (hd : decode k.2.1 pc = .ok (.ifCond .ge off, 3)) (ht : (pc : Int) + off = (tgt : Int)) (h1 : 0 ≤ x → aj G l k d tgt lv st M bc bs Q) (h2 : ¬ 0 ≤ x → aj G l k d (pc + 3) lv st M bc bs Q) : aj G l k d pc lv (.int x :: st) M bc bs Q := aj.two (fun hx hb w1 w2 => lv_if_ge hx hb hd ht w1 w2) h1 h2
theorem aj.icmp_ge {x y : Int32} {off : Int} {tgt : Nat} (hd : decode k.2.1 pc = .ok (.if_icmp .ge off, 3)) (ht : (pc : Int) + off = (tgt : Int)) (h1 : y ≤ x → aj G l k d tgt lv st M bc bs Q) (h2 : ¬ y ≤ x → aj G l k d (pc + 3) lv st M bc bs Q) : aj G l k d pc lv (.int y :: .int x :: st) M bc bs Q := aj.two (fun hx hb w1 w2 => lv_icmp_ge hx hb hd ht w1 w2) h1 h2
theorem aj.if_gt {x : Int32} {off : Int} {tgt : Nat} (hd : decode k.2.1 pc = .ok (.ifCond .gt off, 3)) (ht : (pc : Int) + off = (tgt : Int)) (h1 : 0 < x → aj G l k d tgt lv st M bc bs Q) (h2 : ¬ 0 < x → aj G l k d (pc + 3) lv st M bc bs Q) : aj G l k d pc lv (.int x :: st) M bc bs Q := aj.two (fun hx hb w1 w2 => lv_if_gt hx hb hd ht w1 w2) h1 h2
theorem aj.icmp_gt {x y : Int32} {off : Int} {tgt : Nat} (hd : decode k.2.1 pc = .ok (.if_icmp .gt off, 3)) (ht : (pc : Int) + off = (tgt : Int)) (h1 : y < x → aj G l k d tgt lv st M bc bs Q) (h2 : ¬ y < x → aj G l k d (pc + 3) lv st M bc bs Q) : aj G l k d pc lv (.int y :: .int x :: st) M bc bs Q := aj.two (fun hx hb w1 w2 => lv_icmp_gt hx hb hd ht w1 w2) h1 h2
theorem aj.if_le {x : Int32} {off : Int} {tgt : Nat} (hd : decode k.2.1 pc = .ok (.ifCond .le off, 3)) (ht : (pc : Int) + off = (tgt : Int)) (h1 : x ≤ 0 → aj G l k d tgt lv st M bc bs Q) (h2 : ¬ x ≤ 0 → aj G l k d (pc + 3) lv st M bc bs Q) : aj G l k d pc lv (.int x :: st) M bc bs Q := aj.two (fun hx hb w1 w2 => lv_if_le hx hb hd ht w1 w2) h1 h2
theorem aj.icmp_le {x y : Int32} {off : Int} {tgt : Nat} (hd : decode k.2.1 pc = .ok (.if_icmp .le off, 3)) (ht : (pc : Int) + off = (tgt : Int)) (h1 : x ≤ y → aj G l k d tgt lv st M bc bs Q) (h2 : ¬ x ≤ y → aj G l k d (pc + 3) lv st M bc bs Q) : aj G l k d pc lv (.int y :: .int x :: st) M bc bs Q := aj.two (fun hx hb w1 w2 => lv_icmp_le hx hb hd ht w1 w2) h1 h2
theorem aj.ifnonnull {x : Nat} {off : Int} {tgt : Nat} (hd : decode k.2.1 pc = .ok (.ifnonnull off, 3)) (ht : (pc : Int) + off = (tgt : Int)) (h : aj G l k d tgt lv st M bc bs Q) : aj G l k d pc lv (.ref x :: st) M bc bs Q := aj.pure (fun hx hb hl ho hw w => lv_ifnonnull hx hb hd ht w) h
theorem aj.ifnonnullN {off : Int} (hd : decode k.2.1 pc = .ok (.ifnonnull off, 3)) (h : aj G l k d (pc + 3) lv st M bc bs Q) : aj G l k d pc lv (.null :: st) M bc bs Q := aj.pure (fun hx hb hl ho hw w => lv_ifnonnullN hx hb hd w) h
theorem aj.ifnull {x : Nat} {off : Int} (hd : decode k.2.1 pc = .ok (.ifnull off, 3)) (h : aj G l k d (pc + 3) lv st M bc bs Q) : aj G l k d pc lv (.ref x :: st) M bc bs Q := aj.pure (fun hx hb hl ho hw w => lv_ifnull hx hb hd w) h
theorem aj.ifnullN {off : Int} {tgt : Nat} (hd : decode k.2.1 pc = .ok (.ifnull off, 3)) (ht : (pc : Int) + off = (tgt : Int)) (h : aj G l k d tgt lv st M bc bs Q) : aj G l k d pc lv (.null :: st) M bc bs Q := aj.pure (fun hx hb hl ho hw w => lv_ifnullN hx hb hd ht w) h
theorem aj.swOut {dflt lo hi : Int} {offs : Array Int} {len : Nat} {x : Int32} {tgt : Nat} (hd : decode k.2.1 pc = .ok (.tableswitch dflt lo hi offs, len)) (ho : x.toInt < lo ∨ hi < x.toInt) (ht : (pc : Int) + dflt = (tgt : Int)) (h : aj G l k d tgt lv st M bc bs Q) : aj G l k d pc lv (.int x :: st) M bc bs Q := aj.pure (fun hx hb hl hw ht2 w => lv_tableOut hx hb hd ho ht w) h
theorem aj.swIn {dflt lo hi : Int} {offs : Array Int} {len : Nat} {x : Int32} {off : Int} {tgt : Nat} (hd : decode k.2.1 pc = .ok (.tableswitch dflt lo hi offs, len)) (ha : ¬ x.toInt < lo) (hb2 : ¬ hi < x.toInt) (ho : offs[(x.toInt - lo).toNat]? = some off) (ht : (pc : Int) + off = (tgt : Int)) (h : aj G l k d tgt lv st M bc bs Q) : aj G l k d pc lv (.int x :: st) M bc bs Q := aj.pure (fun hx hb hl hw ht2 w => lv_tableIn hx hb hd ha hb2 ho ht w) h
theorem aj.iret {v : Int32} (hr : k.2.2.2 = some .int) (hd : decode k.2.1 pc = .ok (.ireturn, 1)) (hq : Q (some (.int v)) M) : aj G l k d pc lv ([.int v]) M bc bs Q := by
  intro p e R s m args below meth c H locs cells slots LS C hS hV hL h1 h2 h3 h4
  refine W.widen (k := cells + bc) (n := slots + bs) (by omega) (by omega) ?_
  exact W.iret C.1 C.2.1 (C.2.2.1.trans hr) (fun t ht hW => ⟨_, M, rfl, hq, by rw [ht]; exact hS, by rw [ht]; exact hV.1⟩) hV.2.2 hd C.2.2.2.2.2.2.1
theorem aj.lret {v : Int64} (hr : k.2.2.2 = some .long) (hd : decode k.2.1 pc = .ok (.lreturn, 1)) (hq : Q (some (.long v)) M) : aj G l k d pc lv ([.long v]) M bc bs Q := by
  intro p e R s m args below meth c H locs cells slots LS C hS hV hL h1 h2 h3 h4
  refine W.widen (k := cells + bc) (n := slots + bs) (by omega) (by omega) ?_
  exact W.lret C.1 C.2.1 (C.2.2.1.trans hr) (fun t ht hW => ⟨_, M, rfl, hq, by rw [ht]; exact hS, by rw [ht]; exact hV.1⟩) hV.2.2 hd C.2.2.2.2.2.2.1
theorem aj.zret {v : Int32} {ty : FieldType} (hr : k.2.2.2 = some ty) (hn : narrow ty (.int v) = .int v) (hd : decode k.2.1 pc = .ok (.ireturn, 1)) (hq : Q (some (.int v)) M) : aj G l k d pc lv ([.int v]) M bc bs Q := by
  intro p e R s m args below meth c H locs cells slots LS C hS hV hL h1 h2 h3 h4
  refine W.widen (k := cells + bc) (n := slots + bs) (by omega) (by omega) ?_
  exact W.zret C.1 C.2.1 (C.2.2.1.trans hr) hn (fun t ht hW => ⟨_, M, rfl, hq, by rw [ht]; exact hS, by rw [ht]; exact hV.1⟩) hV.2.2 hd C.2.2.2.2.2.2.1
theorem aj.vret  (hr : k.2.2.2 = none) (hd : decode k.2.1 pc = .ok (.return_, 1)) (hq : Q (none) M) : aj G l k d pc lv ([]) M bc bs Q := by
  intro p e R s m args below meth c H locs cells slots LS C hS hV hL h1 h2 h3 h4
  refine W.widen (k := cells + bc) (n := slots + bs) (by omega) (by omega) ?_
  exact W.vret C.1 C.2.1 (C.2.2.1.trans hr) (fun t ht hW => ⟨_, M, rfl, hq, by rw [ht]; exact hS, by rw [ht]; exact hV.1⟩) hV.2.2 hd C.2.2.2.2.2.2.1
theorem aj.aret {v : Value} {rt : FieldType} (hr : k.2.2.2 = some rt) (hrt : (∃ n, rt = .object n) ∨ ∃ t, rt = .array t) (hv : v = .null ∨ ∃ a, v = .ref a) (hd : decode k.2.1 pc = .ok (.areturn, 1)) (hq : Q (some v) M) : aj G l k d pc lv ([v]) M bc bs Q := by
  intro p e R s m args below meth c H locs cells slots LS C hS hV hL h1 h2 h3 h4
  refine W.widen (k := cells + bc) (n := slots + bs) (by omega) (by omega) ?_
  exact W.aret C.1 C.2.1 (C.2.2.1.trans hr) hrt hv (fun t ht hW => ⟨_, M, rfl, hq, by rw [ht]; exact hS, by rw [ht]; exact hV.1⟩) hV.2.2 hd C.2.2.2.2.2.2.1
theorem aj.mono {Q' : Option Value → zM → Prop} (h : aj G l k d pc lv st M bc bs Q') (hq : ∀ r M', Q' r M' → Q r M') : aj G l k d pc lv st M bc bs Q := by
  intro p e R s m args below meth c H locs cells slots LS C hS hV hL h1 h2 h3 h4
  intro T hT X
  obtain ⟨t, a1, o, b1, b2, ⟨r, M', e1, e2, e3⟩, b4⟩ := h p e R s m args below meth c H locs cells slots LS C hS hV hL h1 h2 h3 h4 T hT X
  exact ⟨t, a1, o, b1, b2, ⟨r, M', e1, hq _ _ e2, e3⟩, b4⟩
theorem aj.more {bc' bs' : Nat} (hc : bc' ≤ bc) (hs : bs' ≤ bs) (h : aj G l k d pc lv st M bc' bs' Q) : aj G l k d pc lv st M bc bs Q := by
  intro p e R s m args below meth c H locs cells slots LS C hS hV hL h1 h2 h3 h4
  have := h p e R s m args below meth c H locs (cells + (bc - bc')) (slots + (bs - bs')) LS C hS hV hL h1 h2 (by omega) (by omega)
  rw [show cells + (bc - bc') + bc' = cells + bc by omega, show slots + (bs - bs') + bs' = slots + bs by omega] at this
  exact W.widen (by omega) (by omega) this
end Rules
