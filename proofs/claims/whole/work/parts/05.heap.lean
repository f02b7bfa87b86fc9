section Rules5
variable {G : zG} {l : Launch} {k : zY} {d pc bc bs : Nat} {lv : List (Nat × Value)} {st : List Value} {M : zM} {Q : Option Value → zM → Prop}
theorem z_lay_good : ∀ (ci : Nat) (q : vw_C), classes[ci]? = some q → ∀ w ∈ u_ws q.1 q.2.1 q.2.2, w ∈ z_W := by
  intro ci q h w hw
  refine List.mem_filter.mpr ⟨z_in ci q h w hw, ?_⟩
  obtain ⟨i, -, hi⟩ := List.mem_map.mp hw
  rw [← hi]
  unfold u_lay
  split <;> rfl
theorem z_P1 {H : Heap} {a : Nat} {x : zC} (hS : z_S G M H) (ha : M.1 a = some x) : va_P (z_D G) classes [(a, z_e G x)] H := by
  intro j q hj
  match j, hj with
  | 0, hj => cases hj; exact (hS.2.2.2 a x ha).2
  | j + 1, hj => simp at hj
theorem aj.get {a ci i idx : Nat} {fs : List Value} {v : Value} {cq : vw_C} (hd : decode k.2.1 pc = .ok (.getfield idx, 3)) (ha : M.1 a = some (.inr (ci, fs))) (hc : classes[ci]? = some cq) (hi : i < cq.2.2) (hl : Cond.fieldLink k.1.cls idx (cq.2.1 i).1 (cq.2.1 i).2.1 (cq.2.1 i).2.2.1 ∈ z_W) (hv : fs[i]? = some v) (h : aj G l k d (pc + 3) lv (v :: st) M bc bs Q) : aj G l k d pc lv (.ref a :: st) M bc bs Q := by
  intro p e R s m args below meth c H locs cells slots LS C hS hV hL h1 h2 h3 h4
  exact va_get (ws := [(a, z_e G (.inr (ci, fs)))]) (D := z_D G) (C := cq.1) (T := cq.2.1) (N := cq.2.2) (Ts := z_W) C.1 C.2.1 C.2.2.2.2.2.1 (z_lay_good ci cq hc) C.2.2.2.2.1 C.2.2.2.2.2.2.2.1.1 (z_P1 hS ha) 0 rfl hc i hi (C.2.2.2.2.2.1 _ hl) (fun _ h9 => h9) hv hd (h p e R s m args below meth c H locs cells slots LS C hS hV hL h1 h2 h3 h4)
theorem aj.put {a ci i idx : Nat} {fs : List Value} {v : Value} {cq : vw_C} (hd : decode k.2.1 pc = .ok (.putfield idx, 3)) (ha : M.1 a = some (.inr (ci, fs))) (hc : classes[ci]? = some cq) (hi : i < cq.2.2) (hl : Cond.fieldLink k.1.cls idx (cq.2.1 i).1 (cq.2.1 i).2.1 (cq.2.1 i).2.2.1 ∈ z_W) (hf : (cq.2.1 i).2.2.2 = false) (hn : narrow (z_fty ci i) v = v) (hfit : fits (z_fty ci i) v = true) (hlen : i < fs.length) (h : aj G l k d (pc + 3) lv st (z_up M a (.inr (ci, fs.set i v))) bc bs Q) : aj G l k d pc lv (v :: .ref a :: st) M bc bs Q := by
  intro p e R s m args below meth c H locs cells slots LS C hS hV hL h1 h2 h3 h4
  obtain ⟨hba, r, e1, cell, q1, q2, q3, q4⟩ := hS.2.2.2 a _ ha
  have hr : r = cq := Option.some.inj (e1.symm.trans hc)
  subst hr
  have hK := C.2.2.2.2.2.2.2.1.1
  have hts := C.2.2.2.2.2.1
  have hap := va_apart (own := k.1.cls) hts (z_lay_good ci r hc) (z_fty ci) (z_tyok ci r hc) (z_nm ci r hc) hK hc
  obtain ⟨hS1, hfc, kC, hkC, hkind⟩ := hK.1 ci _ hc
  obtain ⟨cf, kf, fi, f, hif, hsl⟩ := hS1 i hi
  have hlay := hts _ (z_lay_good ci r hc _ (u_in_lay hi))
  unfold u_lay at hlay
  rw [if_neg (by rw [hf]; decide)] at hlay
  have hst := (u_facts hfc hkC (u_lays hts (z_lay_good ci r hc) hi) hif).1
  have h6 := u_store hfc hkC hkind hlay hif (z_tyok ci r hc i hi) hn hfit
  refine W.putK C.1 C.2.1 (f := f) ⟨C.2.2.2.2.1, hts _ hl, ⟨_, _, _, hif⟩, hst⟩ (by rw [q2]; exact h6) q1 q3 (by rw [hsl]; exact k2_hasslot (q4 i hi)) rfl rfl hd fun H' e1 e2 e3 => ?_
  rw [hsl] at e1 ⊢
  exact h p e R s m args below meth c H' _ cells slots LS C (hS.put ha ⟨r, hc, t_OB.to (V := updV (vp_V fs) i v) ⟨_, e1, q2, q3, t_set q4 hap hi v⟩ (fun j _ => vp_updV_set hlen v j)⟩ e2 e3) (hV.put e2 e3 hba) hL h1 h2 h3 h4
theorem aj.putF {a ci i idx : Nat} {fs : List Value} {v : Value} {cq : vw_C} (hd : decode k.2.1 pc = .ok (.putfield idx, 3)) (ha : M.1 a = some (.inr (ci, fs))) (hc : classes[ci]? = some cq) (hi : i < cq.2.2) (hl : Cond.fieldLink k.1.cls idx (cq.2.1 i).1 (cq.2.1 i).2.1 (cq.2.1 i).2.2.1 ∈ z_W) (hf : (cq.2.1 i).2.2.2 = true) (hin2 : k.1.name = "<init>") (hdc : (cq.2.1 i).1 = k.1.cls) (hn : narrow (z_fty ci i) v = v) (hfit : fits (z_fty ci i) v = true) (hlen : i < fs.length) (h : aj G l k d (pc + 3) lv st (z_up M a (.inr (ci, fs.set i v))) bc bs Q) : aj G l k d pc lv (v :: .ref a :: st) M bc bs Q := by
  intro p e R s m args below meth c H locs cells slots LS C hS hV hL h1 h2 h3 h4
  obtain ⟨hba, r, e1, cell, q1, q2, q3, q4⟩ := hS.2.2.2 a _ ha
  have hr : r = cq := Option.some.inj (e1.symm.trans hc)
  subst hr
  have hK := C.2.2.2.2.2.2.2.1.1
  have hts := C.2.2.2.2.2.1
  have hap := va_apart (own := k.1.cls) hts (z_lay_good ci r hc) (z_fty ci) (z_tyok ci r hc) (z_nm ci r hc) hK hc
  obtain ⟨hS1, hfc, kC, hkC, hkind⟩ := hK.1 ci _ hc
  obtain ⟨cf, kf, fi, f, hif, hsl⟩ := hS1 i hi
  have hlay := hts _ (z_lay_good ci r hc _ (u_in_lay hi))
  unfold u_lay at hlay
  rw [if_pos (by rw [hf])] at hlay
  have hst := (u_facts hfc hkC (u_lays hts (z_lay_good ci r hc) hi) hif).1
  have hcf : m.cls = cf := by
    obtain ⟨_, _, c', _, _, _, -, -, hf', -, -, -, hown2, -⟩ := Cond.laysFinal_spec hlay
    have e1 : c' = cf := by have := hif.symm.trans hf'; simp at this; exact this.1.symm
    rw [hdc] at hown2
    rw [← e1]; exact Option.some.inj (C.2.2.2.2.1.symm.trans hown2)
  have h6 := u_fits hfc hkC hkind (Or.inr hlay) hif (z_tyok ci r hc i hi) hn hfit
  refine W.putFinK C.1 C.2.1 C.2.2.2.2.1 (hts _ hl) hif hst hcf (C.2.2.2.2.2.2.2.2.trans hin2) (by rw [q2]; exact h6) q1 q3 (by rw [hsl]; exact k2_hasslot (q4 i hi)) rfl rfl hd fun H' e1 e2 e3 => ?_
  rw [hsl] at e1 ⊢
  exact h p e R s m args below meth c H' _ cells slots LS C (hS.put ha ⟨r, hc, t_OB.to (V := updV (vp_V fs) i v) ⟨_, e1, q2, q3, t_set q4 hap hi v⟩ (fun j _ => vp_updV_set hlen v j)⟩ e2 e3) (hV.put e2 e3 hba) hL h1 h2 h3 h4
theorem aj.iald {a n : Nat} {f : Nat → Int32} {i : Int32} (hd : decode k.2.1 pc = .ok (.iaload, 1)) (ha : M.1 a = some (.inl (0, n, .inl f))) (hin : vp_in i n) (h : aj G l k d (pc + 1) lv (.int (f i.toNatClampNeg) :: st) M bc bs Q) : aj G l k d pc lv (.int i :: .ref a :: st) M bc bs Q := by
  intro p e R s m args below meth c H locs cells slots LS C hS hV hL h1 h2 h3 h4
  exact va_iald (ws := [(a, z_e G (.inl (0, n, .inl f)))]) (D := z_D G) C.1 C.2.1 C.2.2.2.2.2.2.2.1.1 (z_P1 hS ha) 0 0 rfl rfl hin hd (h p e R s m args below meth c H locs cells slots LS C hS hV hL h1 h2 h3 h4)
theorem aj.lald {a n : Nat} {f : Nat → Int64} {i : Int32} (hd : decode k.2.1 pc = .ok (.laload, 1)) (ha : M.1 a = some (.inl (1, n, .inr (.inl f)))) (hin : vp_in i n) (h : aj G l k d (pc + 1) lv (.long (f i.toNatClampNeg) :: st) M bc bs Q) : aj G l k d pc lv (.int i :: .ref a :: st) M bc bs Q := by
  intro p e R s m args below meth c H locs cells slots LS C hS hV hL h1 h2 h3 h4
  exact va_lald (ws := [(a, z_e G (.inl (1, n, .inr (.inl f))))]) (D := z_D G) C.1 C.2.1 C.2.2.2.2.2.2.2.1.1 (z_P1 hS ha) 0 1 rfl rfl hin hd (h p e R s m args below meth c H locs cells slots LS C hS hV hL h1 h2 h3 h4)
theorem aj.bald {a n : Nat} {f : Nat → Int32} {i : Int32} (hd : decode k.2.1 pc = .ok (.baload, 1)) (ha : M.1 a = some (.inl (2, n, .inl f))) (hin : vp_in i n) (h : aj G l k d (pc + 1) lv (.int (f i.toNatClampNeg) :: st) M bc bs Q) : aj G l k d pc lv (.int i :: .ref a :: st) M bc bs Q := by
  intro p e R s m args below meth c H locs cells slots LS C hS hV hL h1 h2 h3 h4
  exact va_bald (ws := [(a, z_e G (.inl (2, n, .inl f)))]) (D := z_D G) C.1 C.2.1 C.2.2.2.2.2.2.2.1.1 (z_P1 hS ha) 0 2 rfl rfl hin hd (h p e R s m args below meth c H locs cells slots LS C hS hV hL h1 h2 h3 h4)
theorem aj.zald {a n : Nat} {f : Nat → Int32} {i : Int32} (hd : decode k.2.1 pc = .ok (.baload, 1)) (ha : M.1 a = some (.inl (3, n, .inl f))) (hin : vp_in i n) (h : aj G l k d (pc + 1) lv (.int (f i.toNatClampNeg) :: st) M bc bs Q) : aj G l k d pc lv (.int i :: .ref a :: st) M bc bs Q := by
  intro p e R s m args below meth c H locs cells slots LS C hS hV hL h1 h2 h3 h4
  exact va_zald (ws := [(a, z_e G (.inl (3, n, .inl f)))]) (D := z_D G) C.1 C.2.1 C.2.2.2.2.2.2.2.1.1 (z_P1 hS ha) 0 3 rfl rfl hin hd (h p e R s m args below meth c H locs cells slots LS C hS hV hL h1 h2 h3 h4)
theorem aj.aald4 {a n : Nat} {f : Nat → Option Nat} {i : Int32} (hd : decode k.2.1 pc = .ok (.aaload, 1)) (ha : M.1 a = some (.inl (4, n, .inr (.inr (.inr (.inr f)))))) (hin : vp_in i n) (h : aj G l k d (pc + 1) lv (va_rf (f i.toNatClampNeg) :: st) M bc bs Q) : aj G l k d pc lv (.int i :: .ref a :: st) M bc bs Q := by
  intro p e R s m args below meth c H locs cells slots LS C hS hV hL h1 h2 h3 h4
  exact va_aldq (ws := [(a, z_e G (.inl (4, n, .inr (.inr (.inr (.inr f))))))]) (D := z_D G) C.1 C.2.1 C.2.2.2.2.2.2.2.1.1 (z_P1 hS ha) 0 4 rfl rfl hin hd (h p e R s m args below meth c H locs cells slots LS C hS hV hL h1 h2 h3 h4)
theorem aj.aald5 {a n : Nat} {f : Nat → Option Nat} {i : Int32} (hd : decode k.2.1 pc = .ok (.aaload, 1)) (ha : M.1 a = some (.inl (5, n, .inr (.inr (.inr (.inr f)))))) (hin : vp_in i n) (h : aj G l k d (pc + 1) lv (va_rf (f i.toNatClampNeg) :: st) M bc bs Q) : aj G l k d pc lv (.int i :: .ref a :: st) M bc bs Q := by
  intro p e R s m args below meth c H locs cells slots LS C hS hV hL h1 h2 h3 h4
  exact va_aldq (ws := [(a, z_e G (.inl (5, n, .inr (.inr (.inr (.inr f))))))]) (D := z_D G) C.1 C.2.1 C.2.2.2.2.2.2.2.1.1 (z_P1 hS ha) 0 5 rfl rfl hin hd (h p e R s m args below meth c H locs cells slots LS C hS hV hL h1 h2 h3 h4)
theorem aj.aald6 {a n : Nat} {f : Nat → Option Nat} {i : Int32} (hd : decode k.2.1 pc = .ok (.aaload, 1)) (ha : M.1 a = some (.inl (6, n, .inr (.inr (.inr (.inr f)))))) (hin : vp_in i n) (h : aj G l k d (pc + 1) lv (va_rf (f i.toNatClampNeg) :: st) M bc bs Q) : aj G l k d pc lv (.int i :: .ref a :: st) M bc bs Q := by
  intro p e R s m args below meth c H locs cells slots LS C hS hV hL h1 h2 h3 h4
  exact va_aldq (ws := [(a, z_e G (.inl (6, n, .inr (.inr (.inr (.inr f))))))]) (D := z_D G) C.1 C.2.1 C.2.2.2.2.2.2.2.1.1 (z_P1 hS ha) 0 6 rfl rfl hin hd (h p e R s m args below meth c H locs cells slots LS C hS hV hL h1 h2 h3 h4)
theorem aj.aald7 {a n : Nat} {f : Nat → Option Nat} {i : Int32} (hd : decode k.2.1 pc = .ok (.aaload, 1)) (ha : M.1 a = some (.inl (7, n, .inr (.inr (.inr (.inr f)))))) (hin : vp_in i n) (h : aj G l k d (pc + 1) lv (va_rf (f i.toNatClampNeg) :: st) M bc bs Q) : aj G l k d pc lv (.int i :: .ref a :: st) M bc bs Q := by
  intro p e R s m args below meth c H locs cells slots LS C hS hV hL h1 h2 h3 h4
  exact va_aldq (ws := [(a, z_e G (.inl (7, n, .inr (.inr (.inr (.inr f))))))]) (D := z_D G) C.1 C.2.1 C.2.2.2.2.2.2.2.1.1 (z_P1 hS ha) 0 7 rfl rfl hin hd (h p e R s m args below meth c H locs cells slots LS C hS hV hL h1 h2 h3 h4)
theorem aj.iast {a n : Nat} {f : Nat → Int32} {i : Int32} {x : Int32} (hd : decode k.2.1 pc = .ok (.iastore, 1)) (ha : M.1 a = some (.inl (0, n, .inl f))) (hin : vp_in i n) (h : aj G l k d (pc + 1) lv st (z_up M a (.inl (0, n, .inl (upd f i.toNatClampNeg x)))) bc bs Q) : aj G l k d pc lv (.int x :: .int i :: .ref a :: st) M bc bs Q := by
  intro p e R s m args below meth c H locs cells slots LS C hS hV hL h1 h2 h3 h4
  obtain ⟨hba, hat⟩ := hS.2.2.2 a _ ha
  have hK := C.2.2.2.2.2.2.2.1.1
  refine W.iast C.1 C.2.1 hat ((hK.2 0 _ rfl).1 n (fun j => .int (f j))) (fun q => by cases q) (by show ¬ (i < 0 ∨ (arrV _ _ _).slots.size ≤ _); rw [arrV_size]; exact hin) rfl rfl hd fun H1 e1 z oq => ?_
  refine h p e R s m args below meth c H1 _ cells slots LS C (hS.put ha ?_ z oq) (hV.put z oq hba) hL h1 h2 h3 h4
  show H1[a]? = some (vp_cell _ _)
  rw [e1, vp_cell_i, vp_cell_i, arrV_store]
  congr 2
  funext q
  by_cases hq : q = i.toNatClampNeg
  · subst hq
    simp [updV, upd]
  · simp [updV, upd, hq]
theorem aj.last {a n : Nat} {f : Nat → Int64} {i : Int32} {x : Int64} (hd : decode k.2.1 pc = .ok (.lastore, 1)) (ha : M.1 a = some (.inl (1, n, .inr (.inl f)))) (hin : vp_in i n) (h : aj G l k d (pc + 1) lv st (z_up M a (.inl (1, n, .inr (.inl (vp_updL f i.toNatClampNeg x))))) bc bs Q) : aj G l k d pc lv (.long x :: .int i :: .ref a :: st) M bc bs Q := by
  intro p e R s m args below meth c H locs cells slots LS C hS hV hL h1 h2 h3 h4
  obtain ⟨hba, hat⟩ := hS.2.2.2 a _ ha
  have hK := C.2.2.2.2.2.2.2.1.1
  refine W.last C.1 C.2.1 hat ((hK.2 1 _ rfl).1 n (fun j => .long (f j))) (fun q => by cases q) (by show ¬ (i < 0 ∨ (arrV _ _ _).slots.size ≤ _); rw [arrV_size]; exact hin) rfl rfl hd fun H1 e1 z oq => ?_
  refine h p e R s m args below meth c H1 _ cells slots LS C (hS.put ha ?_ z oq) (hV.put z oq hba) hL h1 h2 h3 h4
  show H1[a]? = some (vp_cell _ _)
  rw [e1, vp_cell_l, vp_cell_l, arrV_store]
  congr 2
  funext q
  by_cases hq : q = i.toNatClampNeg
  · subst hq
    simp [updV, vp_updL]
  · simp [updV, vp_updL, hq]
theorem aj.bast {a n : Nat} {f : Nat → Int32} {i : Int32} {x : Int32} (hd : decode k.2.1 pc = .ok (.bastore, 1)) (ha : M.1 a = some (.inl (2, n, .inl f))) (hin : vp_in i n) (h : aj G l k d (pc + 1) lv st (z_up M a (.inl (2, n, .inl (upd f i.toNatClampNeg (vp_nar .byte x))))) bc bs Q) : aj G l k d pc lv (.int x :: .int i :: .ref a :: st) M bc bs Q := by
  intro p e R s m args below meth c H locs cells slots LS C hS hV hL h1 h2 h3 h4
  obtain ⟨hba, hat⟩ := hS.2.2.2 a _ ha
  have hK := C.2.2.2.2.2.2.2.1.1
  refine W.bast C.1 C.2.1 hat ((hK.2 2 _ rfl).1 n (fun j => .int (f j))) (fun q => by cases q) (by show ¬ (i < 0 ∨ (arrV _ _ _).slots.size ≤ _); rw [arrV_size]; exact hin) rfl rfl hd fun H1 e1 z oq => ?_
  refine h p e R s m args below meth c H1 _ cells slots LS C (hS.put ha ?_ z oq) (hV.put z oq hba) hL h1 h2 h3 h4
  show H1[a]? = some (vp_cell _ _)
  rw [e1, vp_cell_i, vp_cell_i, arrV_store]
  congr 2
  funext q
  by_cases hq : q = i.toNatClampNeg
  · subst hq
    simp [updV, upd]; rfl
  · simp [updV, upd, hq]
theorem aj.zast {a n : Nat} {f : Nat → Int32} {i : Int32} {x : Int32} (hd : decode k.2.1 pc = .ok (.bastore, 1)) (ha : M.1 a = some (.inl (3, n, .inl f))) (hin : vp_in i n) (h : aj G l k d (pc + 1) lv st (z_up M a (.inl (3, n, .inl (upd f i.toNatClampNeg (vp_nar .boolean x))))) bc bs Q) : aj G l k d pc lv (.int x :: .int i :: .ref a :: st) M bc bs Q := by
  intro p e R s m args below meth c H locs cells slots LS C hS hV hL h1 h2 h3 h4
  obtain ⟨hba, hat⟩ := hS.2.2.2 a _ ha
  have hK := C.2.2.2.2.2.2.2.1.1
  refine W.zast C.1 C.2.1 hat ((hK.2 3 _ rfl).1 n (fun j => .int (f j))) (fun q => by cases q) (by show ¬ (i < 0 ∨ (arrV _ _ _).slots.size ≤ _); rw [arrV_size]; exact hin) rfl rfl hd fun H1 e1 z oq => ?_
  refine h p e R s m args below meth c H1 _ cells slots LS C (hS.put ha ?_ z oq) (hV.put z oq hba) hL h1 h2 h3 h4
  show H1[a]? = some (vp_cell _ _)
  rw [e1, vp_cell_i, vp_cell_i, arrV_store]
  congr 2
  funext q
  by_cases hq : q = i.toNatClampNeg
  · subst hq
    simp [updV, upd]; rfl
  · simp [updV, upd, hq]
theorem aj.alen {a t : Nat} {x : vp_A} {v : Int32} (hd : decode k.2.1 pc = .ok (.arraylength, 1)) (ha : M.1 a = some (.inl (t, x))) (ht : t < 8) (hv : Int32.ofNat x.1 = v) (h : aj G l k d (pc + 1) lv (.int v :: st) M bc bs Q) : aj G l k d pc lv (.ref a :: st) M bc bs Q := by
  intro p e R s m args below meth c H locs cells slots LS C hS hV hL h1 h2 h3 h4
  exact va_alen (ws := [(a, z_e G (.inl (t, x)))]) (D := z_D G) C.1 C.2.1 C.2.2.2.2.2.2.2.1.1 (z_P1 hS ha) 0 t rfl (z_t_at G ht) hv hd (h p e R s m args below meth c H locs cells slots LS C hS hV hL h1 h2 h3 h4)
theorem aj.aast4 {a n v : Nat} {f : Nat → Option Nat} {i : Int32} {vs : List Value} (hd : decode k.2.1 pc = .ok (.aastore, 1)) (ha : M.1 a = some (.inl (4, n, .inr (.inr (.inr (.inr f)))))) (hv : M.1 v = some (.inr (7, vs))) (hin : vp_in i n) (h : aj G l k d (pc + 1) lv st (z_up M a (.inl (4, n, .inr (.inr (.inr (.inr (va_up f i.toNatClampNeg (some v)))))))) bc bs Q) : aj G l k d pc lv (.ref v :: .int i :: .ref a :: st) M bc bs Q := by
  intro p e R s m args below meth c H locs cells slots LS C hS hV hL h1 h2 h3 h4
  obtain ⟨hba, hat⟩ := hS.2.2.2 a _ ha
  obtain ⟨-, r', hr', cellV, g1, g2, g3, -⟩ := hS.2.2.2 v _ hv
  have hK := C.2.2.2.2.2.2.2.1.1
  have hlt : i.toNatClampNeg < n := Nat.not_le.mp fun q => hin (Or.inr q)
  have h0 : ¬ i < 0 := fun q => hin (Or.inl q)
  have hcls := (hK.1 7 _ rfl).2
  obtain ⟨kA, comp, k1, k2, k3, -⟩ := (hK.2 4 _ rfl).2
  have hcomp : comp = (z_D G).1 7 := Option.some.inj (k3.symm.trans hcls.1)
  subst hcomp
  obtain ⟨kC, hkC, -⟩ := hcls.2
  refine W.aast C.1 C.2.1 hat (fun q h => by cases h) (fun h => by cases h) k1 k2 rfl hkC ⟨h0, by show _ < (arrV _ _ _).slots.size; rw [arrV_size]; exact hlt⟩ g1 (fun q h => by rw [g3] at h; cases h) (by rw [g2]; exact hkC) (by rw [g2]; exact va_assign hcls) rfl rfl hd fun H1 e1 z oq => ?_
  refine h p e R s m args below meth c H1 _ cells slots LS C (hS.put ha ?_ z oq) (hV.put z oq hba) hL h1 h2 h3 h4
  show H1[a]? = some (vp_cell _ _)
  rw [e1, vp_cell_q, vp_cell_q, arrV_store]
  congr 2
  funext q
  by_cases hq : q = i.toNatClampNeg
  · subst hq
    simp [updV, va_up, va_rf]
  · simp [updV, va_up, hq]
theorem aj.aast5 {a n v : Nat} {f : Nat → Option Nat} {i : Int32} {vs : List Value} (hd : decode k.2.1 pc = .ok (.aastore, 1)) (ha : M.1 a = some (.inl (5, n, .inr (.inr (.inr (.inr f)))))) (hv : M.1 v = some (.inr (10, vs))) (hin : vp_in i n) (h : aj G l k d (pc + 1) lv st (z_up M a (.inl (5, n, .inr (.inr (.inr (.inr (va_up f i.toNatClampNeg (some v)))))))) bc bs Q) : aj G l k d pc lv (.ref v :: .int i :: .ref a :: st) M bc bs Q := by
  intro p e R s m args below meth c H locs cells slots LS C hS hV hL h1 h2 h3 h4
  obtain ⟨hba, hat⟩ := hS.2.2.2 a _ ha
  obtain ⟨-, r', hr', cellV, g1, g2, g3, -⟩ := hS.2.2.2 v _ hv
  have hK := C.2.2.2.2.2.2.2.1.1
  have hlt : i.toNatClampNeg < n := Nat.not_le.mp fun q => hin (Or.inr q)
  have h0 : ¬ i < 0 := fun q => hin (Or.inl q)
  have hcls := (hK.1 10 _ rfl).2
  obtain ⟨kA, comp, k1, k2, k3, -⟩ := (hK.2 5 _ rfl).2
  have hcomp : comp = (z_D G).1 10 := Option.some.inj (k3.symm.trans hcls.1)
  subst hcomp
  obtain ⟨kC, hkC, -⟩ := hcls.2
  refine W.aast C.1 C.2.1 hat (fun q h => by cases h) (fun h => by cases h) k1 k2 rfl hkC ⟨h0, by show _ < (arrV _ _ _).slots.size; rw [arrV_size]; exact hlt⟩ g1 (fun q h => by rw [g3] at h; cases h) (by rw [g2]; exact hkC) (by rw [g2]; exact va_assign hcls) rfl rfl hd fun H1 e1 z oq => ?_
  refine h p e R s m args below meth c H1 _ cells slots LS C (hS.put ha ?_ z oq) (hV.put z oq hba) hL h1 h2 h3 h4
  show H1[a]? = some (vp_cell _ _)
  rw [e1, vp_cell_q, vp_cell_q, arrV_store]
  congr 2
  funext q
  by_cases hq : q = i.toNatClampNeg
  · subst hq
    simp [updV, va_up, va_rf]
  · simp [updV, va_up, hq]
theorem aj.aast6 {a n v : Nat} {f : Nat → Option Nat} {i : Int32} {vs : List Value} (hd : decode k.2.1 pc = .ok (.aastore, 1)) (ha : M.1 a = some (.inl (6, n, .inr (.inr (.inr (.inr f)))))) (hv : M.1 v = some (.inr (0, vs))) (hin : vp_in i n) (h : aj G l k d (pc + 1) lv st (z_up M a (.inl (6, n, .inr (.inr (.inr (.inr (va_up f i.toNatClampNeg (some v)))))))) bc bs Q) : aj G l k d pc lv (.ref v :: .int i :: .ref a :: st) M bc bs Q := by
  intro p e R s m args below meth c H locs cells slots LS C hS hV hL h1 h2 h3 h4
  obtain ⟨hba, hat⟩ := hS.2.2.2 a _ ha
  obtain ⟨-, r', hr', cellV, g1, g2, g3, -⟩ := hS.2.2.2 v _ hv
  have hK := C.2.2.2.2.2.2.2.1.1
  have hlt : i.toNatClampNeg < n := Nat.not_le.mp fun q => hin (Or.inr q)
  have h0 : ¬ i < 0 := fun q => hin (Or.inl q)
  have hcls := (hK.1 0 _ rfl).2
  obtain ⟨kA, comp, k1, k2, k3, -⟩ := (hK.2 6 _ rfl).2
  have hcomp : comp = (z_D G).1 0 := Option.some.inj (k3.symm.trans hcls.1)
  subst hcomp
  obtain ⟨kC, hkC, -⟩ := hcls.2
  refine W.aast C.1 C.2.1 hat (fun q h => by cases h) (fun h => by cases h) k1 k2 rfl hkC ⟨h0, by show _ < (arrV _ _ _).slots.size; rw [arrV_size]; exact hlt⟩ g1 (fun q h => by rw [g3] at h; cases h) (by rw [g2]; exact hkC) (by rw [g2]; exact va_assign hcls) rfl rfl hd fun H1 e1 z oq => ?_
  refine h p e R s m args below meth c H1 _ cells slots LS C (hS.put ha ?_ z oq) (hV.put z oq hba) hL h1 h2 h3 h4
  show H1[a]? = some (vp_cell _ _)
  rw [e1, vp_cell_q, vp_cell_q, arrV_store]
  congr 2
  funext q
  by_cases hq : q = i.toNatClampNeg
  · subst hq
    simp [updV, va_up, va_rf]
  · simp [updV, va_up, hq]
theorem aj.aast7 {a n v : Nat} {f : Nat → Option Nat} {i : Int32} {vs : List Value} (hd : decode k.2.1 pc = .ok (.aastore, 1)) (ha : M.1 a = some (.inl (7, n, .inr (.inr (.inr (.inr f)))))) (hv : M.1 v = some (.inr (8, vs))) (hin : vp_in i n) (h : aj G l k d (pc + 1) lv st (z_up M a (.inl (7, n, .inr (.inr (.inr (.inr (va_up f i.toNatClampNeg (some v)))))))) bc bs Q) : aj G l k d pc lv (.ref v :: .int i :: .ref a :: st) M bc bs Q := by
  intro p e R s m args below meth c H locs cells slots LS C hS hV hL h1 h2 h3 h4
  obtain ⟨hba, hat⟩ := hS.2.2.2 a _ ha
  obtain ⟨-, r', hr', cellV, g1, g2, g3, -⟩ := hS.2.2.2 v _ hv
  have hK := C.2.2.2.2.2.2.2.1.1
  have hlt : i.toNatClampNeg < n := Nat.not_le.mp fun q => hin (Or.inr q)
  have h0 : ¬ i < 0 := fun q => hin (Or.inl q)
  have hcls := (hK.1 8 _ rfl).2
  obtain ⟨kA, comp, k1, k2, k3, -⟩ := (hK.2 7 _ rfl).2
  have hcomp : comp = (z_D G).1 8 := Option.some.inj (k3.symm.trans hcls.1)
  subst hcomp
  obtain ⟨kC, hkC, -⟩ := hcls.2
  refine W.aast C.1 C.2.1 hat (fun q h => by cases h) (fun h => by cases h) k1 k2 rfl hkC ⟨h0, by show _ < (arrV _ _ _).slots.size; rw [arrV_size]; exact hlt⟩ g1 (fun q h => by rw [g3] at h; cases h) (by rw [g2]; exact hkC) (by rw [g2]; exact va_assign hcls) rfl rfl hd fun H1 e1 z oq => ?_
  refine h p e R s m args below meth c H1 _ cells slots LS C (hS.put ha ?_ z oq) (hV.put z oq hba) hL h1 h2 h3 h4
  show H1[a]? = some (vp_cell _ _)
  rw [e1, vp_cell_q, vp_cell_q, arrV_store]
  congr 2
  funext q
  by_cases hq : q = i.toNatClampNeg
  · subst hq
    simp [updV, va_up, va_rf]
  · simp [updV, va_up, hq]
theorem aj.new {ci idx : Nat} {cq : vw_C} {fs : List Value} (hd : decode k.2.1 pc = .ok (.new idx, 3)) (hc : classes[ci]? = some cq) (hcl : Cond.classLink k.1.cls idx cq.1 ∈ z_W) (hinst : Cond.instantiable cq.1 cq.2.2 ∈ z_W) (hini : Cond.initialized cq.1 ∈ z_W) (hfs : ∀ j, j < cq.2.2 → defaultValue (z_fty ci j) = vp_V fs j) (h : aj G l k d (pc + 3) lv (.ref M.2 :: st) (z_nw M (.inr (ci, fs))) bc bs Q) : aj G l k d pc lv st M (bc + 1) (bs + cq.2.2) Q := by
  intro p e R s m args below meth c H locs cells slots LS C hS hV hL h1 h2 h3 h4
  have hK := C.2.2.2.2.2.2.2.1.1
  have hts := C.2.2.2.2.2.1
  have hKn := hK.1 ci _ hc
  refine W.newcK C.1 C.2.1 C.2.2.2.2.1 (hts _ hcl) (hts _ hinst) (hts _ hini) rfl hd (by omega) (by omega) hKn.2.1 hS.1 fun H1 kC hkC e1 z1 o1 => ?_
  have hb : va_at (z_D G) classes (H.size, z_e G (.inr (ci, fs))) H1 := by
    rw [hS.1]
    exact ⟨_, hc, (u_born (z_fty ci) hts (z_lay_good ci cq hc) hKn hkC e1 (z_tyok ci cq hc)).to hfs⟩
  have := h p e R s m args below meth c H1 locs (cells + 1) (slots + cq.2.2) LS C (hS.new hb (by rw [z1, hS.1]) (fun q hq => o1 q (by rw [← hS.1]; exact hq))) ⟨Nat.le_trans hV.1 (by rw [z1, hS.1]; exact Nat.le_succ _), fun q q1 q2 => (o1 q (by rw [← hS.1]; exact Nat.lt_of_lt_of_le q1 hV.1)).trans (hV.2.1 q q1 q2), hV.2.2⟩ hL h1 h2 (by omega) (by omega)
  rw [show cells + (bc + 1) = cells + 1 + bc by omega, show slots + (bs + cq.2.2) = slots + cq.2.2 + bs by omega]
  exact this
theorem aj.newa0 {n : Int32} {N : Nat} (hd : decode k.2.1 pc = .ok (.newarray .int, 2)) (hw : Cond.arrayClass (newarray.typeOf .int) ∈ z_W) (hn : ¬ n < 0) (hN : n.toNatClampNeg = N) (hby : N * componentBytes (newarray.typeOf .int) ≤ 536870912) (h : aj G l k d (pc + 2) lv (.ref M.2 :: st) (z_nw M (.inl (0, N, .inl (fun _ => 0)))) bc bs Q) : aj G l k d pc lv (.int n :: st) M (bc + 1) (bs + N) Q := by
  intro p e R s m args below meth c H locs cells slots LS C hS hV hL h1 h2 h3 h4
  have hK := C.2.2.2.2.2.2.2.1.1
  have hts := C.2.2.2.2.2.1
  refine va_newaK C.1 C.2.1 (hts _ hw) rfl hd rfl hn hN hby (by omega) (by omega) hS.1 fun H1 cA e1 z1 o1 hAr hNm => ?_
  have hcA : cA = G.2.2.1 0 := Option.some.inj (hNm.symm.trans (hK.2 0 _ rfl).2)
  subst hcA
  have hb : va_at (z_D G) classes (H.size, z_e G (.inl (0, N, .inl (fun _ => 0)))) H1 := by
    rw [hS.1]
    exact e1
  have := h p e R s m args below meth c H1 locs (cells + 1) (slots + N) LS C (hS.new hb (by rw [z1, hS.1]) (fun q hq => o1 q (by rw [← hS.1]; exact hq))) ⟨Nat.le_trans hV.1 (by rw [z1, hS.1]; exact Nat.le_succ _), fun q q1 q2 => (o1 q (by rw [← hS.1]; exact Nat.lt_of_lt_of_le q1 hV.1)).trans (hV.2.1 q q1 q2), hV.2.2⟩ hL h1 h2 (by omega) (by omega)
  rw [show cells + (bc + 1) = cells + 1 + bc by omega, show slots + (bs + N) = slots + N + bs by omega]
  exact this
theorem aj.newa1 {n : Int32} {N : Nat} (hd : decode k.2.1 pc = .ok (.newarray .long, 2)) (hw : Cond.arrayClass (newarray.typeOf .long) ∈ z_W) (hn : ¬ n < 0) (hN : n.toNatClampNeg = N) (hby : N * componentBytes (newarray.typeOf .long) ≤ 536870912) (h : aj G l k d (pc + 2) lv (.ref M.2 :: st) (z_nw M (.inl (1, N, .inr (.inl (fun _ => 0))))) bc bs Q) : aj G l k d pc lv (.int n :: st) M (bc + 1) (bs + N) Q := by
  intro p e R s m args below meth c H locs cells slots LS C hS hV hL h1 h2 h3 h4
  have hK := C.2.2.2.2.2.2.2.1.1
  have hts := C.2.2.2.2.2.1
  refine va_newaK C.1 C.2.1 (hts _ hw) rfl hd rfl hn hN hby (by omega) (by omega) hS.1 fun H1 cA e1 z1 o1 hAr hNm => ?_
  have hcA : cA = G.2.2.1 1 := Option.some.inj (hNm.symm.trans (hK.2 1 _ rfl).2)
  subst hcA
  have hb : va_at (z_D G) classes (H.size, z_e G (.inl (1, N, .inr (.inl (fun _ => 0))))) H1 := by
    rw [hS.1]
    exact e1
  have := h p e R s m args below meth c H1 locs (cells + 1) (slots + N) LS C (hS.new hb (by rw [z1, hS.1]) (fun q hq => o1 q (by rw [← hS.1]; exact hq))) ⟨Nat.le_trans hV.1 (by rw [z1, hS.1]; exact Nat.le_succ _), fun q q1 q2 => (o1 q (by rw [← hS.1]; exact Nat.lt_of_lt_of_le q1 hV.1)).trans (hV.2.1 q q1 q2), hV.2.2⟩ hL h1 h2 (by omega) (by omega)
  rw [show cells + (bc + 1) = cells + 1 + bc by omega, show slots + (bs + N) = slots + N + bs by omega]
  exact this
theorem aj.newa2 {n : Int32} {N : Nat} (hd : decode k.2.1 pc = .ok (.newarray .byte, 2)) (hw : Cond.arrayClass (newarray.typeOf .byte) ∈ z_W) (hn : ¬ n < 0) (hN : n.toNatClampNeg = N) (hby : N * componentBytes (newarray.typeOf .byte) ≤ 536870912) (h : aj G l k d (pc + 2) lv (.ref M.2 :: st) (z_nw M (.inl (2, N, .inl (fun _ => 0)))) bc bs Q) : aj G l k d pc lv (.int n :: st) M (bc + 1) (bs + N) Q := by
  intro p e R s m args below meth c H locs cells slots LS C hS hV hL h1 h2 h3 h4
  have hK := C.2.2.2.2.2.2.2.1.1
  have hts := C.2.2.2.2.2.1
  refine va_newaK C.1 C.2.1 (hts _ hw) rfl hd rfl hn hN hby (by omega) (by omega) hS.1 fun H1 cA e1 z1 o1 hAr hNm => ?_
  have hcA : cA = G.2.2.1 2 := Option.some.inj (hNm.symm.trans (hK.2 2 _ rfl).2)
  subst hcA
  have hb : va_at (z_D G) classes (H.size, z_e G (.inl (2, N, .inl (fun _ => 0)))) H1 := by
    rw [hS.1]
    exact e1
  have := h p e R s m args below meth c H1 locs (cells + 1) (slots + N) LS C (hS.new hb (by rw [z1, hS.1]) (fun q hq => o1 q (by rw [← hS.1]; exact hq))) ⟨Nat.le_trans hV.1 (by rw [z1, hS.1]; exact Nat.le_succ _), fun q q1 q2 => (o1 q (by rw [← hS.1]; exact Nat.lt_of_lt_of_le q1 hV.1)).trans (hV.2.1 q q1 q2), hV.2.2⟩ hL h1 h2 (by omega) (by omega)
  rw [show cells + (bc + 1) = cells + 1 + bc by omega, show slots + (bs + N) = slots + N + bs by omega]
  exact this
theorem aj.newa3 {n : Int32} {N : Nat} (hd : decode k.2.1 pc = .ok (.newarray .boolean, 2)) (hw : Cond.arrayClass (newarray.typeOf .boolean) ∈ z_W) (hn : ¬ n < 0) (hN : n.toNatClampNeg = N) (hby : N * componentBytes (newarray.typeOf .boolean) ≤ 536870912) (h : aj G l k d (pc + 2) lv (.ref M.2 :: st) (z_nw M (.inl (3, N, .inl (fun _ => 0)))) bc bs Q) : aj G l k d pc lv (.int n :: st) M (bc + 1) (bs + N) Q := by
  intro p e R s m args below meth c H locs cells slots LS C hS hV hL h1 h2 h3 h4
  have hK := C.2.2.2.2.2.2.2.1.1
  have hts := C.2.2.2.2.2.1
  refine va_newaK C.1 C.2.1 (hts _ hw) rfl hd rfl hn hN hby (by omega) (by omega) hS.1 fun H1 cA e1 z1 o1 hAr hNm => ?_
  have hcA : cA = G.2.2.1 3 := Option.some.inj (hNm.symm.trans (hK.2 3 _ rfl).2)
  subst hcA
  have hb : va_at (z_D G) classes (H.size, z_e G (.inl (3, N, .inl (fun _ => 0)))) H1 := by
    rw [hS.1]
    exact e1
  have := h p e R s m args below meth c H1 locs (cells + 1) (slots + N) LS C (hS.new hb (by rw [z1, hS.1]) (fun q hq => o1 q (by rw [← hS.1]; exact hq))) ⟨Nat.le_trans hV.1 (by rw [z1, hS.1]; exact Nat.le_succ _), fun q q1 q2 => (o1 q (by rw [← hS.1]; exact Nat.lt_of_lt_of_le q1 hV.1)).trans (hV.2.1 q q1 q2), hV.2.2⟩ hL h1 h2 (by omega) (by omega)
  rw [show cells + (bc + 1) = cells + 1 + bc by omega, show slots + (bs + N) = slots + N + bs by omega]
  exact this
theorem aj.anew4 {n : Int32} {N idx : Nat} (hd : decode k.2.1 pc = .ok (.anewarray idx, 3)) (hcl : Cond.classLink k.1.cls idx RX7 ∈ z_W) (hn : ¬ n < 0) (hN : n.toNatClampNeg = N) (hby : N * 4 ≤ 536870912) (h : aj G l k d (pc + 3) lv (.ref M.2 :: st) (z_nw M (.inl (4, N, .inr (.inr (.inr (.inr (fun _ => none))))))) bc bs Q) : aj G l k d pc lv (.int n :: st) M (bc + 1) (bs + N) Q := by
  intro p e R s m args below meth c H locs cells slots LS C hS hV hL h1 h2 h3 h4
  have hK := C.2.2.2.2.2.2.2.1.1
  have hts := C.2.2.2.2.2.1
  subst hN
  refine W.anew C.1 C.2.1 C.2.2.2.2.1 (hts _ hcl) (va_AO.use (C.2.2.2.2.2.2.2.1.2.2.1 RX7 (by simp))) rfl hd rfl hn hby (by omega) (by omega) fun cA kA comp f1 f2 f3 f4 => ?_
  obtain ⟨_, _, -, -, -, k4⟩ := (hK.2 4 _ rfl).2
  have hcA : cA = G.2.2.1 4 := Option.some.inj (f1.symm.trans k4)
  subst hcA
  generalize hH1 : H.push ({ cls := G.2.2.1 4, slots := Array.replicate n.toNatClampNeg .null, vm := .none } : Cell) = H1
  have z1 : H1.size = H.size + 1 := by rw [← hH1, Array.size_push]
  have e1 : H1[H.size]? = some (arrV (G.2.2.1 4) n.toNatClampNeg (fun _ => .null)) := by rw [← hH1, Array.getElem?_push_size, ← arrV_new]
  have o1 : ∀ q : Nat, q < H.size → H1[q]? = H[q]? := fun q hq => by rw [← hH1, Array.getElem?_push, if_neg (Nat.ne_of_lt hq)]
  rw [hS.1]
  have := h p e R s m args below meth c H1 locs (cells + 1) (slots + n.toNatClampNeg) LS C (hS.new e1 z1 o1) ⟨Nat.le_trans hV.1 (by omega), fun q q1 q2 => (o1 q (Nat.lt_of_lt_of_le q1 hV.1)).trans (hV.2.1 q q1 q2), hV.2.2⟩ hL h1 h2 (by omega) (by omega)
  rw [show cells + (bc + 1) = cells + 1 + bc by omega, show slots + (bs + n.toNatClampNeg) = slots + n.toNatClampNeg + bs by omega]
  exact this
theorem aj.anew5 {n : Int32} {N idx : Nat} (hd : decode k.2.1 pc = .ok (.anewarray idx, 3)) (hcl : Cond.classLink k.1.cls idx RX10 ∈ z_W) (hn : ¬ n < 0) (hN : n.toNatClampNeg = N) (hby : N * 4 ≤ 536870912) (h : aj G l k d (pc + 3) lv (.ref M.2 :: st) (z_nw M (.inl (5, N, .inr (.inr (.inr (.inr (fun _ => none))))))) bc bs Q) : aj G l k d pc lv (.int n :: st) M (bc + 1) (bs + N) Q := by
  intro p e R s m args below meth c H locs cells slots LS C hS hV hL h1 h2 h3 h4
  have hK := C.2.2.2.2.2.2.2.1.1
  have hts := C.2.2.2.2.2.1
  subst hN
  refine W.anew C.1 C.2.1 C.2.2.2.2.1 (hts _ hcl) (va_AO.use (C.2.2.2.2.2.2.2.1.2.2.1 RX10 (by simp))) rfl hd rfl hn hby (by omega) (by omega) fun cA kA comp f1 f2 f3 f4 => ?_
  obtain ⟨_, _, -, -, -, k4⟩ := (hK.2 5 _ rfl).2
  have hcA : cA = G.2.2.1 5 := Option.some.inj (f1.symm.trans k4)
  subst hcA
  generalize hH1 : H.push ({ cls := G.2.2.1 5, slots := Array.replicate n.toNatClampNeg .null, vm := .none } : Cell) = H1
  have z1 : H1.size = H.size + 1 := by rw [← hH1, Array.size_push]
  have e1 : H1[H.size]? = some (arrV (G.2.2.1 5) n.toNatClampNeg (fun _ => .null)) := by rw [← hH1, Array.getElem?_push_size, ← arrV_new]
  have o1 : ∀ q : Nat, q < H.size → H1[q]? = H[q]? := fun q hq => by rw [← hH1, Array.getElem?_push, if_neg (Nat.ne_of_lt hq)]
  rw [hS.1]
  have := h p e R s m args below meth c H1 locs (cells + 1) (slots + n.toNatClampNeg) LS C (hS.new e1 z1 o1) ⟨Nat.le_trans hV.1 (by omega), fun q q1 q2 => (o1 q (Nat.lt_of_lt_of_le q1 hV.1)).trans (hV.2.1 q q1 q2), hV.2.2⟩ hL h1 h2 (by omega) (by omega)
  rw [show cells + (bc + 1) = cells + 1 + bc by omega, show slots + (bs + n.toNatClampNeg) = slots + n.toNatClampNeg + bs by omega]
  exact this
theorem aj.anew6 {n : Int32} {N idx : Nat} (hd : decode k.2.1 pc = .ok (.anewarray idx, 3)) (hcl : Cond.classLink k.1.cls idx RX0 ∈ z_W) (hn : ¬ n < 0) (hN : n.toNatClampNeg = N) (hby : N * 4 ≤ 536870912) (h : aj G l k d (pc + 3) lv (.ref M.2 :: st) (z_nw M (.inl (6, N, .inr (.inr (.inr (.inr (fun _ => none))))))) bc bs Q) : aj G l k d pc lv (.int n :: st) M (bc + 1) (bs + N) Q := by
  intro p e R s m args below meth c H locs cells slots LS C hS hV hL h1 h2 h3 h4
  have hK := C.2.2.2.2.2.2.2.1.1
  have hts := C.2.2.2.2.2.1
  subst hN
  refine W.anew C.1 C.2.1 C.2.2.2.2.1 (hts _ hcl) (va_AO.use (C.2.2.2.2.2.2.2.1.2.2.1 RX0 (by simp))) rfl hd rfl hn hby (by omega) (by omega) fun cA kA comp f1 f2 f3 f4 => ?_
  obtain ⟨_, _, -, -, -, k4⟩ := (hK.2 6 _ rfl).2
  have hcA : cA = G.2.2.1 6 := Option.some.inj (f1.symm.trans k4)
  subst hcA
  generalize hH1 : H.push ({ cls := G.2.2.1 6, slots := Array.replicate n.toNatClampNeg .null, vm := .none } : Cell) = H1
  have z1 : H1.size = H.size + 1 := by rw [← hH1, Array.size_push]
  have e1 : H1[H.size]? = some (arrV (G.2.2.1 6) n.toNatClampNeg (fun _ => .null)) := by rw [← hH1, Array.getElem?_push_size, ← arrV_new]
  have o1 : ∀ q : Nat, q < H.size → H1[q]? = H[q]? := fun q hq => by rw [← hH1, Array.getElem?_push, if_neg (Nat.ne_of_lt hq)]
  rw [hS.1]
  have := h p e R s m args below meth c H1 locs (cells + 1) (slots + n.toNatClampNeg) LS C (hS.new e1 z1 o1) ⟨Nat.le_trans hV.1 (by omega), fun q q1 q2 => (o1 q (Nat.lt_of_lt_of_le q1 hV.1)).trans (hV.2.1 q q1 q2), hV.2.2⟩ hL h1 h2 (by omega) (by omega)
  rw [show cells + (bc + 1) = cells + 1 + bc by omega, show slots + (bs + n.toNatClampNeg) = slots + n.toNatClampNeg + bs by omega]
  exact this
theorem aj.anew7 {n : Int32} {N idx : Nat} (hd : decode k.2.1 pc = .ok (.anewarray idx, 3)) (hcl : Cond.classLink k.1.cls idx RX8 ∈ z_W) (hn : ¬ n < 0) (hN : n.toNatClampNeg = N) (hby : N * 4 ≤ 536870912) (h : aj G l k d (pc + 3) lv (.ref M.2 :: st) (z_nw M (.inl (7, N, .inr (.inr (.inr (.inr (fun _ => none))))))) bc bs Q) : aj G l k d pc lv (.int n :: st) M (bc + 1) (bs + N) Q := by
  intro p e R s m args below meth c H locs cells slots LS C hS hV hL h1 h2 h3 h4
  have hK := C.2.2.2.2.2.2.2.1.1
  have hts := C.2.2.2.2.2.1
  subst hN
  refine W.anew C.1 C.2.1 C.2.2.2.2.1 (hts _ hcl) (va_AO.use (C.2.2.2.2.2.2.2.1.2.2.1 RX8 (by simp))) rfl hd rfl hn hby (by omega) (by omega) fun cA kA comp f1 f2 f3 f4 => ?_
  obtain ⟨_, _, -, -, -, k4⟩ := (hK.2 7 _ rfl).2
  have hcA : cA = G.2.2.1 7 := Option.some.inj (f1.symm.trans k4)
  subst hcA
  generalize hH1 : H.push ({ cls := G.2.2.1 7, slots := Array.replicate n.toNatClampNeg .null, vm := .none } : Cell) = H1
  have z1 : H1.size = H.size + 1 := by rw [← hH1, Array.size_push]
  have e1 : H1[H.size]? = some (arrV (G.2.2.1 7) n.toNatClampNeg (fun _ => .null)) := by rw [← hH1, Array.getElem?_push_size, ← arrV_new]
  have o1 : ∀ q : Nat, q < H.size → H1[q]? = H[q]? := fun q hq => by rw [← hH1, Array.getElem?_push, if_neg (Nat.ne_of_lt hq)]
  rw [hS.1]
  have := h p e R s m args below meth c H1 locs (cells + 1) (slots + n.toNatClampNeg) LS C (hS.new e1 z1 o1) ⟨Nat.le_trans hV.1 (by omega), fun q q1 q2 => (o1 q (Nat.lt_of_lt_of_le q1 hV.1)).trans (hV.2.1 q q1 q2), hV.2.2⟩ hL h1 h2 (by omega) (by omega)
  rw [show cells + (bc + 1) = cells + 1 + bc by omega, show slots + (bs + n.toNatClampNeg) = slots + n.toNatClampNeg + bs by omega]
  exact this
theorem aj.objInit {a idx : Nat} (hd : decode k.2.1 pc = .ok (.invokespecial idx, 3)) (hl : Cond.methodLink k.1.cls idx Lib.objectInit ∈ z_W) (hi : Cond.instanceMethod Lib.objectInit ∈ z_W) (hc : Cond.code Lib.objectInit ⟨#[0xb1]⟩ 1 none ∈ z_W) (hd1 : 1 ≤ d) (hsum : (st.map fun v => v.category).sum ≤ 8) (h : aj G l k d (pc + 3) lv st M bc bs Q) : aj G l k d pc lv (.ref a :: st) M bc bs Q := by
  intro p e R s m args below meth c H locs cells slots LS C hS hV hL h1 h2 h3 h4
  have hts := C.2.2.2.2.2.1
  refine W.objInit C.1 C.2.1 C.2.2.2.2.1 (hts _ hl) (hts _ hi) (hts _ hc) rfl (by rw [C.2.2.2.1]; exact hL.1) rfl hd (by omega) ?_ ?_
  · have := lv_room (m := m) (pc := pc) (ls := LS) (rest := .ref a :: st) hsum
    omega
  · exact h p e R s m args below meth c H locs cells slots LS C hS hV hL h1 h2 h3 h4
end Rules5
