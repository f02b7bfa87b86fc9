/-- who shoots in a turn, of an order's number -/
def dg (n o t : Nat) : Nat := o / 2 ^ (2 * (n - 1 - t)) % 4
def dgs (n o : Nat) : List Nat := (List.range n).map (dg n o)
abbrev isO (n o : Nat) : Prop := tR (fun t => nI (dg n o t)) n = (1 <<< (nI n &&& 31)) - 1
theorem dg_lt (n o t : Nat) : dg n o t < 4 := Nat.mod_lt _ (by decide)
theorem z_and3 {n : Nat} (h : n < 2 ^ 31) : nI n &&& 3 = nI (n % 4) := pk_andN (k := 2) (by omega) (by decide)
theorem turn_of {n o t : Nat} (hn : n ≤ 4) (ho : o < 2 ^ 31) : (nI o >>> (nI (2 * (n - 1 - t)) &&& 31)) &&& 3 = nI (dg n o t) := by
  have h3 : o / 2 ^ (2 * (n - 1 - t)) ≤ o := Nat.div_le_self _ _
  rw [pk_shrN ho _ _ (z_sh31 _ (by omega)), z_and3 (by omega)]
  rfl
theorem oP_codes : ∀ n, n ≤ 4 → oP n n [] = ((List.range (2 ^ (2 * n))).filter (fun o => decide (isO n o))).map (dgs n) := by
  intro n hn
  rcases (show n = 0 ∨ n = 1 ∨ n = 2 ∨ n = 3 ∨ n = 4 by omega) with rfl | rfl | rfl | rfl | rfl <;> decide +kernel
theorem lmx_edge (G : List Nat → Int32) (D : Nat → List Nat) (p : Nat → Prop) [DecidablePred p] : ∀ N, lmx G none (((List.range N).filter (fun o => decide (p o))).map D) = (zedge p (fun o => G (D o)) N).map D
  | 0 => rfl
  | N + 1 => by
    rw [List.range_succ, List.filter_append, List.map_append, lmx_app, lmx_edge G D p N, zedge_s]
    by_cases h : p N
    · rw [if_pos h]
      have e : List.filter (fun o => decide (p o)) [N] = [N] := by simp [h]
      rw [e]
      cases zedge p (fun o => G (D o)) N with
      | none => rfl
      | some k =>
        show some (if G (D N) ≤ G (D k) then D k else D N) = (if G (D N) ≤ G (D k) then some k else some N).map D
        split <;> rfl
    · rw [if_neg h]
      have e : List.filter (fun o => decide (p o)) [N] = [] := by simp [h]
      rw [e]
      cases zedge p (fun o => G (D o)) N <;> rfl
theorem oG_range (ga : Nat → Nat → Int32) (d : Nat → Nat) : ∀ n, oG ga 0 ((List.range n).map d) = zsum (fun t => ga t (d t)) n
  | 0 => rfl
  | n + 1 => by
    rw [List.range_succ, List.map_append, List.map_singleton, oG_snoc, oG_range ga d n, zsum_s, List.length_map, List.length_range, Nat.zero_add]
theorem zsum_congr {f g : Nat → Int32} : ∀ {n : Nat}, (∀ k, k < n → f k = g k) → zsum f n = zsum g n
  | 0, _ => rfl
  | n + 1, h => by rw [zsum_s, zsum_s, zsum_congr (n := n) (fun k hk => h k (by omega)), h n (by omega)]
/-- the class's best order is the reference's -/
theorem ord_of (ga : Nat → Nat → Int32) {n : Nat} (hn : n ≤ 4) {g : Nat → Int32} (hg : ∀ o, o < 2 ^ (2 * n) → isO n o → g o = zsum (fun t => ga t (dg n o t)) n) : ∃ k, zedge (isO n) g (2 ^ (2 * n)) = some k ∧ k < 2 ^ (2 * n) ∧ isO n k ∧ dgs n k = mOrd ga n := by
  have h := mOrd_is ga hn
  rw [oP_codes n hn, lmx_edge] at h
  have e : zedge (isO n) g (2 ^ (2 * n)) = zedge (isO n) (fun o => oG ga 0 (dgs n o)) (2 ^ (2 * n)) := edge_congr (fun k hk hp => by rw [hg k hk hp]; exact (oG_range ga (dg n k) n).symm)
  rw [e]
  cases hz : zedge (isO n) (fun o => oG ga 0 (dgs n o)) (2 ^ (2 * n)) with
  | none => rw [hz] at h; cases h
  | some k =>
    rw [hz] at h
    have hk := edge_in hz
    exact ⟨k, rfl, hk.2, hk.1, Option.some.inj h⟩
theorem isO_lt {n : Nat} (hn : n ≤ 4) : ∀ o, o < 2 ^ (2 * n) → isO n o → ∀ t, t < n → dg n o t < n := by
  rcases (show n = 0 ∨ n = 1 ∨ n = 2 ∨ n = 3 ∨ n = 4 by omega) with rfl | rfl | rfl | rfl | rfl <;> decide +kernel
theorem k_turnOf {G : zG} {l : Launch} (M : zM) (o : Nat) {x_o : Int32} (e_o : x_o = nI o) (n : Nat) {x_n : Int32} (e_n : x_n = nI n) (t : Nat) {x_t : Int32} (e_t : x_t = nI t) (hn : n ≤ 4) (ht : t < n) (ho : o < 2 ^ 31) : am G l kX11_turnOf 0 [.int x_o, .int x_n, .int x_t] M 0 0 (zr (.int (nI (dg n o t))) (fun M' => M' = M)) := by
  refine am.of (by decide) (Nat.le_of_ble_eq_true rfl) ?_
  refine aj.iload_n dX11_turnOf_0 rfl ?_
  refine aj.iconst (v := 2) dX11_turnOf_1 rfl ?_
  refine aj.iload_n dX11_turnOf_2 rfl ?_
  refine aj.iconst (v := 1) dX11_turnOf_3 rfl ?_
  refine aj.isubN (a := n) (b := 1) dX11_turnOf_4 e_n rfl (by omega) ?_
  refine aj.iload_n dX11_turnOf_5 rfl ?_
  refine aj.isubN (a := n - 1) (b := t) dX11_turnOf_6 rfl e_t (by omega) ?_
  refine aj.imulN (a := 2) (b := (n - 1) - t) dX11_turnOf_7 rfl rfl ?_
  refine aj.ishr dX11_turnOf_8 ?_
  refine aj.iconst (v := 3) dX11_turnOf_9 rfl ?_
  refine aj.iand dX11_turnOf_10 ?_
  exact aj.iret rfl dX11_turnOf_11 ⟨by rw [e_o, turn_of hn ho], rfl⟩
theorem isOrder_lp {G : zG} {l : Launch} {M : zM} (o : Nat) {x_o : Int32} (e_o : x_o = nI o) (n : Nat) {x_n : Int32} (e_n : x_n = nI n) (hn : n ≤ 4) (ho : o < 2 ^ 31) : ∀ (m i : Nat) (z : Int32), i + m = n → z = tR (fun t => nI (dg n o t)) i → aj G l kX11_isOrder 1 4 [(3, .int (nI i)), (2, .int z), (0, .int x_o), (1, .int x_n)] [] M 0 0 (zr (.int (zb (isO n o))) (fun M' => M' = M)) := by
  intro m
  induction m with
  | zero =>
    intro i z hin hz
    rw [show i = n by omega] at hz
    refine aj.iload_n dX11_isOrder_4 rfl ?_
    refine aj.iload_n dX11_isOrder_5 rfl ?_
    refine aj.icmp_geN (a := i) (b := n) (tgt := 26) dX11_isOrder_6 rfl e_n (by omega) (by omega) rfl (fun c6 => ?_) (fun c6 => ?_)
    · refine aj.iload_n dX11_isOrder_26 rfl ?_
      refine aj.iconst (v := 1) dX11_isOrder_27 rfl ?_
      refine aj.iload_n dX11_isOrder_28 rfl ?_
      refine aj.ishl dX11_isOrder_29 ?_
      refine aj.iconst (v := 1) dX11_isOrder_30 rfl ?_
      refine aj.isub dX11_isOrder_31 ?_
      refine aj.icmp_ne (tgt := 39) dX11_isOrder_32 rfl (fun c32 => ?_) (fun c32 => ?_)
      · refine aj.iconst (v := 0) dX11_isOrder_39 rfl ?_
        exact aj.zret (ty := .boolean) rfl rfl dX11_isOrder_40 ⟨by rw [zb_f (show ¬ isO n o by unfold isO; rw [← hz, ← e_n]; exact c32)], rfl⟩
      · refine aj.iconst (v := 1) dX11_isOrder_35 rfl ?_
        refine aj.goto (tgt := 40) dX11_isOrder_36 rfl ?_
        exact aj.zret (ty := .boolean) rfl rfl dX11_isOrder_40 ⟨by rw [zb_t (show isO n o by unfold isO; rw [← hz, ← e_n]; exact c32)], rfl⟩
    · exact absurd c6 (by omega)
  | succ m ih =>
    intro i z hin hz
    refine aj.iload_n dX11_isOrder_4 rfl ?_
    refine aj.iload_n dX11_isOrder_5 rfl ?_
    refine aj.icmp_geN (a := i) (b := n) (tgt := 26) dX11_isOrder_6 rfl e_n (by omega) (by omega) rfl (fun c6 => ?_) (fun c6 => ?_)
    · exact absurd c6 (by omega)
    · refine aj.iload_n dX11_isOrder_9 rfl ?_
      refine aj.iconst (v := 1) dX11_isOrder_10 rfl ?_
      refine aj.iload_n dX11_isOrder_11 rfl ?_
      refine aj.iload_n dX11_isOrder_12 rfl ?_
      refine aj.iload_n dX11_isOrder_13 rfl ?_
      refine aj.callS1 (d' := 0) (As := [.int x_o, .int x_n, .int (nI i)]) (rest := [.int 1, .int z]) dX11_isOrder_14 v_X11_325 w1179 rfl rfl (Nat.le_of_ble_eq_true rfl) (Nat.le_of_ble_eq_true rfl) (k_turnOf _ o e_o n e_n i rfl (by omega) (by omega) (by omega)) (fun M hM => ?_)
      subst hM
      have hdg := dg_lt n o i
      refine aj.ishl dX11_isOrder_17 ?_
      refine aj.ior dX11_isOrder_18 ?_
      refine aj.istore_n (lv' := [(2, .int (z ||| (1 <<< ((nI (dg n o i)) &&& 31)))), (3, .int (nI i)), (0, .int x_o), (1, .int x_n)]) dX11_isOrder_19 (Nat.le_of_ble_eq_true rfl) rfl ?_
      refine aj.iincN (a := i) (c := 1) (lv' := [(3, .int (nI (i + 1))), (2, .int (z ||| (1 <<< ((nI (dg n o i)) &&& 31)))), (0, .int x_o), (1, .int x_n)]) dX11_isOrder_20 rfl (Nat.le_of_ble_eq_true rfl) rfl rfl rfl ?_
      refine aj.goto (tgt := 4) dX11_isOrder_23 rfl ?_
      refine aj.pick [0, 1, 2, 3] rfl ?_
      exact ih (i + 1) _ (by omega) (by rw [hz]; rfl)
theorem k_isOrder {G : zG} {l : Launch} (M : zM) (o : Nat) {x_o : Int32} (e_o : x_o = nI o) (n : Nat) {x_n : Int32} (e_n : x_n = nI n) (hn : n ≤ 4) (ho : o < 2 ^ 31) : am G l kX11_isOrder 1 [.int x_o, .int x_n] M 0 0 (zr (.int (zb (isO n o))) (fun M' => M' = M)) := by
  refine am.of (by decide) (Nat.le_of_ble_eq_true rfl) ?_
  refine aj.iconst (v := 0) dX11_isOrder_0 rfl ?_
  refine aj.istore_n (lv' := [(2, .int 0), (0, .int x_o), (1, .int x_n)]) dX11_isOrder_1 (Nat.le_of_ble_eq_true rfl) rfl ?_
  refine aj.iconst (v := 0) dX11_isOrder_2 rfl ?_
  refine aj.istore_n (lv' := [(3, .int 0), (2, .int 0), (0, .int x_o), (1, .int x_n)]) dX11_isOrder_3 (Nat.le_of_ble_eq_true rfl) rfl ?_
  refine aj.pick [0, 1, 2, 3] rfl ?_
  exact isOrder_lp o e_o n e_n hn ho n 0 _ (by omega) rfl
theorem gainOf_lp {G : zG} {l : Launch} {a : Nat} {M0 M : zM} {V : Nat → Nat → Int32} {W : Nat → Nat → Int64} {R : Nat → Nat → Option Nat} (o : Nat) {x_o : Int32} (e_o : x_o = nI o) (n : Nat) {x_n : Int32} (e_n : x_n = nI n) (hn : n ≤ 4) (ho : o < 2 ^ 31) (hA : kA a M0 M V W R) : ∀ (m i : Nat) (z : Int32), i + m = n → z = zsum (fun t => V 56 (t * 4 + dg n o t)) i → aj G l kX11_gainOf 1 5 [(4, .int (nI i)), (3, .int z), (0, .ref a), (1, .int x_o), (2, .int x_n)] [] M 0 0 (zr (.int (zsum (fun t => V 56 (t * 4 + dg n o t)) n)) (fun M' => M' = M)) := by
  intro m
  induction m with
  | zero =>
    intro i z hin hz
    refine aj.iload dX11_gainOf_5 rfl ?_
    refine aj.iload_n dX11_gainOf_7 rfl ?_
    refine aj.icmp_geN (a := i) (b := n) (tgt := 43) dX11_gainOf_8 rfl e_n (by omega) (by omega) rfl (fun c8 => ?_) (fun c8 => ?_)
    · refine aj.iload_n dX11_gainOf_43 rfl ?_
      exact aj.iret rfl dX11_gainOf_44 ⟨by rw [hz, show i = n by omega], rfl⟩
    · exact absurd c8 (by omega)
  | succ m ih =>
    intro i z hin hz
    refine aj.iload dX11_gainOf_5 rfl ?_
    refine aj.iload_n dX11_gainOf_7 rfl ?_
    refine aj.icmp_geN (a := i) (b := n) (tgt := 43) dX11_gainOf_8 rfl e_n (by omega) (by omega) rfl (fun c8 => ?_) (fun c8 => ?_)
    · exact absurd c8 (by omega)
    · refine aj.iload dX11_gainOf_11 rfl ?_
      refine aj.iconst (v := 4) dX11_gainOf_13 rfl ?_
      refine aj.icmp_geN (a := i) (b := 4) (tgt := 43) dX11_gainOf_14 rfl rfl (by omega) (by omega) rfl (fun c14 => ?_) (fun c14 => ?_)
      · exact absurd c14 (by omega)
      · refine aj.iload_n dX11_gainOf_17 rfl ?_
        refine aj.aload_n dX11_gainOf_18 rfl ?_
        refine gX11_gains (i := 0) rfl hA w390 dX11_gainOf_19 ?_
        refine aj.iload dX11_gainOf_22 rfl ?_
        refine aj.iconst (v := 4) dX11_gainOf_24 rfl ?_
        refine aj.imulN (a := i) (b := 4) dX11_gainOf_25 rfl rfl ?_
        refine aj.iload_n dX11_gainOf_26 rfl ?_
        refine aj.iload_n dX11_gainOf_27 rfl ?_
        refine aj.iload dX11_gainOf_28 rfl ?_
        refine aj.callS1 (d' := 0) (As := [.int x_o, .int x_n, .int (nI i)]) (rest := [.int (nI (i * 4)), .ref (a + 56), .int z]) dX11_gainOf_30 v_X11_325 w1179 rfl rfl (Nat.le_of_ble_eq_true rfl) (Nat.le_of_ble_eq_true rfl) (k_turnOf _ o e_o n e_n i rfl (by omega) (by omega) (by omega)) (fun M hM => ?_)
        subst hM
        have hdg := dg_lt n o i
        refine aj.iaddN (a := i * 4) (b := dg n o i) dX11_gainOf_33 rfl rfl ?_
        refine aj.kL (i := 56) (j := (i * 4) + (dg n o i)) rfl dX11_gainOf_34 hA rfl (by omega) (by decide) ?_
        refine aj.iadd dX11_gainOf_35 ?_
        refine aj.istore_n (lv' := [(3, .int (z + (V 56 ((i * 4) + (dg n o i))))), (4, .int (nI i)), (0, .ref a), (1, .int x_o), (2, .int x_n)]) dX11_gainOf_36 (Nat.le_of_ble_eq_true rfl) rfl ?_
        refine aj.iincN (a := i) (c := 1) (lv' := [(4, .int (nI (i + 1))), (3, .int (z + (V 56 ((i * 4) + (dg n o i))))), (0, .ref a), (1, .int x_o), (2, .int x_n)]) dX11_gainOf_37 rfl (Nat.le_of_ble_eq_true rfl) rfl rfl rfl ?_
        refine aj.goto (tgt := 5) dX11_gainOf_40 rfl ?_
        refine aj.pick [0, 1, 2, 3, 4] rfl ?_
        exact ih (i + 1) _ (by omega) (by rw [hz]; rfl)
theorem k_gainOf {G : zG} {l : Launch} {a : Nat} {M0 M : zM} {V : Nat → Nat → Int32} {W : Nat → Nat → Int64} {R : Nat → Nat → Option Nat} (o : Nat) {x_o : Int32} (e_o : x_o = nI o) (n : Nat) {x_n : Int32} (e_n : x_n = nI n) (hn : n ≤ 4) (ho : o < 2 ^ 31) (hA : kA a M0 M V W R) : am G l kX11_gainOf 1 [.ref a, .int x_o, .int x_n] M 0 0 (zr (.int (zsum (fun t => V 56 (t * 4 + dg n o t)) n)) (fun M' => M' = M)) := by
  refine am.of (by decide) (Nat.le_of_ble_eq_true rfl) ?_
  refine aj.iconst (v := 0) dX11_gainOf_0 rfl ?_
  refine aj.istore_n (lv' := [(3, .int 0), (0, .ref a), (1, .int x_o), (2, .int x_n)]) dX11_gainOf_1 (Nat.le_of_ble_eq_true rfl) rfl ?_
  refine aj.iconst (v := 0) dX11_gainOf_2 rfl ?_
  refine aj.istore (lv' := [(4, .int 0), (3, .int 0), (0, .ref a), (1, .int x_o), (2, .int x_n)]) dX11_gainOf_3 (Nat.le_of_ble_eq_true rfl) rfl ?_
  refine aj.pick [0, 1, 2, 3, 4] rfl ?_
  exact gainOf_lp o e_o n e_n hn ho hA n 0 _ (by omega) rfl
theorem bestOrd_lp {G : zG} {l : Launch} {a : Nat} {M0 M : zM} {V : Nat → Nat → Int32} {W : Nat → Nat → Int64} {R : Nat → Nat → Option Nat} (n : Nat) {x_n : Int32} (e_n : x_n = nI n) (e : Nat) {x_e : Int32} (e_e : x_e = nI e) (hn : n ≤ 4) (he : e ≤ 256) (hA : kA a M0 M V W R) : ∀ (m i : Nat) (x y : Int32), i + m = e → zeC (fun o => zsum (fun t => V 56 (t * 4 + dg n o t)) n) (zedge (isO n) (fun o => zsum (fun t => V 56 (t * 4 + dg n o t)) n) i) x y → aj G l kX11_bestOrder 2 18 [(5, .int (nI i)), (2, .int x), (3, .int y), (4, .int x_e), (0, .ref a), (1, .int x_n)] [] M 0 0 (zr (.int (zon (zedge (isO n) (fun o => zsum (fun t => V 56 (t * 4 + dg n o t)) n) e))) (fun M' => M' = M)) := by
  intro m
  induction m with
  | zero =>
    intro i x y hin hz
    refine aj.iload dX11_bestOrder_18 rfl ?_
    refine aj.iload dX11_bestOrder_20 rfl ?_
    refine aj.icmp_geN (a := i) (b := e) (tgt := 66) dX11_bestOrder_22 rfl e_e (by omega) (by omega) rfl (fun c22 => ?_) (fun c22 => ?_)
    · refine aj.iload_n dX11_bestOrder_66 rfl ?_
      exact aj.iret rfl dX11_bestOrder_67 ⟨by rw [zeC_on hz, show i = e by omega], rfl⟩
    · exact absurd c22 (by omega)
  | succ m ih =>
    intro i x y hin hz
    refine aj.iload dX11_bestOrder_18 rfl ?_
    refine aj.iload dX11_bestOrder_20 rfl ?_
    refine aj.icmp_geN (a := i) (b := e) (tgt := 66) dX11_bestOrder_22 rfl e_e (by omega) (by omega) rfl (fun c22 => ?_) (fun c22 => ?_)
    · exact absurd c22 (by omega)
    · refine aj.iload dX11_bestOrder_25 rfl ?_
      refine aj.iload_n dX11_bestOrder_27 rfl ?_
      refine aj.callS1 (d' := 1) (As := [.int (nI i), .int x_n]) (rest := []) dX11_bestOrder_28 v_X11_446 w1176 rfl rfl (Nat.le_of_ble_eq_true rfl) (Nat.le_of_ble_eq_true rfl) (k_isOrder _ i rfl n e_n (by omega) (by omega)) (fun M hM => ?_)
      subst hM
      refine aj.if_eqB (tgt := 60) dX11_bestOrder_31 rfl (fun c31 => ?_) (fun c31 => ?_)
      · refine aj.iincN (a := i) (c := 1) (lv' := [(5, .int (nI (i + 1))), (2, .int x), (3, .int y), (4, .int x_e), (0, .ref a), (1, .int x_n)]) dX11_bestOrder_60 rfl (Nat.le_of_ble_eq_true rfl) rfl rfl rfl ?_
        refine aj.goto (tgt := 18) dX11_bestOrder_63 rfl ?_
        refine aj.pick [0, 1, 2, 3, 4, 5] rfl ?_
        exact ih (i + 1) _ _ (by omega) (by rw [zedge_s, if_neg c31]; exact hz)
      · refine aj.aload_n dX11_bestOrder_34 rfl ?_
        refine aj.iload dX11_bestOrder_35 rfl ?_
        refine aj.iload_n dX11_bestOrder_37 rfl ?_
        refine aj.callE1 (d' := 1) (As := [.int (nI i), .int x_n]) (rest := []) dX11_bestOrder_38 v_X11_322 li_X11_gainOf ⟨_, hA.ob (i := 0) rfl (by decide)⟩ rfl rfl rfl (Nat.le_of_ble_eq_true rfl) (Nat.le_of_ble_eq_true rfl) (k_gainOf i rfl n e_n (by omega) (by omega) hA) (fun M hM => ?_)
        subst hM
        refine aj.istore (lv' := [(6, .int (zsum (fun t => V 56 (t * 4 + dg n i t)) n)), (5, .int (nI i)), (2, .int x), (3, .int y), (4, .int x_e), (0, .ref a), (1, .int x_n)]) dX11_bestOrder_41 (Nat.le_of_ble_eq_true rfl) rfl ?_
        refine aj.iload_n dX11_bestOrder_43 rfl ?_
        refine aj.iconst (v := (-1)) dX11_bestOrder_44 rfl ?_
        refine aj.icmp_eq (tgt := 54) dX11_bestOrder_45 rfl (fun c45 => ?_) (fun c45 => ?_)
        · refine aj.iload dX11_bestOrder_54 rfl ?_
          refine aj.istore_n (lv' := [(2, .int (nI i)), (6, .int (zsum (fun t => V 56 (t * 4 + dg n i t)) n)), (5, .int (nI i)), (3, .int y), (4, .int x_e), (0, .ref a), (1, .int x_n)]) dX11_bestOrder_56 (Nat.le_of_ble_eq_true rfl) rfl ?_
          refine aj.iload dX11_bestOrder_57 rfl ?_
          refine aj.istore_n (lv' := [(3, .int (zsum (fun t => V 56 (t * 4 + dg n i t)) n)), (2, .int (nI i)), (6, .int (zsum (fun t => V 56 (t * 4 + dg n i t)) n)), (5, .int (nI i)), (4, .int x_e), (0, .ref a), (1, .int x_n)]) dX11_bestOrder_59 (Nat.le_of_ble_eq_true rfl) rfl ?_
          refine aj.iincN (a := i) (c := 1) (lv' := [(5, .int (nI (i + 1))), (3, .int (zsum (fun t => V 56 (t * 4 + dg n i t)) n)), (2, .int (nI i)), (6, .int (zsum (fun t => V 56 (t * 4 + dg n i t)) n)), (4, .int x_e), (0, .ref a), (1, .int x_n)]) dX11_bestOrder_60 rfl (Nat.le_of_ble_eq_true rfl) rfl rfl rfl ?_
          refine aj.goto (tgt := 18) dX11_bestOrder_63 rfl ?_
          refine aj.pick [0, 2, 1, 4, 5, 6] rfl ?_
          exact ih (i + 1) _ _ (by omega) (by rw [zedge_s, if_pos c31, zeC_n hz c45]; exact ⟨⟨rfl, by omega⟩, rfl⟩)
        · refine aj.iload dX11_bestOrder_48 rfl ?_
          refine aj.iload_n dX11_bestOrder_50 rfl ?_
          refine aj.icmp_le (tgt := 60) dX11_bestOrder_51 rfl (fun c51 => ?_) (fun c51 => ?_)
          · refine aj.iincN (a := i) (c := 1) (lv' := [(5, .int (nI (i + 1))), (6, .int (zsum (fun t => V 56 (t * 4 + dg n i t)) n)), (2, .int x), (3, .int y), (4, .int x_e), (0, .ref a), (1, .int x_n)]) dX11_bestOrder_60 rfl (Nat.le_of_ble_eq_true rfl) rfl rfl rfl ?_
            refine aj.goto (tgt := 18) dX11_bestOrder_63 rfl ?_
            refine aj.pick [0, 2, 3, 4, 5, 6] rfl ?_
            obtain ⟨k, hk, hy⟩ := zeC_s hz c45
            exact ih (i + 1) _ _ (by omega) (by rw [zedge_s, if_pos c31]; rw [hk] at hz ⊢; show zeC _ (if _ ≤ _ then _ else _) _ _; rw [if_pos (show zsum (fun t => V 56 (t * 4 + dg n i t)) n ≤ zsum (fun t => V 56 (t * 4 + dg n k t)) n by rw [← hy]; exact c51)]; exact hz)
          · refine aj.iload dX11_bestOrder_54 rfl ?_
            refine aj.istore_n (lv' := [(2, .int (nI i)), (6, .int (zsum (fun t => V 56 (t * 4 + dg n i t)) n)), (5, .int (nI i)), (3, .int y), (4, .int x_e), (0, .ref a), (1, .int x_n)]) dX11_bestOrder_56 (Nat.le_of_ble_eq_true rfl) rfl ?_
            refine aj.iload dX11_bestOrder_57 rfl ?_
            refine aj.istore_n (lv' := [(3, .int (zsum (fun t => V 56 (t * 4 + dg n i t)) n)), (2, .int (nI i)), (6, .int (zsum (fun t => V 56 (t * 4 + dg n i t)) n)), (5, .int (nI i)), (4, .int x_e), (0, .ref a), (1, .int x_n)]) dX11_bestOrder_59 (Nat.le_of_ble_eq_true rfl) rfl ?_
            refine aj.iincN (a := i) (c := 1) (lv' := [(5, .int (nI (i + 1))), (3, .int (zsum (fun t => V 56 (t * 4 + dg n i t)) n)), (2, .int (nI i)), (6, .int (zsum (fun t => V 56 (t * 4 + dg n i t)) n)), (4, .int x_e), (0, .ref a), (1, .int x_n)]) dX11_bestOrder_60 rfl (Nat.le_of_ble_eq_true rfl) rfl rfl rfl ?_
            refine aj.goto (tgt := 18) dX11_bestOrder_63 rfl ?_
            refine aj.pick [0, 2, 1, 4, 5, 6] rfl ?_
            obtain ⟨k, hk, hy⟩ := zeC_s hz c45
            exact ih (i + 1) _ _ (by omega) (by rw [zedge_s, if_pos c31]; rw [hk] at hz ⊢; show zeC _ (if _ ≤ _ then _ else _) _ _; rw [if_neg (show ¬ zsum (fun t => V 56 (t * 4 + dg n i t)) n ≤ zsum (fun t => V 56 (t * 4 + dg n k t)) n by rw [← hy]; exact c51)]; exact ⟨⟨rfl, by omega⟩, rfl⟩)
theorem end_of : ∀ n, n ≤ 4 → (1 : Int32) <<< (2 * iMin (nI n) 4 &&& 31) = nI (2 ^ (2 * n)) := by decide
theorem pow_of : ∀ n, n ≤ 4 → 2 ^ (2 * n) ≤ 256 := by decide
theorem k_bestOrder {G : zG} {l : Launch} {a : Nat} {M0 M : zM} {V : Nat → Nat → Int32} {W : Nat → Nat → Int64} {R : Nat → Nat → Option Nat} (n : Nat) {x_n : Int32} (e_n : x_n = nI n) (hn : n ≤ 4) (hA : kA a M0 M V W R) : am G l kX11_bestOrder 2 [.ref a, .int x_n] M 0 0 (zr (.int (zon (zedge (isO n) (fun o => zsum (fun t => V 56 (t * 4 + dg n o t)) n) (2 ^ (2 * n))))) (fun M' => M' = M)) := by
  refine am.of (by decide) (Nat.le_of_ble_eq_true rfl) ?_
  refine aj.iconst (v := (-1)) dX11_bestOrder_0 rfl ?_
  refine aj.istore_n (lv' := [(2, .int (-1)), (0, .ref a), (1, .int x_n)]) dX11_bestOrder_1 (Nat.le_of_ble_eq_true rfl) rfl ?_
  refine aj.iconst (v := 0) dX11_bestOrder_2 rfl ?_
  refine aj.istore_n (lv' := [(3, .int 0), (2, .int (-1)), (0, .ref a), (1, .int x_n)]) dX11_bestOrder_3 (Nat.le_of_ble_eq_true rfl) rfl ?_
  refine aj.iconst (v := 1) dX11_bestOrder_4 rfl ?_
  refine aj.iconst (v := 2) dX11_bestOrder_5 rfl ?_
  refine aj.iload_n dX11_bestOrder_6 rfl ?_
  refine aj.iconst (v := 4) dX11_bestOrder_7 rfl ?_
  refine aj.mmin dX11_bestOrder_8 w1068 (Nat.le_of_ble_eq_true rfl) (Nat.le_of_ble_eq_true rfl) ?_
  refine aj.imul dX11_bestOrder_11 ?_
  refine aj.ishl dX11_bestOrder_12 ?_
  refine aj.istore (lv' := [(4, .int (1 <<< ((2 * (iMin x_n 4)) &&& 31))), (3, .int 0), (2, .int (-1)), (0, .ref a), (1, .int x_n)]) dX11_bestOrder_13 (Nat.le_of_ble_eq_true rfl) rfl ?_
  refine aj.iconst (v := 0) dX11_bestOrder_15 rfl ?_
  refine aj.istore (lv' := [(5, .int 0), (4, .int (1 <<< ((2 * (iMin x_n 4)) &&& 31))), (3, .int 0), (2, .int (-1)), (0, .ref a), (1, .int x_n)]) dX11_bestOrder_16 (Nat.le_of_ble_eq_true rfl) rfl ?_
  refine aj.pick [0, 3, 2, 1, 4, 5] rfl ?_
  exact bestOrd_lp n e_n (2 ^ (2 * n)) (by rw [e_n]; exact end_of n hn) hn (pow_of n hn) hA (2 ^ (2 * n)) 0 _ 0 (by omega) rfl
def gnE (V V1 : Nat → Nat → Int32) : Prop := ∀ q, q ≠ 50 → q ≠ 51 → q ≠ 56 → q < 71 → V1 q = V q
theorem gn_v {V V1 V0 : Nat → Nat → Int32} (hE : gnE V V1) (hv : ∀ i, ¬ sc i → V i = V0 i) : ∀ i, ¬ sc i → V1 i = V0 i := fun i hi => by
  rw [hE i (fun e => hi (by subst e; decide)) (fun e => hi (by subst e; decide)) (fun e => hi (by subst e; decide)) (Nat.not_le.mp (fun e => hi (by unfold sc; omega)))]
  exact hv i hi
/-- the tables of all shooters -/
def tbA (B : Nat → Int32) (sl : Option (List Nat)) (V : Nat → Nat → Int32) : Prop := ∀ s, s < mN (B 6) → tbF B sl (B (13 + s)) (mN (B (21 + s))) (mN (B 26)) V (71 + 4 * s)
theorem tbA.of {B : Nat → Int32} {sl : Option (List Nat)} {V V1 : Nat → Nat → Int32} (h : tbA B sl V) (e : ∀ q, 71 ≤ q → V1 q = V q) : tbA B sl V1 := fun s hs => by
  unfold tbF
  rw [e _ (by omega), e _ (by omega), e _ (by omega)]
  exact h s hs
/-- the gains so far -/
def gnI (B : Nat → Int32) (sl ol : Option (List Nat)) (V : Nat → Nat → Int32) (n i j : Nat) : Prop := ∀ u s, u < n → s < n → (u < i ∨ (u = i ∧ s < j)) → V 56 (u * 4 + s) = mGain B sl ol u s
theorem gains_in {G : zG} {l : Launch} {a : Nat} {M0 : zM} {V : Nat → Nat → Int32} {W : Nat → Nat → Int64} {R : Nat → Nat → Option Nat} {B : Nat → Int32} {sl ol : Option (List Nat)} (n : Nat) {x_n : Int32} (e_n : x_n = nI n) (hn6 : n = mN (B 6)) (hn4 : n ≤ 4) {Q : Option Value → zM → Prop} {i : Nat} (hi : i < n) (hk : ∀ (V1 : Nat → Nat → Int32) (M : zM), tbA B sl V1 → gnE V V1 → gnI B sl ol V1 n i n → kA a M0 M V1 W R → aj G l kX11_tellGains 6 90 [(2, .int (nI i)), (0, .ref a), (1, .int x_n)] [] M 0 0 Q) : ∀ (m j : Nat) (V1 : Nat → Nat → Int32) (M : zM), j + m = n → tbA B sl V1 → gnE V V1 → gnI B sl ol V1 n i j → kA a M0 M V1 W R → aj G l kX11_tellGains 6 39 [(4, .int (nI j)), (3, .int (if mOpen ol (mN (B 26)) (mN (B 27) + i) (mN (B 25)) = true then B 5 else 0)), (2, .int (nI i)), (0, .ref a), (1, .int x_n)] [] M 0 0 Q := by
  intro m
  induction m with
  | zero =>
    intro j V1 M hin hT hE hI hA
    refine aj.iload dX11_tellGains_39 rfl ?_
    refine aj.iload_n dX11_tellGains_41 rfl ?_
    refine aj.icmp_geN (a := j) (b := n) (tgt := 90) dX11_tellGains_42 rfl e_n (by omega) (by omega) rfl (fun c42 => ?_) (fun c42 => ?_)
    · refine aj.pick [2, 3, 4] rfl ?_
      exact hk V1 M hT hE (fun u s hu hs hl => hI u s hu hs (by omega)) hA
    · exact absurd c42 (by omega)
  | succ m ih =>
    intro j V1 M hin hT hE hI hA
    have hks := kTb_j j (by omega)
    have hF := hT j (by omega)
    refine aj.iload dX11_tellGains_39 rfl ?_
    refine aj.iload_n dX11_tellGains_41 rfl ?_
    refine aj.icmp_geN (a := j) (b := n) (tgt := 90) dX11_tellGains_42 rfl e_n (by omega) (by omega) rfl (fun c42 => ?_) (fun c42 => ?_)
    · exact absurd c42 (by omega)
    · refine aj.iload dX11_tellGains_45 rfl ?_
      refine aj.iconst (v := 4) dX11_tellGains_47 rfl ?_
      refine aj.icmp_geN (a := j) (b := 4) (tgt := 90) dX11_tellGains_48 rfl rfl (by omega) (by omega) rfl (fun c48 => ?_) (fun c48 => ?_)
      · exact absurd c48 (by omega)
      · refine aj.aload_n dX11_tellGains_51 rfl ?_
        refine gX11_gains (i := 0) rfl hA w390 dX11_tellGains_52 ?_
        refine aj.iload_n dX11_tellGains_55 rfl ?_
        refine aj.iconst (v := 4) dX11_tellGains_56 rfl ?_
        refine aj.imulN (a := i) (b := 4) dX11_tellGains_57 rfl rfl ?_
        refine aj.iload dX11_tellGains_58 rfl ?_
        refine aj.iaddN (a := i * 4) (b := j) dX11_tellGains_60 rfl rfl ?_
        refine aj.aload_n dX11_tellGains_61 rfl ?_
        refine gX11_tables (i := 0) rfl hA w386 dX11_tellGains_62 ?_
        refine aj.iload dX11_tellGains_65 rfl ?_
        refine aj.kR70 (j := j) rfl dX11_tellGains_67 hA rfl (by omega) (by decide) ?_
        refine aj.aload_n dX11_tellGains_68 rfl ?_
        refine gX11_tables (i := 0) rfl hA w386 dX11_tellGains_69 ?_
        refine aj.iload dX11_tellGains_72 rfl ?_
        refine aj.kR70 (j := j) rfl dX11_tellGains_74 hA rfl (by omega) (by decide) ?_
        refine aj.iload_n dX11_tellGains_75 rfl ?_
        refine aj.callE1 (d' := 2) (As := [.int (if mOpen ol (mN (B 26)) (mN (B 27) + i) (mN (B 25)) = true then B 5 else 0)]) (rest := [.ref (a + (71 + 4 * j)), .int (nI ((i * 4) + j)), .ref (a + 56)]) dX11_tellGains_76 v_X11_240 li_X8_best ⟨_, hA.ob (i := (71 + 4 * j)) hks.1 (by decide)⟩ rfl rfl rfl (Nat.le_of_ble_eq_true rfl) (Nat.le_of_ble_eq_true rfl) (k_best (o := (71 + 4 * j)) hks (if mOpen ol (mN (B 26)) (mN (B 27) + i) (mN (B 25)) = true then B 5 else 0) hA) (fun M hM => ?_)
        subst hM
        have hz76 := zmax_le (tS V1 (71 + 4 * j) (if mOpen ol (mN (B 26)) (mN (B 27) + i) (mN (B 25)) = true then B 5 else 0)) 20
        refine aj.iload_n dX11_tellGains_79 rfl ?_
        refine aj.callE1 (d' := 1) (As := [.int (nI (zmax (tS V1 (71 + 4 * j) (if mOpen ol (mN (B 26)) (mN (B 27) + i) (mN (B 25)) = true then B 5 else 0)) 20)), .int (if mOpen ol (mN (B 26)) (mN (B 27) + i) (mN (B 25)) = true then B 5 else 0)]) (rest := [.int (nI ((i * 4) + j)), .ref (a + 56)]) dX11_tellGains_80 v_X11_230 li_X8_sum ⟨_, hA.ob (i := (71 + 4 * j)) hks.1 (by decide)⟩ rfl rfl rfl (Nat.le_of_ble_eq_true rfl) (Nat.le_of_ble_eq_true rfl) (k_sum (o := (71 + 4 * j)) hks (zmax (tS V1 (71 + 4 * j) (if mOpen ol (mN (B 26)) (mN (B 27) + i) (mN (B 25)) = true then B 5 else 0)) 20) rfl (if mOpen ol (mN (B 26)) (mN (B 27) + i) (mN (B 25)) = true then B 5 else 0) (by omega) hA) (fun M hM => ?_)
        subst hM
        refine aj.kS (i := 56) (j := (i * 4) + j) rfl dX11_tellGains_83 hA rfl (by omega) (by decide) (fun M hA => ?_)
        refine aj.iincN (a := j) (c := 1) (lv' := [(4, .int (nI (j + 1))), (3, .int (if mOpen ol (mN (B 26)) (mN (B 27) + i) (mN (B 25)) = true then B 5 else 0)), (2, .int (nI i)), (0, .ref a), (1, .int x_n)]) dX11_tellGains_84 rfl (Nat.le_of_ble_eq_true rfl) rfl rfl rfl ?_
        refine aj.goto (tgt := 39) dX11_tellGains_87 rfl ?_
        refine aj.pick [0, 1, 2, 3, 4] rfl ?_
        refine ih (j + 1) _ M (by omega) (hT.of (fun q hq => va_up_ne _ _ (by omega))) (fun q q0 q1 q2 q3 => by rw [va_up_ne _ _ q2]; exact hE q q0 q1 q2 q3) (fun u s hu hs hl => ?_) hA
        rw [va_up_self]
        by_cases e : u = i ∧ s = j
        · rw [e.1, e.2, pk_us]
          show _ = mSum B sl j (mN (B (21 + j))) (mOpen ol (mN (B 26)) (mN (B 27) + i) (mN (B 25)) = true) (mBest B sl j (mN (B (21 + j))) (mOpen ol (mN (B 26)) (mN (B 27) + i) (mN (B 25)) = true) 20) 10
          rw [tb_mBest hF, tb_mSum hF _ (zmax_le _ _)]
          rfl
        · rw [pk_un (by omega)]; exact hI u s hu hs (by omega)
theorem gains_out {G : zG} {l : Launch} {a : Nat} {M0 : zM} {V : Nat → Nat → Int32} {W : Nat → Nat → Int64} {R : Nat → Nat → Option Nat} {V0 : Nat → Nat → Int32} {T : Nat} {B : Nat → Int32} {sl ol : Option (List Nat)} {Tm : Nat} (n : Nat) {x_n : Int32} (e_n : x_n = nI n) (hn6 : n = mN (B 6)) (hn4 : n ≤ 4) (hH : cH a M0 V0 R T B sl ol Tm) (hv : ∀ i, ¬ sc i → V i = V0 i) : ∀ (m i : Nat) (V1 : Nat → Nat → Int32) (M : zM), i + m = n → tbA B sl V1 → gnE V V1 → gnI B sl ol V1 n i 0 → kA a M0 M V1 W R → aj G l kX11_tellGains 6 6 [(2, .int (nI i)), (0, .ref a), (1, .int x_n)] [] M 0 0 (zv (fun M' => ∃ V1, kA a M0 M' V1 W R ∧ gnE V V1 ∧ gnI B sl ol V1 n n 0)) := by
  obtain ⟨hT, hb, hS, hB⟩ := id hH
  have hd0 := (dLaw_of hB).1
  have hd1 := (dLaw_of hB).2
  have h25 := hB.2.2.2.2.2.1
  have h26 := hB.2.2.2.2.2.2.1
  have h27 := hB.2.2.2.2.2.2.2.1
  have h6 := hB.2.2.1
  have hag := hB.2.2.2.2.1
  have hTm := hB.2.2.2.2.2.2.2.2.1
  have h25b := h25.2
  have h26b := h26.2
  have h27b := h27.2
  have h6b := h6.2
  intro m
  induction m with
  | zero =>
    intro i V1 M hin hTt hE hI hA
    refine aj.iload_n dX11_tellGains_6 rfl ?_
    refine aj.iload_n dX11_tellGains_7 rfl ?_
    refine aj.icmp_geN (a := i) (b := n) (tgt := 96) dX11_tellGains_8 rfl e_n (by omega) (by omega) rfl (fun c8 => ?_) (fun c8 => ?_)
    · exact aj.vret rfl dX11_tellGains_96 ⟨rfl, V1, hA, hE, fun u s hu hs hl => hI u s hu hs (by omega)⟩
    · exact absurd c8 (by omega)
  | succ m ih =>
    intro i V1 M hin hTt hE hI hA
    have hv1 := gn_v hE hv
    refine aj.iload_n dX11_tellGains_6 rfl ?_
    refine aj.iload_n dX11_tellGains_7 rfl ?_
    refine aj.icmp_geN (a := i) (b := n) (tgt := 96) dX11_tellGains_8 rfl e_n (by omega) (by omega) rfl (fun c8 => ?_) (fun c8 => ?_)
    · exact absurd c8 (by omega)
    · refine aj.iload_n dX11_tellGains_11 rfl ?_
      refine aj.iconst (v := 4) dX11_tellGains_12 rfl ?_
      refine aj.icmp_geN (a := i) (b := 4) (tgt := 96) dX11_tellGains_13 rfl rfl (by omega) (by omega) rfl (fun c13 => ?_) (fun c13 => ?_)
      · exact absurd c13 (by omega)
      · refine aj.aload_n dX11_tellGains_16 rfl ?_
        refine aj.iload_n dX11_tellGains_17 rfl ?_
        refine aj.callE1 (d' := 3) (As := [.int (nI i)]) (rest := []) dX11_tellGains_18 v_X11_165 li_X11_isOpenIn ⟨_, hA.ob (i := 0) rfl (by decide)⟩ rfl rfl rfl (Nat.le_of_ble_eq_true rfl) (Nat.le_of_ble_eq_true rfl) (k_isOpenIn i rfl (by omega) hH hv1 hA) (fun M hM => ?_)
        obtain ⟨v1, v2, hA⟩ := hM
        refine aj.if_eqB (tgt := 34) dX11_tellGains_21 rfl (fun c21 => ?_) (fun c21 => ?_)
        · refine aj.iconst (v := 0) dX11_tellGains_34 rfl ?_
          refine aj.istore_n (lv' := [(3, .int 0), (2, .int (nI i)), (0, .ref a), (1, .int x_n)]) dX11_tellGains_35 (Nat.le_of_ble_eq_true rfl) rfl ?_
          refine aj.iconst (v := 0) dX11_tellGains_36 rfl ?_
          refine aj.istore (lv' := [(4, .int 0), (3, .int 0), (2, .int (nI i)), (0, .ref a), (1, .int x_n)]) dX11_tellGains_37 (Nat.le_of_ble_eq_true rfl) rfl ?_
          refine aj.pick [0, 1, 2, 3, 4] rfl ?_
          have hkk : ∀ (V2 : Nat → Nat → Int32) (M : zM), tbA B sl V2 → gnE V V2 → gnI B sl ol V2 n i n → kA a M0 M V2 W R → aj G l kX11_tellGains 6 90 [(2, .int (nI i)), (0, .ref a), (1, .int x_n)] [] M 0 0 (zv (fun M' => ∃ V1, kA a M0 M' V1 W R ∧ gnE V V1 ∧ gnI B sl ol V1 n n 0)) := by
            intro V2 M hTt hE hI hA
            refine aj.iincN (a := i) (c := 1) (lv' := [(2, .int (nI (i + 1))), (0, .ref a), (1, .int x_n)]) dX11_tellGains_90 rfl (Nat.le_of_ble_eq_true rfl) rfl rfl rfl ?_
            refine aj.goto (tgt := 6) dX11_tellGains_93 rfl ?_
            refine aj.pick [0, 1, 2] rfl ?_
            exact ih (i + 1) V2 M (by omega) hTt hE (fun u s hu hs hl => hI u s hu hs (by omega)) hA
          have key := gains_in (G := G) (l := l) (V := V) (W := W) (R := R) (M0 := M0) (a := a) (B := B) (sl := sl) (ol := ol) n e_n hn6 hn4 (i := i) (by omega) (Q := zv (fun M' => ∃ V1, kA a M0 M' V1 W R ∧ gnE V V1 ∧ gnI B sl ol V1 n n 0)) hkk n 0 _ M (by omega) (hTt.of (fun q hq => by rw [va_up_ne _ _ (by omega), va_up_ne _ _ (by omega)])) (fun q q0 q1 q2 q3 => by rw [va_up_ne _ _ q1, va_up_ne _ _ q0]; exact hE q q0 q1 q2 q3) (fun u s hu hs hl => by rw [va_up_ne _ _ (by decide), va_up_ne _ _ (by decide)]; exact hI u s hu hs hl) hA
          rw [if_neg c21] at key
          exact key
        · refine aj.aload_n dX11_tellGains_24 rfl ?_
          refine gT hT hA w378 dX11_tellGains_25 ?_
          refine gB_cost (hA.bw hb) w217 dX11_tellGains_28 ?_
          refine aj.goto (tgt := 35) dX11_tellGains_31 rfl ?_
          refine aj.istore_n (lv' := [(3, .int (B 5)), (2, .int (nI i)), (0, .ref a), (1, .int x_n)]) dX11_tellGains_35 (Nat.le_of_ble_eq_true rfl) rfl ?_
          refine aj.iconst (v := 0) dX11_tellGains_36 rfl ?_
          refine aj.istore (lv' := [(4, .int 0), (3, .int (B 5)), (2, .int (nI i)), (0, .ref a), (1, .int x_n)]) dX11_tellGains_37 (Nat.le_of_ble_eq_true rfl) rfl ?_
          refine aj.pick [0, 1, 2, 3, 4] rfl ?_
          have hkk : ∀ (V2 : Nat → Nat → Int32) (M : zM), tbA B sl V2 → gnE V V2 → gnI B sl ol V2 n i n → kA a M0 M V2 W R → aj G l kX11_tellGains 6 90 [(2, .int (nI i)), (0, .ref a), (1, .int x_n)] [] M 0 0 (zv (fun M' => ∃ V1, kA a M0 M' V1 W R ∧ gnE V V1 ∧ gnI B sl ol V1 n n 0)) := by
            intro V2 M hTt hE hI hA
            refine aj.iincN (a := i) (c := 1) (lv' := [(2, .int (nI (i + 1))), (0, .ref a), (1, .int x_n)]) dX11_tellGains_90 rfl (Nat.le_of_ble_eq_true rfl) rfl rfl rfl ?_
            refine aj.goto (tgt := 6) dX11_tellGains_93 rfl ?_
            refine aj.pick [0, 1, 2] rfl ?_
            exact ih (i + 1) V2 M (by omega) hTt hE (fun u s hu hs hl => hI u s hu hs (by omega)) hA
          have key := gains_in (G := G) (l := l) (V := V) (W := W) (R := R) (M0 := M0) (a := a) (B := B) (sl := sl) (ol := ol) n e_n hn6 hn4 (i := i) (by omega) (Q := zv (fun M' => ∃ V1, kA a M0 M' V1 W R ∧ gnE V V1 ∧ gnI B sl ol V1 n n 0)) hkk n 0 _ M (by omega) (hTt.of (fun q hq => by rw [va_up_ne _ _ (by omega), va_up_ne _ _ (by omega)])) (fun q q0 q1 q2 q3 => by rw [va_up_ne _ _ q1, va_up_ne _ _ q0]; exact hE q q0 q1 q2 q3) (fun u s hu hs hl => by rw [va_up_ne _ _ (by decide), va_up_ne _ _ (by decide)]; exact hI u s hu hs hl) hA
          rw [if_pos c21] at key
          exact key
theorem k_gains {G : zG} {l : Launch} {a : Nat} {M0 M : zM} {V : Nat → Nat → Int32} {W : Nat → Nat → Int64} {R : Nat → Nat → Option Nat} {V0 : Nat → Nat → Int32} {T : Nat} {B : Nat → Int32} {sl ol : Option (List Nat)} {Tm : Nat} (n : Nat) {x_n : Int32} (e_n : x_n = nI n) (hn6 : n = mN (B 6)) (hn4 : n ≤ 4) (hH : cH a M0 V0 R T B sl ol Tm) (hv : ∀ i, ¬ sc i → V i = V0 i) (hA : kA a M0 M V W R) : am G l kX11_tellGains 6 [.ref a, .int x_n] M 0 0 (zv (fun M' => ∃ V1, kA a M0 M' V1 W R ∧ gnE V V1 ∧ gnI B sl ol V1 n n 0)) := by
  have hv0 := hv
  obtain ⟨V00, eV0⟩ : ∃ z, z = V := ⟨_, rfl⟩
  refine am.of (by decide) (Nat.le_of_ble_eq_true rfl) ?_
  refine aj.aload_n dX11_tellGains_0 rfl ?_
  refine aj.callE0 (d' := 5) (As := []) (rest := []) dX11_tellGains_1 v_X11_300 li_X11_fillAllTables ⟨_, hA.ob (i := 0) rfl (by decide)⟩ rfl rfl rfl (Nat.le_of_ble_eq_true rfl) (Nat.le_of_ble_eq_true rfl) (k_fillAll hH hv hA) (fun M hM => ?_)
  obtain ⟨V, hA, hE, hTb⟩ := hM
  have hv := ta_v hE hv
  refine aj.iconst (v := 0) dX11_tellGains_4 rfl ?_
  refine aj.istore_n (lv' := [(2, .int 0), (0, .ref a), (1, .int x_n)]) dX11_tellGains_5 (Nat.le_of_ble_eq_true rfl) rfl ?_
  refine aj.pick [0, 1, 2] rfl ?_
  exact gains_out n e_n hn6 hn4 hH hv0 n 0 V M (by omega) hTb (fun q q0 q1 _ q3 => hE q q0 q1 q3) (fun u s hu hs hl => absurd hl (by omega)) hA
theorem q10 {q : Int32} (h : 10 ≤ q.toInt) : (q - 10).toInt = q.toInt - 10 := by
  have h2 := q.toInt_lt
  rw [Int32.toInt_sub, show (10 : Int32).toInt = 10 from rfl]
  exact Int.bmod_eq_of_le (by omega) (by omega)
theorem ord_ok {q : Int32} {n : Nat} (hn : n ≤ 4) (h1 : ¬ q < 10) (h2 : q < nI (10 + n)) : 10 ≤ q ∧ inR (q - 10) 0 ((n : Int) - 1) := by
  rw [Int32.lt_iff_toInt_lt, show (10 : Int32).toInt = 10 from rfl] at h1
  rw [Int32.lt_iff_toInt_lt, nI_toInt (by omega)] at h2
  have e := q10 (q := q) (by omega)
  refine ⟨by rw [Int32.le_iff_toInt_le, show (10 : Int32).toInt = 10 from rfl]; omega, ?_⟩
  unfold inR
  rw [e]
  omega
theorem ord_no {q : Int32} {n : Nat} (hn : n ≤ 4) (h0 : ¬ q = 0) (h : q < 10 ∨ ¬ q < nI (10 + n)) : ¬ (q = 0 ∨ (10 ≤ q ∧ inR (q - 10) 0 ((n : Int) - 1))) := by
  rintro (z | ⟨z1, z2⟩)
  · exact h0 z
  · rw [Int32.le_iff_toInt_le, show (10 : Int32).toInt = 10 from rfl] at z1
    have e := q10 (q := q) z1
    unfold inR at z2
    rw [e] at z2
    rcases h with h | h
    · rw [Int32.lt_iff_toInt_lt, show (10 : Int32).toInt = 10 from rfl] at h; omega
    · rw [Int32.lt_iff_toInt_lt, nI_toInt (by omega)] at h; omega
theorem dgs_at {n k t : Nat} (ht : t < n) : (dgs n k).getD t 0 = dg n k t := by
  unfold dgs
  rw [List.getD_eq_getElem?_getD, List.getElem?_map, List.getElem?_range ht]
  rfl
theorem p_order {G : zG} {l : Launch} {a : Nat} {M0 M : zM} {V0 : Nat → Nat → Int32} {W0 : Nat → Nat → Int64} {R : Nat → Nat → Option Nat} {T : Nat} {B : Nat → Int32} {sl ol : Option (List Nat)} {Tm : Nat} (q : Int32) (hM : kW a M0 M V0 W0 R) (hH : cH a M0 V0 R T B sl ol Tm)  : am G l kX11_order 7 [.ref a, .int q] M 0 0 (zr (.int (if (q = 0 ∨ (10 ≤ q ∧ inR (q - 10) 0 ((mN (B 6) : Int) - 1))) then (if q = 0 then oG (mGain B sl ol) 0 (mOrd (mGain B sl ol) (mN (B 6))) else nI ((mOrd (mGain B sl ol) (mN (B 6))).getD (mN (q - 10)) 0)) else -99000002)) (fun M' => kW a M0 M' V0 W0 R)) := by
  obtain ⟨V, W, hA, hv, hw⟩ := hM
  obtain ⟨hT, hb, hS, hB⟩ := id hH
  have hd0 := (dLaw_of hB).1
  have hd1 := (dLaw_of hB).2
  have h25 := hB.2.2.2.2.2.1
  have h26 := hB.2.2.2.2.2.2.1
  have h27 := hB.2.2.2.2.2.2.2.1
  have h6 := hB.2.2.1
  have hag := hB.2.2.2.2.1
  have hTm := hB.2.2.2.2.2.2.2.2.1
  have h25b := h25.2
  have h26b := h26.2
  have h27b := h27.2
  have h6b := h6.2
  refine am.of (by decide) (Nat.le_of_ble_eq_true rfl) ?_
  refine aj.aload_n dX11_order_0 rfl ?_
  refine gT hT hA w378 dX11_order_1 ?_
  refine gB_shooterCount (hA.bw hb) w226 dX11_order_4 ?_
  refine aj.istore_n (lv' := [(2, .int (B 6)), (0, .ref a), (1, .int q)]) dX11_order_7 (Nat.le_of_ble_eq_true rfl) rfl ?_
  refine aj.iload_n dX11_order_8 rfl ?_
  refine aj.if_eq (tgt := 29) dX11_order_9 rfl (fun c9 => ?_) (fun c9 => ?_)
  · refine aj.aload_n dX11_order_29 rfl ?_
    refine aj.iload_n dX11_order_30 rfl ?_
    refine aj.callE0 (d' := 6) (As := [.int (B 6)]) (rest := []) dX11_order_31 v_X11_316 li_X11_tellGains ⟨_, hA.ob (i := 0) rfl (by decide)⟩ rfl rfl rfl (Nat.le_of_ble_eq_true rfl) (Nat.le_of_ble_eq_true rfl) (k_gains (mN (B 6)) h6.1 rfl h6b hH hv hA) (fun M hM => ?_)
    obtain ⟨V, hA, hE, hGn⟩ := hM
    have hv := gn_v hE hv
    refine aj.aload_n dX11_order_34 rfl ?_
    refine aj.iload_n dX11_order_35 rfl ?_
    refine aj.callE1 (d' := 2) (As := [.int (B 6)]) (rest := []) dX11_order_36 v_X11_319 li_X11_bestOrder ⟨_, hA.ob (i := 0) rfl (by decide)⟩ rfl rfl rfl (Nat.le_of_ble_eq_true rfl) (Nat.le_of_ble_eq_true rfl) (k_bestOrder (mN (B 6)) h6.1 h6b hA) (fun M hM => ?_)
    subst hM
    obtain ⟨k, hk1, hk2, hk3, hk4⟩ := ord_of (mGain B sl ol) h6b (g := fun o => zsum (fun t => V 56 (t * 4 + dg (mN (B 6)) o t)) (mN (B 6))) (fun o ho hO => zsum_congr (fun t ht => hGn t _ ht (isO_lt h6b o ho hO t ht) (Or.inl ht)))
    have hk5 := pow_of _ h6b
    rw [hk1]
    show aj G l kX11_order 7 39 _ [.int (nI k)] M 0 0 _
    refine aj.istore_n (lv' := [(3, .int (nI k)), (2, .int (B 6)), (0, .ref a), (1, .int q)]) dX11_order_39 (Nat.le_of_ble_eq_true rfl) rfl ?_
    refine aj.iload_n dX11_order_40 rfl ?_
    refine aj.if_ne (tgt := 53) dX11_order_41 rfl (fun c41 => ?_) (fun c41 => ?_)
    · exact absurd c9 c41
    · refine aj.aload_n dX11_order_44 rfl ?_
      refine aj.iload_n dX11_order_45 rfl ?_
      refine aj.iload_n dX11_order_46 rfl ?_
      refine aj.callE1 (d' := 1) (As := [.int (nI k), .int (B 6)]) (rest := []) dX11_order_47 v_X11_322 li_X11_gainOf ⟨_, hA.ob (i := 0) rfl (by decide)⟩ rfl rfl rfl (Nat.le_of_ble_eq_true rfl) (Nat.le_of_ble_eq_true rfl) (k_gainOf k rfl (mN (B 6)) h6.1 (by omega) (by omega) hA) (fun M hM => ?_)
      subst hM
      refine aj.goto (tgt := 62) dX11_order_50 rfl ?_
      exact aj.iret rfl dX11_order_62 ⟨by rw [if_pos (Or.inl c41), if_pos c41, ← hk4]; exact congrArg (fun z => some (Value.int z)) ((zsum_congr (fun t ht => hGn t _ ht (isO_lt h6b k hk2 hk3 t ht) (Or.inl ht))).trans (oG_range (mGain B sl ol) (dg (mN (B 6)) k) (mN (B 6))).symm), ⟨_, _, hA, hv, hw⟩⟩
  · refine aj.iload_n dX11_order_12 rfl ?_
    refine aj.bipush (v := 10) dX11_order_13 rfl ?_
    refine aj.icmp_lt (tgt := 26) dX11_order_15 rfl (fun c15 => ?_) (fun c15 => ?_)
    · refine aj.ldc dX11_order_26 w738 ?_
      exact aj.iret rfl dX11_order_28 ⟨by rw [if_neg (ord_no h6b c9 (Or.inl c15))], ⟨_, _, hA, hv, hw⟩⟩
    · refine aj.iload_n dX11_order_18 rfl ?_
      refine aj.bipush (v := 10) dX11_order_19 rfl ?_
      refine aj.iload_n dX11_order_21 rfl ?_
      refine aj.iaddN (a := 10) (b := mN (B 6)) dX11_order_22 rfl h6.1 ?_
      refine aj.icmp_lt (tgt := 29) dX11_order_23 rfl (fun c23 => ?_) (fun c23 => ?_)
      · have hok := ord_ok h6b c15 c23
        have hq10 := inR_bdS hok.2 (by omega)
        have hq10b := hq10.2
        refine aj.aload_n dX11_order_29 rfl ?_
        refine aj.iload_n dX11_order_30 rfl ?_
        refine aj.callE0 (d' := 6) (As := [.int (B 6)]) (rest := []) dX11_order_31 v_X11_316 li_X11_tellGains ⟨_, hA.ob (i := 0) rfl (by decide)⟩ rfl rfl rfl (Nat.le_of_ble_eq_true rfl) (Nat.le_of_ble_eq_true rfl) (k_gains (mN (B 6)) h6.1 rfl h6b hH hv hA) (fun M hM => ?_)
        obtain ⟨V, hA, hE, hGn⟩ := hM
        have hv := gn_v hE hv
        refine aj.aload_n dX11_order_34 rfl ?_
        refine aj.iload_n dX11_order_35 rfl ?_
        refine aj.callE1 (d' := 2) (As := [.int (B 6)]) (rest := []) dX11_order_36 v_X11_319 li_X11_bestOrder ⟨_, hA.ob (i := 0) rfl (by decide)⟩ rfl rfl rfl (Nat.le_of_ble_eq_true rfl) (Nat.le_of_ble_eq_true rfl) (k_bestOrder (mN (B 6)) h6.1 h6b hA) (fun M hM => ?_)
        subst hM
        obtain ⟨k, hk1, hk2, hk3, hk4⟩ := ord_of (mGain B sl ol) h6b (g := fun o => zsum (fun t => V 56 (t * 4 + dg (mN (B 6)) o t)) (mN (B 6))) (fun o ho hO => zsum_congr (fun t ht => hGn t _ ht (isO_lt h6b o ho hO t ht) (Or.inl ht)))
        have hk5 := pow_of _ h6b
        rw [hk1]
        show aj G l kX11_order 7 39 _ [.int (nI k)] M 0 0 _
        refine aj.istore_n (lv' := [(3, .int (nI k)), (2, .int (B 6)), (0, .ref a), (1, .int q)]) dX11_order_39 (Nat.le_of_ble_eq_true rfl) rfl ?_
        refine aj.iload_n dX11_order_40 rfl ?_
        refine aj.if_ne (tgt := 53) dX11_order_41 rfl (fun c41 => ?_) (fun c41 => ?_)
        · refine aj.iload_n dX11_order_53 rfl ?_
          refine aj.iload_n dX11_order_54 rfl ?_
          refine aj.iload_n dX11_order_55 rfl ?_
          refine aj.bipush (v := 10) dX11_order_56 rfl ?_
          refine aj.isub dX11_order_58 ?_
          refine aj.callS1 (d' := 0) (As := [.int (nI k), .int (B 6), .int (q - 10)]) (rest := []) dX11_order_59 v_X11_325 w1179 rfl rfl (Nat.le_of_ble_eq_true rfl) (Nat.le_of_ble_eq_true rfl) (k_turnOf _ k rfl (mN (B 6)) h6.1 (mN (q - 10)) hq10.1 (by omega) (by omega) (by omega)) (fun M hM => ?_)
          subst hM
          have hdg := dg_lt (mN (B 6)) k (mN (q - 10))
          exact aj.iret rfl dX11_order_62 ⟨by rw [if_pos (Or.inr hok), if_neg c41, ← hk4, dgs_at (by omega)], ⟨_, _, hA, hv, hw⟩⟩
        · exact absurd c41 c9
      · refine aj.ldc dX11_order_26 w738 ?_
        exact aj.iret rfl dX11_order_28 ⟨by rw [if_neg (ord_no h6b c9 (Or.inr c23))], ⟨_, _, hA, hv, hw⟩⟩
