theorem dLaw_of {B : Nat → Int32} {sl ol : Option (List Nat)} {T : Nat} (h : mOK B sl ol T) : dLaw sl false [0, 1, 2, 3, 4] ∧ dLaw ol true [0, 5, 6] := by
  obtain ⟨-, -, -, -, -, -, -, -, -, h0, h1⟩ := h
  refine ⟨fun cs e => ?_, fun cs e => ?_⟩
  · subst e; exact ⟨h0.2.1.2.2, h0.2.2⟩
  · subst e; exact ⟨h1.2.1.2.2, h1.2.2⟩
section SR
variable {a : Nat} {M0 M : zM} {V : Nat → Nat → Int32} {W : Nat → Nat → Int64} {R : Nat → Nat → Option Nat} {t : Nat} {B : Nat → Int32} {sl ol : Option (List Nat)} {cs : List Nat} {G : zG} {l : Launch} {k : zY} {d pc bc bs : Nat} {lv : List (Nat × Value)} {st : List Value} {Q : Option Value → zM → Prop}
theorem gB_straysN {idx : Nat} (hA : kA a M0 M V W R) (hb : bW a M0 t B none ol) (hl : Cond.fieldLink k.1.cls idx (TX0 9).1 (TX0 9).2.1 (TX0 9).2.2.1 ∈ z_W) (hd : decode k.2.1 pc = .ok (.getfield idx, 3)) (h : aj G l k d (pc + 3) lv (.null :: st) M bc bs Q) : aj G l k d pc lv (.ref t :: st) M bc bs Q := by
  refine gB_strays (hA.bw hb) hl hd (fun p hp => ?_)
  match p, hp with
  | none, _ => exact h
theorem gB_straysS {idx : Nat} (hA : kA a M0 M V W R) (hb : bW a M0 t B (some cs) ol) (hl : Cond.fieldLink k.1.cls idx (TX0 9).1 (TX0 9).2.1 (TX0 9).2.2.1 ∈ z_W) (hd : decode k.2.1 pc = .ok (.getfield idx, 3)) (h : ∀ lp lq, kOut a lp → kOut a lq → M0.1 lp = some (.inr (2, [.ref lq, .int (zb (1004 ∈ cs))])) → ia M0 lq cs.length (fun j => enc (cs.getD j 0)) → cs.length < 2 ^ 31 → aj G l k d (pc + 3) lv (.ref lp :: st) M bc bs Q) : aj G l k d pc lv (.ref t :: st) M bc bs Q := by
  obtain ⟨y, wd, l1, l2, h1, h2, h3, h4, h5, h6⟩ := hb
  refine aj.get (i := 9) (cq := (RX0, TX0, 11)) hd ((hA.2.1 t h1).trans h3) rfl (Nat.le_of_ble_eq_true rfl) hl rfl ?_
  match l1, h5 with
  | some lp, hp =>
    obtain ⟨q, g1, g2, g3, g4, g5⟩ := hp
    exact h lp q g1 g2 g3 g4 g5
theorem gB_opensN {idx : Nat} (hA : kA a M0 M V W R) (hb : bW a M0 t B sl none) (hl : Cond.fieldLink k.1.cls idx (TX0 10).1 (TX0 10).2.1 (TX0 10).2.2.1 ∈ z_W) (hd : decode k.2.1 pc = .ok (.getfield idx, 3)) (h : aj G l k d (pc + 3) lv (.null :: st) M bc bs Q) : aj G l k d pc lv (.ref t :: st) M bc bs Q := by
  refine gB_opens (hA.bw hb) hl hd (fun p hp => ?_)
  match p, hp with
  | none, _ => exact h
theorem gB_opensS {idx : Nat} (hA : kA a M0 M V W R) (hb : bW a M0 t B sl (some cs)) (hl : Cond.fieldLink k.1.cls idx (TX0 10).1 (TX0 10).2.1 (TX0 10).2.2.1 ∈ z_W) (hd : decode k.2.1 pc = .ok (.getfield idx, 3)) (h : ∀ lp lq, kOut a lp → kOut a lq → M0.1 lp = some (.inr (2, [.ref lq, .int (zb (1004 ∈ cs))])) → ia M0 lq cs.length (fun j => enc (cs.getD j 0)) → cs.length < 2 ^ 31 → aj G l k d (pc + 3) lv (.ref lp :: st) M bc bs Q) : aj G l k d pc lv (.ref t :: st) M bc bs Q := by
  obtain ⟨y, wd, l1, l2, h1, h2, h3, h4, h5, h6⟩ := hb
  refine aj.get (i := 10) (cq := (RX0, TX0, 11)) hd ((hA.2.1 t h1).trans h3) rfl (Nat.le_of_ble_eq_true rfl) hl rfl ?_
  match l2, h6 with
  | some lp, hp =>
    obtain ⟨q, g1, g2, g3, g4, g5⟩ := hp
    exact h lp q g1 g2 g3 g4 g5
end SR
theorem wS_ok {f : Nat → Int32} {sh : Int32} {age wd aim lot : Nat} : ∀ w ∈ [0, 1, 2, 3, 4], (upd (upd (upd (upd (upd f 0 (nI lot)) 1 sh) 2 (nI (min age 9))) 3 (nI aim)) 4 (nI wd)) (cwN w) = wS wd lot sh age aim w := by
  intro w hw
  simp only [List.mem_cons, List.not_mem_nil, or_false] at hw
  rcases hw with rfl | rfl | rfl | rfl | rfl <;> rfl
theorem wO_ok {f : Nat → Int32} {wd mi hu : Nat} : ∀ w ∈ [0, 5, 6], (upd (upd (upd f 5 (nI mi)) 6 (nI (min hu 9))) 4 (nI wd)) (cwN w) = wO wd mi hu w := by
  intro w hw
  simp only [List.mem_cons, List.not_mem_nil, or_false] at hw
  rcases hw with rfl | rfl | rfl <;> rfl
theorem z_and1 {n : Nat} (h : n < 2 ^ 31) : nI n &&& 1 = nI (n % 2) := pk_andN (k := 1) (by omega) (by decide)
theorem k_strayN {G : zG} {l : Launch} {a : Nat} {M0 M : zM} {V : Nat → Nat → Int32} {W : Nat → Nat → Int64} {R : Nat → Nat → Option Nat} {t : Nat} {B : Nat → Int32} {ol : Option (List Nat)} (sh : Int32) (age : Nat) {x_age : Int32} (e_age : x_age = nI age) (wd : Nat) {x_wd : Int32} (e_wd : x_wd = nI wd) (aim : Nat) {x_aim : Int32} (e_aim : x_aim = nI aim) (lot : Nat) {x_lot : Int32} (e_lot : x_lot = nI lot) (hage : age < 2 ^ 31) (hb : bW a M0 t B none ol) (hA : kA a M0 M V W R) : am G l kX4_stray 3 [.ref (a + 49), .ref t, .int sh, .int x_age, .int x_wd, .int x_aim, .int x_lot] M 0 0 (zr (.int (mKept (mStray none sh age wd aim lot) (-9) 9)) (fun M' => ∃ v v', kA a M0 M' (va_up (va_up V 50 v) 51 v') W R)) := by
  refine am.of (by decide) (Nat.le_of_ble_eq_true rfl) ?_
  refine aj.aload_n dX4_stray_0 rfl ?_
  refine gB_straysN hA hb w229 dX4_stray_1 ?_
  refine aj.ifnonnullN dX4_stray_4 ?_
  refine aj.iload dX4_stray_7 rfl ?_
  refine aj.iconst (v := 5) dX4_stray_9 rfl ?_
  refine aj.isub dX4_stray_10 ?_
  refine aj.iload_n dX4_stray_11 rfl ?_
  refine aj.imul dX4_stray_12 ?_
  refine aj.iconst (v := 5) dX4_stray_13 rfl ?_
  refine aj.idiv dX4_stray_14 (by decide) ?_
  refine aj.callS1 (d' := 1) (As := [.int (((x_lot - 5) * sh) / 5)]) (rest := []) dX4_stray_15 v_X4_26 w768 rfl rfl (Nat.le_of_ble_eq_true rfl) (Nat.le_of_ble_eq_true rfl) (k_held _ (((x_lot - 5) * sh) / 5)) (fun M hM => ?_)
  subst hM
  exact aj.iret rfl dX4_stray_18 ⟨by rw [e_lot]; rfl, ⟨V 50, V 51, by rw [va_upI, va_upI]; exact hA⟩⟩
theorem k_strayS {G : zG} {l : Launch} {a : Nat} {M0 M : zM} {V : Nat → Nat → Int32} {W : Nat → Nat → Int64} {R : Nat → Nat → Option Nat} {t : Nat} {B : Nat → Int32} {cs : List Nat} {ol : Option (List Nat)} (sh : Int32) (age : Nat) {x_age : Int32} (e_age : x_age = nI age) (wd : Nat) {x_wd : Int32} (e_wd : x_wd = nI wd) (aim : Nat) {x_aim : Int32} (e_aim : x_aim = nI aim) (lot : Nat) {x_lot : Int32} (e_lot : x_lot = nI lot) (hage : age < 2 ^ 31) (hb : bW a M0 t B (some cs) ol) (hd : dLaw (some cs) false [0, 1, 2, 3, 4]) (hA : kA a M0 M V W R) : am G l kX4_stray 3 [.ref (a + 49), .ref t, .int sh, .int x_age, .int x_wd, .int x_aim, .int x_lot] M 0 0 (zr (.int (mKept (mStray (some cs) sh age wd aim lot) (-9) 9)) (fun M' => ∃ v v', kA a M0 M' (va_up (va_up V 50 v) 51 v') W R)) := by
  have hd0 := hd cs rfl
  refine am.of (by decide) (Nat.le_of_ble_eq_true rfl) ?_
  refine aj.aload_n dX4_stray_0 rfl ?_
  refine gB_straysS hA hb w229 dX4_stray_1 (fun lp lq hpo hqo hp hq hn31 => ?_)
  refine aj.ifnonnull (tgt := 19) dX4_stray_4 rfl ?_
  refine aj.aload_n dX4_stray_19 rfl ?_
  refine gX4_words (i := 49) rfl hA w312 dX4_stray_20 ?_
  refine aj.iconst (v := 0) dX4_stray_23 rfl ?_
  refine aj.iload dX4_stray_24 rfl ?_
  refine aj.kS (i := 50) (j := 0) rfl dX4_stray_26 hA rfl (by omega) (by decide) (fun M hA => ?_)
  refine aj.aload_n dX4_stray_27 rfl ?_
  refine gX4_words (i := 49) rfl hA w312 dX4_stray_28 ?_
  refine aj.iconst (v := 1) dX4_stray_31 rfl ?_
  refine aj.iload_n dX4_stray_32 rfl ?_
  refine aj.kS (i := 50) (j := 1) rfl dX4_stray_33 hA rfl (by omega) (by decide) (fun M hA => ?_)
  rw [bx_uu, va_up_self] at hA
  refine aj.aload_n dX4_stray_34 rfl ?_
  refine gX4_words (i := 49) rfl hA w312 dX4_stray_35 ?_
  refine aj.iconst (v := 2) dX4_stray_38 rfl ?_
  refine aj.iload_n dX4_stray_39 rfl ?_
  refine aj.bipush (v := 9) dX4_stray_40 rfl ?_
  refine aj.mmin dX4_stray_42 w770 (Nat.le_of_ble_eq_true rfl) (Nat.le_of_ble_eq_true rfl) ?_
  refine aj.kS (i := 50) (j := 2) rfl dX4_stray_45 hA rfl (by omega) (by decide) (fun M hA => ?_)
  rw [bx_uu, va_up_self] at hA
  refine aj.aload_n dX4_stray_46 rfl ?_
  refine gX4_words (i := 49) rfl hA w312 dX4_stray_47 ?_
  refine aj.iconst (v := 3) dX4_stray_50 rfl ?_
  refine aj.iload dX4_stray_51 rfl ?_
  refine aj.kS (i := 50) (j := 3) rfl dX4_stray_53 hA rfl (by omega) (by decide) (fun M hA => ?_)
  rw [bx_uu, va_up_self] at hA
  refine aj.aload_n dX4_stray_54 rfl ?_
  refine gX4_words (i := 49) rfl hA w312 dX4_stray_55 ?_
  refine aj.iconst (v := 4) dX4_stray_58 rfl ?_
  refine aj.iload dX4_stray_59 rfl ?_
  refine aj.kS (i := 50) (j := 4) rfl dX4_stray_61 hA rfl (by omega) (by decide) (fun M hA => ?_)
  rw [bx_uu, va_up_self] at hA
  refine aj.aload_n dX4_stray_62 rfl ?_
  refine gB_straysS hA hb w229 dX4_stray_63 (fun lp lq hpo hqo hp hq hn31 => ?_)
  refine aj.aload_n dX4_stray_66 rfl ?_
  refine gX4_words (i := 49) rfl hA w312 dX4_stray_67 ?_
  refine aj.aload_n dX4_stray_70 rfl ?_
  refine gX4_stack (i := 49) rfl hA w313 dX4_stray_71 ?_
  refine aj.callE1 (d' := 1) (As := [.ref (a + 50), .ref (a + 51)]) (rest := []) dX4_stray_74 v_X4_36 li_X2_tell ⟨_, (hA.2.1 lp hpo).trans hp⟩ rfl rfl rfl (Nat.le_of_ble_eq_true rfl) (Nat.le_of_ble_eq_true rfl) (k_tell (w0 := wS wd lot sh age aim) hpo hqo hp hq hn31 (fun c hc h5 h6 => by rw [va_up_self, e_lot, e_age, show (9 : Int32) = nI 9 from rfl, iMin_N hage (by decide), e_aim, e_wd]; exact wS_ok _ (hd0.2 c hc h5 h6)) hd0.1 hA) (fun M hM => ?_)
  obtain ⟨v', hA⟩ := hM
  refine aj.callS1 (d' := 1) (As := [.int (mStray (some cs) sh age wd aim lot)]) (rest := []) dX4_stray_77 v_X4_26 w768 rfl rfl (Nat.le_of_ble_eq_true rfl) (Nat.le_of_ble_eq_true rfl) (k_held _ (mStray (some cs) sh age wd aim lot)) (fun M hM => ?_)
  subst hM
  exact aj.iret rfl dX4_stray_80 ⟨rfl, ⟨_, _, hA⟩⟩
theorem k_stray {G : zG} {l : Launch} {a : Nat} {M0 M : zM} {V : Nat → Nat → Int32} {W : Nat → Nat → Int64} {R : Nat → Nat → Option Nat} {t : Nat} {B : Nat → Int32} {sl ol : Option (List Nat)} (sh : Int32) (age : Nat) {x_age : Int32} (e_age : x_age = nI age) (wd : Nat) {x_wd : Int32} (e_wd : x_wd = nI wd) (aim : Nat) {x_aim : Int32} (e_aim : x_aim = nI aim) (lot : Nat) {x_lot : Int32} (e_lot : x_lot = nI lot) (hage : age < 2 ^ 31) (hb : bW a M0 t B sl ol) (hd : dLaw sl false [0, 1, 2, 3, 4]) (hA : kA a M0 M V W R) : am G l kX4_stray 3 [.ref (a + 49), .ref t, .int sh, .int x_age, .int x_wd, .int x_aim, .int x_lot] M 0 0 (zr (.int (mKept (mStray sl sh age wd aim lot) (-9) 9)) (fun M' => ∃ v v', kA a M0 M' (va_up (va_up V 50 v) 51 v') W R)) := by
  cases sl with
  | none => exact k_strayN sh age e_age wd e_wd aim e_aim lot e_lot hage hb hA
  | some cs => exact k_strayS sh age e_age wd e_wd aim e_aim lot e_lot hage hb hd hA
theorem k_landing {G : zG} {l : Launch} {a : Nat} {M0 M : zM} {V : Nat → Nat → Int32} {W : Nat → Nat → Int64} {R : Nat → Nat → Option Nat} {t : Nat} {B : Nat → Int32} {sl ol : Option (List Nat)} (sh : Int32) (age : Nat) {x_age : Int32} (e_age : x_age = nI age) (wd : Nat) {x_wd : Int32} (e_wd : x_wd = nI wd) (aim : Nat) {x_aim : Int32} (e_aim : x_aim = nI aim) (lot : Nat) {x_lot : Int32} (e_lot : x_lot = nI lot) (hage : age < 2 ^ 31) (hb : bW a M0 t B sl ol) (hd0 : dLaw sl false [0, 1, 2, 3, 4]) (hA : kA a M0 M V W R) : am G l kX4_landing 4 [.ref (a + 49), .ref t, .int sh, .int x_age, .int x_wd, .int x_aim, .int x_lot] M 0 0 (zr (.int (nI (mLand sl sh age wd aim lot))) (fun M' => ∃ v v', kA a M0 M' (va_up (va_up V 50 v) 51 v') W R)) := by
  refine am.of (by decide) (Nat.le_of_ble_eq_true rfl) ?_
  refine aj.iload dX4_landing_0 rfl ?_
  refine aj.aload_n dX4_landing_2 rfl ?_
  refine aj.aload_n dX4_landing_3 rfl ?_
  refine aj.iload_n dX4_landing_4 rfl ?_
  refine aj.iload_n dX4_landing_5 rfl ?_
  refine aj.iload dX4_landing_6 rfl ?_
  refine aj.iload dX4_landing_8 rfl ?_
  refine aj.iload dX4_landing_10 rfl ?_
  refine aj.callE1 (d' := 3) (As := [.ref t, .int sh, .int x_age, .int x_wd, .int x_aim, .int x_lot]) (rest := [.int x_aim]) dX4_landing_12 v_X4_43 li_X4_stray ⟨_, hA.ob (i := 49) rfl (by decide)⟩ rfl rfl rfl (Nat.le_of_ble_eq_true rfl) (Nat.le_of_ble_eq_true rfl) (k_stray sh age e_age wd e_wd aim e_aim lot e_lot (by omega) hb hd0 hA) (fun M hM => ?_)
  obtain ⟨v1, v2, hA⟩ := hM
  refine aj.callS1 (d' := 1) (As := [.int x_aim, .int (mKept (mStray sl sh age wd aim lot) (-9) 9)]) (rest := []) dX4_landing_15 v_X4_47 w787 rfl rfl (Nat.le_of_ble_eq_true rfl) (Nat.le_of_ble_eq_true rfl) (k_placeOf _ x_aim (mKept (mStray sl sh age wd aim lot) (-9) 9)) (fun M hM => ?_)
  subst hM
  exact aj.iret rfl dX4_landing_18 ⟨by rw [e_aim]; exact congrArg (fun z => some (Value.int z)) (mKept_20 _).1, ⟨_, _, hA⟩⟩
theorem k_eyeN {G : zG} {l : Launch} {a : Nat} {M0 M : zM} {V : Nat → Nat → Int32} {W : Nat → Nat → Int64} {R : Nat → Nat → Option Nat} {t : Nat} {B : Nat → Int32} {sl : Option (List Nat)} (mi : Nat) {x_mi : Int32} (e_mi : x_mi = nI mi) (hu : Nat) {x_hu : Int32} (e_hu : x_hu = nI hu) (wd : Nat) {x_wd : Int32} (e_wd : x_wd = nI wd) (hmi : mi < 2 ^ 31) (hhu : hu < 2 ^ 31) (hb : bW a M0 t B sl none) (hA : kA a M0 M V W R) : am G l kX4_isEyeOpen 2 [.ref (a + 49), .ref t, .int x_mi, .int x_hu, .int x_wd] M 0 0 (zr (.int (zb (mOpen none wd mi hu = true))) (fun M' => ∃ v v', kA a M0 M' (va_up (va_up V 50 v) 51 v') W R)) := by
  refine am.of (by decide) (Nat.le_of_ble_eq_true rfl) ?_
  refine aj.aload_n dX4_isEyeOpen_0 rfl ?_
  refine gB_opensN hA hb w233 dX4_isEyeOpen_1 ?_
  refine aj.ifnonnullN dX4_isEyeOpen_4 ?_
  refine aj.iload_n dX4_isEyeOpen_7 rfl ?_
  refine aj.iconst (v := 1) dX4_isEyeOpen_8 rfl ?_
  refine aj.iand dX4_isEyeOpen_9 ?_
  refine aj.iconst (v := 1) dX4_isEyeOpen_10 rfl ?_
  refine aj.icmp_ne (tgt := 18) dX4_isEyeOpen_11 rfl (fun c11 => ?_) (fun c11 => ?_)
  · refine aj.iconst (v := 0) dX4_isEyeOpen_18 rfl ?_
    exact aj.zret (ty := .boolean) rfl rfl dX4_isEyeOpen_19 ⟨by rw [zb_f (by rw [e_mi, z_and1 hmi] at c11; show ¬ (decide (mi % 2 = 1) = true); rw [decide_eq_true_iff]; intro z; exact c11 (by rw [z]; rfl))], ⟨V 50, V 51, by rw [va_upI, va_upI]; exact hA⟩⟩
  · refine aj.iconst (v := 1) dX4_isEyeOpen_14 rfl ?_
    refine aj.goto (tgt := 19) dX4_isEyeOpen_15 rfl ?_
    exact aj.zret (ty := .boolean) rfl rfl dX4_isEyeOpen_19 ⟨by rw [zb_t (by rw [e_mi, z_and1 hmi] at c11; show (decide (mi % 2 = 1) = true); rw [decide_eq_true_iff]; exact (nI_eq (by omega) (by decide)).mp c11)], ⟨V 50, V 51, by rw [va_upI, va_upI]; exact hA⟩⟩
theorem k_eyeS {G : zG} {l : Launch} {a : Nat} {M0 M : zM} {V : Nat → Nat → Int32} {W : Nat → Nat → Int64} {R : Nat → Nat → Option Nat} {t : Nat} {B : Nat → Int32} {sl : Option (List Nat)} {cs : List Nat} (mi : Nat) {x_mi : Int32} (e_mi : x_mi = nI mi) (hu : Nat) {x_hu : Int32} (e_hu : x_hu = nI hu) (wd : Nat) {x_wd : Int32} (e_wd : x_wd = nI wd) (hmi : mi < 2 ^ 31) (hhu : hu < 2 ^ 31) (hb : bW a M0 t B sl (some cs)) (hd : dLaw (some cs) true [0, 5, 6]) (hA : kA a M0 M V W R) : am G l kX4_isEyeOpen 2 [.ref (a + 49), .ref t, .int x_mi, .int x_hu, .int x_wd] M 0 0 (zr (.int (zb (mOpen (some cs) wd mi hu = true))) (fun M' => ∃ v v', kA a M0 M' (va_up (va_up V 50 v) 51 v') W R)) := by
  have hd0 := hd cs rfl
  have h01 : (lwRun (wO wd mi hu) cs []).headD 0 = 0 ∨ (lwRun (wO wd mi hu) cs []).headD 0 = 1 := by
    obtain ⟨x, r, e, h, -⟩ := lwRun_M (wO wd mi hu) hd0.1 (st := []) rfl
    rw [e]; exact h rfl
  refine am.of (by decide) (Nat.le_of_ble_eq_true rfl) ?_
  refine aj.aload_n dX4_isEyeOpen_0 rfl ?_
  refine gB_opensS hA hb w233 dX4_isEyeOpen_1 (fun lp lq hpo hqo hp hq hn31 => ?_)
  refine aj.ifnonnull (tgt := 20) dX4_isEyeOpen_4 rfl ?_
  refine aj.aload_n dX4_isEyeOpen_20 rfl ?_
  refine gX4_words (i := 49) rfl hA w312 dX4_isEyeOpen_21 ?_
  refine aj.iconst (v := 5) dX4_isEyeOpen_24 rfl ?_
  refine aj.iload_n dX4_isEyeOpen_25 rfl ?_
  refine aj.kS (i := 50) (j := 5) rfl dX4_isEyeOpen_26 hA rfl (by omega) (by decide) (fun M hA => ?_)
  refine aj.aload_n dX4_isEyeOpen_27 rfl ?_
  refine gX4_words (i := 49) rfl hA w312 dX4_isEyeOpen_28 ?_
  refine aj.bipush (v := 6) dX4_isEyeOpen_31 rfl ?_
  refine aj.iload_n dX4_isEyeOpen_33 rfl ?_
  refine aj.bipush (v := 9) dX4_isEyeOpen_34 rfl ?_
  refine aj.mmin dX4_isEyeOpen_36 w770 (Nat.le_of_ble_eq_true rfl) (Nat.le_of_ble_eq_true rfl) ?_
  refine aj.kS (i := 50) (j := 6) rfl dX4_isEyeOpen_39 hA rfl (by omega) (by decide) (fun M hA => ?_)
  rw [bx_uu, va_up_self] at hA
  refine aj.aload_n dX4_isEyeOpen_40 rfl ?_
  refine gX4_words (i := 49) rfl hA w312 dX4_isEyeOpen_41 ?_
  refine aj.iconst (v := 4) dX4_isEyeOpen_44 rfl ?_
  refine aj.iload dX4_isEyeOpen_45 rfl ?_
  refine aj.kS (i := 50) (j := 4) rfl dX4_isEyeOpen_47 hA rfl (by omega) (by decide) (fun M hA => ?_)
  rw [bx_uu, va_up_self] at hA
  refine aj.aload_n dX4_isEyeOpen_48 rfl ?_
  refine gB_opensS hA hb w233 dX4_isEyeOpen_49 (fun lp lq hpo hqo hp hq hn31 => ?_)
  refine aj.aload_n dX4_isEyeOpen_52 rfl ?_
  refine gX4_words (i := 49) rfl hA w312 dX4_isEyeOpen_53 ?_
  refine aj.aload_n dX4_isEyeOpen_56 rfl ?_
  refine gX4_stack (i := 49) rfl hA w313 dX4_isEyeOpen_57 ?_
  refine aj.callE1 (d' := 1) (As := [.ref (a + 50), .ref (a + 51)]) (rest := []) dX4_isEyeOpen_60 v_X4_36 li_X2_tell ⟨_, (hA.2.1 lp hpo).trans hp⟩ rfl rfl rfl (Nat.le_of_ble_eq_true rfl) (Nat.le_of_ble_eq_true rfl) (k_tell (w0 := wO wd mi hu) hpo hqo hp hq hn31 (fun c hc h5 h6 => by rw [va_up_self, e_mi, e_hu, show (9 : Int32) = nI 9 from rfl, iMin_N hhu (by decide), e_wd]; exact wO_ok _ (hd0.2 c hc h5 h6)) hd0.1 hA) (fun M hM => ?_)
  obtain ⟨v', hA⟩ := hM
  refine aj.if_eq (tgt := 70) dX4_isEyeOpen_63 rfl (fun c63 => ?_) (fun c63 => ?_)
  · refine aj.iconst (v := 0) dX4_isEyeOpen_70 rfl ?_
    exact aj.zret (ty := .boolean) rfl rfl dX4_isEyeOpen_71 ⟨by rw [zb_f (by show ¬ (decide (_ = (1 : Int32)) = true); rw [decide_eq_true_iff]; intro z; exact absurd (z.symm.trans c63) (by decide))], ⟨_, _, hA⟩⟩
  · refine aj.iconst (v := 1) dX4_isEyeOpen_66 rfl ?_
    refine aj.goto (tgt := 71) dX4_isEyeOpen_67 rfl ?_
    exact aj.zret (ty := .boolean) rfl rfl dX4_isEyeOpen_71 ⟨by rw [zb_t (by show (decide (_ = (1 : Int32)) = true); rw [decide_eq_true_iff]; exact h01.resolve_left c63)], ⟨_, _, hA⟩⟩
theorem k_eye {G : zG} {l : Launch} {a : Nat} {M0 M : zM} {V : Nat → Nat → Int32} {W : Nat → Nat → Int64} {R : Nat → Nat → Option Nat} {t : Nat} {B : Nat → Int32} {sl ol : Option (List Nat)} (mi : Nat) {x_mi : Int32} (e_mi : x_mi = nI mi) (hu : Nat) {x_hu : Int32} (e_hu : x_hu = nI hu) (wd : Nat) {x_wd : Int32} (e_wd : x_wd = nI wd) (hmi : mi < 2 ^ 31) (hhu : hu < 2 ^ 31) (hb : bW a M0 t B sl ol) (hd : dLaw ol true [0, 5, 6]) (hA : kA a M0 M V W R) : am G l kX4_isEyeOpen 2 [.ref (a + 49), .ref t, .int x_mi, .int x_hu, .int x_wd] M 0 0 (zr (.int (zb (mOpen ol wd mi hu = true))) (fun M' => ∃ v v', kA a M0 M' (va_up (va_up V 50 v) 51 v') W R)) := by
  cases ol with
  | none => exact k_eyeN mi e_mi hu e_hu wd e_wd hmi hhu hb hA
  | some cs => exact k_eyeS mi e_mi hu e_hu wd e_wd hmi hhu hb hd hA
