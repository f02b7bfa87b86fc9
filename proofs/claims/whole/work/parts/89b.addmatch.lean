theorem tellM_lp {G : zG} {l : Launch} {a : Nat} {V : Nat → Nat → Int32} {W : Nat → Nat → Int64} {R : Nat → Nat → Option Nat} {F : zM} {t T : Nat} {B : Nat → Int32} {sl ol : Option (List Nat)} (hko : t + 4 ≤ a ∨ a + 87 ≤ t) (hT : R 0 0 = some T) (hR1 : R 0 1 = some t) (hbF : bW a (rs F t) T B sl ol) (n : Nat) {x_n : Int32} (e_n : x_n = nI n) {sg : Int32} {aim : Nat} (haim : aim ≤ 20) (op : Prop) [Decidable op] {p q : Nat} {f g : Nat → Int32} {w : Int64} {Q : Option Value → zM → Prop} (hk : ∀ M0 M s, (∀ j, j < 10 → s j = sg * mScore B (V 72 (aim * 10 + j)) op) → kA a M0 M V W R → mt F M0 t p q p q f g s w → aj G l kX11_addToMatch 6 68 [(5, .int (nI aim)), (4, .int (zb (op))), (0, .ref a), (1, .ref (a + 71)), (2, .int x_n), (3, .int sg)] [] M 0 0 Q) : ∀ (m lot : Nat) (M0 M : zM) (s : Nat → Int32), lot + m = 10 → (∀ j, j < lot → s j = sg * mScore B (V 72 (aim * 10 + j)) op) → kA a M0 M V W R → mt F M0 t p q p q f g s w → aj G l kX11_addToMatch 6 27 [(6, .int (nI lot)), (5, .int (nI aim)), (4, .int (zb (op))), (0, .ref a), (1, .ref (a + 71)), (2, .int x_n), (3, .int sg)] [] M 0 0 Q := by
  intro m
  induction m with
  | zero =>
    intro lot M0 M s hl hs hA hm
    refine aj.iload dX11_addToMatch_27 rfl ?_
    refine aj.bipush (v := 10) dX11_addToMatch_29 rfl ?_
    refine aj.icmp_geN (a := lot) (b := 10) (tgt := 68) dX11_addToMatch_31 rfl rfl (by omega) (by omega) rfl (fun c31 => ?_) (fun c31 => ?_)
    · refine aj.pick [1, 2, 3, 4, 5, 6] rfl ?_
      exact hk M0 M s (fun j hj => hs j (by omega)) hA hm
    · exact absurd c31 (by omega)
  | succ m ih =>
    intro lot M0 M s hl hs hA hm
    have hb := mt_bW hm hbF
    refine aj.iload dX11_addToMatch_27 rfl ?_
    refine aj.bipush (v := 10) dX11_addToMatch_29 rfl ?_
    refine aj.icmp_geN (a := lot) (b := 10) (tgt := 68) dX11_addToMatch_31 rfl rfl (by omega) (by omega) rfl (fun c31 => ?_) (fun c31 => ?_)
    · exact absurd c31 (by omega)
    · refine aj.aload_n dX11_addToMatch_34 rfl ?_
      refine gMt hR1 hA w389 dX11_addToMatch_35 ?_
      refine aj.iload dX11_addToMatch_38 rfl ?_
      refine aj.iload_n dX11_addToMatch_40 rfl ?_
      refine aj.aload_n dX11_addToMatch_41 rfl ?_
      refine gT hT hA w378 dX11_addToMatch_42 ?_
      refine aj.aload_n dX11_addToMatch_45 rfl ?_
      refine aj.iload dX11_addToMatch_46 rfl ?_
      refine aj.iload dX11_addToMatch_48 rfl ?_
      refine aj.callE1 (d' := 1) (As := [.int (nI aim), .int (nI lot)]) (rest := [.ref T, .int sg, .int (nI lot), .ref t]) dX11_addToMatch_50 v_X11_407 li_X8_landingAt ⟨_, hA.ob (i := 71) rfl (by decide)⟩ rfl rfl rfl (Nat.le_of_ble_eq_true rfl) (Nat.le_of_ble_eq_true rfl) (k_landingAt (o := 71) ⟨rfl, rfl, rfl, rfl⟩ aim rfl lot rfl (by omega) (by omega) hA) (fun M hM => ?_)
      subst hM
      refine aj.iload dX11_addToMatch_53 rfl ?_
      refine aj.callE1 (d' := 1) (As := [.int (V 72 (aim * 10 + lot)), .int (zb (op))]) (rest := [.int sg, .int (nI lot), .ref t]) dX11_addToMatch_55 v_X11_161 li_X0_worth (hA.bw hb).ob rfl rfl rfl (Nat.le_of_ble_eq_true rfl) (Nat.le_of_ble_eq_true rfl) (k_worth (V 72 (aim * 10 + lot)) (op) (hA.bw hb)) (fun M hM => ?_)
      subst hM
      refine aj.imul dX11_addToMatch_58 ?_
      refine aj.callE0 (d' := 1) (As := [.int (nI lot), .int (sg * (mScore B (V 72 (aim * 10 + lot)) (op)))]) (rest := []) dX11_addToMatch_59 v_X11_410 li_X3_tell (km_in hko hA hm).ob rfl rfl rfl (Nat.le_of_ble_eq_true rfl) (Nat.le_of_ble_eq_true rfl) (k_mtTell lot rfl (sg * (mScore B (V 72 (aim * 10 + lot)) (op))) (by omega) (km_in hko hA hm)) (fun M hM => ?_)
      obtain ⟨M0, hA, hm⟩ := km_out hko hA hm hM
      refine aj.iincN (a := lot) (c := 1) (lv' := [(6, .int (nI (lot + 1))), (5, .int (nI aim)), (4, .int (zb (op))), (0, .ref a), (1, .ref (a + 71)), (2, .int x_n), (3, .int sg)]) dX11_addToMatch_62 rfl (Nat.le_of_ble_eq_true rfl) rfl rfl rfl ?_
      refine aj.goto (tgt := 27) dX11_addToMatch_65 rfl ?_
      refine aj.pick [0, 1, 2, 3, 4, 5, 6] rfl ?_
      refine ih (lot + 1) M0 M _ (by omega) (fun j hj => ?_) hA hm
      by_cases e : j = lot
      · rw [e, pk_us]
      · rw [pk_un e]; exact hs j (by omega)
/-- ten times as many ways, so often -/
def wP (w : Int64) : Nat → Int64
  | 0 => w
  | n + 1 => wP w n * 10
theorem shotM_lp {G : zG} {l : Launch} {a : Nat} {V : Nat → Nat → Int32} {W : Nat → Nat → Int64} {R : Nat → Nat → Option Nat} {F : zM} {t T : Nat} {B : Nat → Int32} {sl ol : Option (List Nat)} (hko : t + 4 ≤ a ∨ a + 87 ≤ t) (hT : R 0 0 = some T) (hR1 : R 0 1 = some t) (hbF : bW a (rs F t) T B sl ol) (n : Nat) {x_n : Int32} (e_n : x_n = nI n) {sg : Int32} {aim : Nat} (op : Prop) [Decidable op] (hn3 : n ≤ 3) {s : Nat → Int32} {sc : Nat → Int} {gs : List (Nat → Int)} (hs : ∀ j, j < 10 → (s j).toInt = sc j) (hbs : ∀ j, j < 10 → -99 ≤ sc j ∧ sc j ≤ 99) (hgl : gs.length + n ≤ 6) (hgB : eB gs) {w : Int64} : ∀ (m i : Nat) (p q : Nat) (g : Nat → Int32) (M0 M : zM), i + m = n → kA a M0 M V W R → mt F M0 t p q p q (fun k => nI (hW (List.replicate i sc ++ gs) k)) g s (wP w i) → aj G l kX11_addToMatch 6 71 [(6, .int (nI i)), (5, .int (nI aim)), (4, .int (zb (op))), (0, .ref a), (1, .ref (a + 71)), (2, .int x_n), (3, .int sg)] [] M 0 0 (zv (fun M' => ∃ M1 p q g, kA a M1 M' V W R ∧ mt F M1 t p q p q (fun k => nI (hW (List.replicate n sc ++ gs) k)) g s (wP w n))) := by
  intro m
  induction m with
  | zero =>
    intro i p q g M0 M hi hA hm
    have hin : i = n := by omega
    rw [hin] at hm
    refine aj.iload dX11_addToMatch_71 rfl ?_
    refine aj.iload_n dX11_addToMatch_73 rfl ?_
    refine aj.icmp_geN (a := i) (b := n) (tgt := 90) dX11_addToMatch_74 rfl e_n (by omega) (by omega) rfl (fun c74 => ?_) (fun c74 => ?_)
    · exact aj.vret rfl dX11_addToMatch_90 ⟨rfl, M0, p, q, g, hA, hm⟩
    · exact absurd c74 (by omega)
  | succ m ih =>
    intro i p q g M0 M hi hA hm
    have hlen : (List.replicate i sc ++ gs).length ≤ 5 := by rw [List.length_append, List.length_replicate]; omega
    have hBB : eB (sc :: (List.replicate i sc ++ gs)) := by
      intro g' hg k hk
      rcases List.mem_cons.mp hg with e | e
      · rw [e]; exact hbs k hk
      · rcases List.mem_append.mp e with e | e
        · rw [List.eq_of_mem_replicate e]; exact hbs k hk
        · exact hgB g' e k hk
    refine aj.iload dX11_addToMatch_71 rfl ?_
    refine aj.iload_n dX11_addToMatch_73 rfl ?_
    refine aj.icmp_geN (a := i) (b := n) (tgt := 90) dX11_addToMatch_74 rfl e_n (by omega) (by omega) rfl (fun c74 => ?_) (fun c74 => ?_)
    · exact absurd c74 (by omega)
    · refine aj.aload_n dX11_addToMatch_77 rfl ?_
      refine gMt hR1 hA w389 dX11_addToMatch_78 ?_
      refine aj.callE0 (d' := 1) (As := []) (rest := []) dX11_addToMatch_81 v_X11_413 li_X3_addShot (km_in hko hA hm).ob rfl rfl rfl (Nat.le_of_ble_eq_true rfl) (Nat.le_of_ble_eq_true rfl) (k_addShotM hs hbs hlen hBB (fun j _ => rfl) (km_in hko hA hm)) (fun M hM => ?_)
      obtain ⟨p, q, g, hM⟩ := hM
      obtain ⟨M0, hA, hm⟩ := km_out hko hA hm hM
      refine aj.iincN (a := i) (c := 1) (lv' := [(6, .int (nI (i + 1))), (5, .int (nI aim)), (4, .int (zb (op))), (0, .ref a), (1, .ref (a + 71)), (2, .int x_n), (3, .int sg)]) dX11_addToMatch_84 rfl (Nat.le_of_ble_eq_true rfl) rfl rfl rfl ?_
      refine aj.goto (tgt := 71) dX11_addToMatch_87 rfl ?_
      refine aj.pick [0, 1, 2, 3, 4, 5, 6] rfl ?_
      exact ih (i + 1) p q g M0 M (by omega) hA hm
