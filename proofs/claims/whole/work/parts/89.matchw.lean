/-- a memory without the match's cells -/
def rs (F : zM) (t : Nat) : zM := (fun x => if t ≤ x ∧ x < t + 4 then none else F.1 x, F.2)
section N89
variable {F M0 M M' : zM} {a t u v p q u' v' p' q' : Nat} {f g s f' g' s' : Nat → Int32} {w w' : Int64} {V : Nat → Nat → Int32} {W : Nat → Nat → Int64} {R : Nat → Nat → Option Nat}
theorem mt_bW {T : Nat} {B : Nat → Int32} {sl ol : Option (List Nat)} (hm : mt F M0 t u v p q f g s w) (hb : bW a (rs F t) T B sl ol) : bW a M0 T B sl ol := hb.of (fun x _ hc => by
  obtain ⟨c, hc⟩ := hc
  by_cases e : t ≤ x ∧ x < t + 4
  · exact absurd ((if_pos e).symm.trans hc) (fun z => Option.some_ne_none c z.symm)
  · rw [hm.1.2 x (by omega)]
    exact (if_neg e).symm)
theorem ia_at {n : Nat} {x : Nat} (h : ia M0 x n f) (e : M.1 x = M0.1 x) : ia M x n f := h.of e
theorem km_in (hko : t + 4 ≤ a ∨ a + 87 ≤ t) (hA : kA a M0 M V W R) (hm : mt F M0 t u v p q f g s w) : mt M M t u v p q f g s w := by
  obtain ⟨h1, h3, h4, h5, h6, h7⟩ := hm
  have e : ∀ x, t ≤ x → x < t + 4 → M.1 x = M0.1 x := fun x h1 h2 => hA.2.1 x (by unfold kOut; omega)
  exact ⟨⟨rfl, fun _ _ => rfl⟩, h3, (e t (by omega) (by omega)).trans h4, h5.of (e p (by omega) (by omega)), h6.of (e q (by omega) (by omega)), h7.of (e (t + 3) (by omega) (by omega))⟩
theorem km_out (hko : t + 4 ≤ a ∨ a + 87 ≤ t) (hA : kA a M0 M V W R) (hm : mt F M0 t u v p q f g s w) (h : mt M M' t u' v' p' q' f' g' s' w') : ∃ M1, kA a M1 M' V W R ∧ mt F M1 t u' v' p' q' f' g' s' w' := by
  obtain ⟨⟨b1, b2⟩, h3, h4, h5, h6, h7⟩ := h
  obtain ⟨⟨c1, c2⟩, -⟩ := hm
  obtain ⟨k1, k2, k3⟩ := hA
  have ei : ∀ x, t ≤ x → x < t + 4 → (if t ≤ x ∧ x < t + 4 then M'.1 x else M0.1 x) = M'.1 x := fun x h1 h2 => if_pos ⟨h1, h2⟩
  refine ⟨(fun x => if t ≤ x ∧ x < t + 4 then M'.1 x else M0.1 x, M0.2), ⟨b1.trans k1, fun x hx => ?_, fun i hi => ?_⟩, ⟨c1, fun x hx => ?_⟩, h3, (ei t (by omega) (by omega)).trans h4, h5.of (ei p' (by omega) (by omega)), h6.of (ei q' (by omega) (by omega)), h7.of (ei (t + 3) (by omega) (by omega))⟩
  · by_cases e : t ≤ x ∧ x < t + 4
    · exact (if_pos e).symm
    · rw [b2 x (by omega)]
      exact (k2 x hx).trans (if_neg e).symm
  · rw [b2 (a + i) (by unfold kIn at hi; omega)]
    exact k3 i hi
  · exact (if_neg (by omega)).trans (c2 x hx)
end N89
section R89
variable {G : zG} {l : Launch} {k : zY} {d pc bc bs : Nat} {lv : List (Nat × Value)} {st : List Value} {Q : Option Value → zM → Prop}
theorem gMt {a idx t : Nat} {M0 M : zM} {V : Nat → Nat → Int32} {W : Nat → Nat → Int64} {R : Nat → Nat → Option Nat} (hR1 : R 0 1 = some t) (hA : kA a M0 M V W R) (hl : Cond.fieldLink k.1.cls idx (TX11 14).1 (TX11 14).2.1 (TX11 14).2.2.1 ∈ z_W) (hd : decode k.2.1 pc = .ok (.getfield idx, 3)) (h : aj G l k d (pc + 3) lv (.ref t :: st) M bc bs Q) : aj G l k d pc lv (.ref a :: st) M bc bs Q := gX11_match (i := 0) rfl hA hl hd (by rw [hR1]; exact h)
end R89
