/-! ROWS: the children are those that are lawful among what is enumerated -/
section Rowkid
variable {nl t : Int} {E x : Nat → Int}
theorem bndC_out {k : Nat} (h : nl ≤ (k : Int)) : bndC nl E t k = 0 := by unfold bndC; rw [if_neg (by omega)]
theorem rAll_bx (h1 : 1 ≤ nl) (h3 : nl ≤ 3) (x : Nat → Int) : rAll (bndC nl E t 0) (bndC nl E t 1) (bndC nl E t 2) = (eR nl E t).bx nl.toNat x := by
  rcases (show nl = 1 ∨ nl = 2 ∨ nl = 3 by omega) with rfl | rfl | rfl
  · unfold rAll rw0 rw1 rw2
    rw [bndC_out (k := 1) (by decide), bndC_out (k := 2) (by decide), dn01]
    show _ = (dnF (bndC 1 E t 0) (2 * bndC 1 E t 0 + 1).toNat).flatMap (fun t => [tupN 1 (upx x 0 t)])
    exact flat_cg (fun t _ => rfl)
  · unfold rAll rw0 rw1 rw2
    rw [bndC_out (k := 2) (by decide), dn01]
    show _ = (dnF (bndC 2 E t 0) (2 * bndC 2 E t 0 + 1).toNat).flatMap (fun u => (dnF (bndC 2 E t 1) (2 * bndC 2 E t 1 + 1).toNat).flatMap (fun t1 => [tupN 2 (upx (upx x 0 u) 1 t1)]))
    exact flat_cg (fun t _ => flat_cg (fun t1 _ => rfl))
  · unfold rAll rw0 rw1 rw2
    show _ = (dnF (bndC 3 E t 0) (2 * bndC 3 E t 0 + 1).toNat).flatMap (fun u => (dnF (bndC 3 E t 1) (2 * bndC 3 E t 1 + 1).toNat).flatMap (fun t1 => (dnF (bndC 3 E t 2) (2 * bndC 3 E t 2 + 1).toNat).flatMap (fun t2 => [tupN 3 (upx (upx (upx x 0 u) 1 t1) 2 t2)])))
    exact flat_cg (fun t _ => flat_cg (fun t1 _ => List.map_eq_flatMap))
theorem law_row (h1 : 1 ≤ nl) (h3 : nl ≤ 3) (h : okF nl E) {v : V4} (hl : lawS (nl + 1) (chE nl.toNat E t v)) : 1 ≤ lR E t nl.toNat (fv v) := by
  have okc := chE_ok ⟨h1, h3⟩ h hl
  have p := (okF_PD (by omega) okc).1.2.2.2
  have hs := h.2.2.1
  have e1 : E 1 = E 4 := hs 0 1 (by decide) (by decide)
  have e2 : E 2 = E 8 := hs 0 2 (by decide) (by decide)
  have e6 : E 6 = E 9 := hs 1 2 (by decide) (by decide)
  have hz := okc.2.2.2
  rcases (show nl = 1 ∨ nl = 2 ∨ nl = 3 by omega) with rfl | rfl | rfl
  · have t00 : padT (1 + 1) (chE (1 : Int).toNat E t v) 0 0 = E 0 := (padT_in (by decide)).trans rfl
    have t01 : padT (1 + 1) (chE (1 : Int).toNat E t v) 0 1 = v.1 := (padT_in (by decide)).trans rfl
    have t11 : padT (1 + 1) (chE (1 : Int).toNat E t v) 1 1 = t := (padT_in (by decide)).trans rfl
    have t02 : padT (1 + 1) (chE (1 : Int).toNat E t v) 0 2 = 0 := (padT_in (by decide)).trans (hz 0 2 (by decide) (by decide) (by decide))
    have t03 : padT (1 + 1) (chE (1 : Int).toNat E t v) 0 3 = 0 := (padT_in (by decide)).trans (hz 0 3 (by decide) (by decide) (by decide))
    have t12 : padT (1 + 1) (chE (1 : Int).toNat E t v) 1 2 = 0 := (padT_in (by decide)).trans (hz 1 2 (by decide) (by decide) (by decide))
    have t13 : padT (1 + 1) (chE (1 : Int).toNat E t v) 1 3 = 0 := (padT_in (by decide)).trans (hz 1 3 (by decide) (by decide) (by decide))
    have t23 : padT (1 + 1) (chE (1 : Int).toNat E t v) 2 3 = 0 := (padT_ne (by decide)).trans (hz 2 3 (by decide) (by decide) (by decide))
    have t22 : padT (1 + 1) (chE (1 : Int).toNat E t v) 2 2 = 1 := by unfold padT; rw [if_pos ⟨rfl, by decide⟩]
    have t33 : padT (1 + 1) (chE (1 : Int).toNat E t v) 3 3 = 1 := by unfold padT; rw [if_pos ⟨rfl, by decide⟩]
    unfold P4 at p
    rw [t00, t01, t11, t02, t03, t12, t13, t23, t22, t33] at p
    show 1 ≤ E 0 * t - v.1 * v.1
    have e : t4 (E 0) v.1 0 0 t 0 0 1 0 1 = E 0 * t - v.1 * v.1 := by unfold t4 t3; grind
    omega
  · have t00 : padT (2 + 1) (chE (2 : Int).toNat E t v) 0 0 = E 0 := (padT_in (by decide)).trans rfl
    have t01 : padT (2 + 1) (chE (2 : Int).toNat E t v) 0 1 = E 4 := ((padT_in (by decide)).trans rfl).trans e1
    have t02 : padT (2 + 1) (chE (2 : Int).toNat E t v) 0 2 = v.1 := (padT_in (by decide)).trans rfl
    have t11 : padT (2 + 1) (chE (2 : Int).toNat E t v) 1 1 = E 5 := (padT_in (by decide)).trans rfl
    have t12 : padT (2 + 1) (chE (2 : Int).toNat E t v) 1 2 = v.2.1 := (padT_in (by decide)).trans rfl
    have t22 : padT (2 + 1) (chE (2 : Int).toNat E t v) 2 2 = t := (padT_in (by decide)).trans rfl
    have t03 : padT (2 + 1) (chE (2 : Int).toNat E t v) 0 3 = 0 := (padT_in (by decide)).trans (hz 0 3 (by decide) (by decide) (by decide))
    have t13 : padT (2 + 1) (chE (2 : Int).toNat E t v) 1 3 = 0 := (padT_in (by decide)).trans (hz 1 3 (by decide) (by decide) (by decide))
    have t23 : padT (2 + 1) (chE (2 : Int).toNat E t v) 2 3 = 0 := (padT_in (by decide)).trans (hz 2 3 (by decide) (by decide) (by decide))
    have t33 : padT (2 + 1) (chE (2 : Int).toNat E t v) 3 3 = 1 := by unfold padT; rw [if_pos ⟨rfl, by decide⟩]
    unfold P4 at p
    rw [t00, t01, t11, t02, t03, t12, t13, t23, t22, t33] at p
    show 1 ≤ D2R E * t - (E 5 * (v.1 * v.1) - 2 * E 4 * (v.1 * v.2.1) + E 0 * (v.2.1 * v.2.1))
    have e : t4 (E 0) (E 4) v.1 0 (E 5) v.2.1 0 t 0 1 = D2R E * t - (E 5 * (v.1 * v.1) - 2 * E 4 * (v.1 * v.2.1) + E 0 * (v.2.1 * v.2.1)) := by unfold t4 t3 D2R; grind
    omega
  · have t00 : padT (3 + 1) (chE (3 : Int).toNat E t v) 0 0 = E 0 := (padT_in (by decide)).trans rfl
    have t01 : padT (3 + 1) (chE (3 : Int).toNat E t v) 0 1 = E 4 := ((padT_in (by decide)).trans rfl).trans e1
    have t02 : padT (3 + 1) (chE (3 : Int).toNat E t v) 0 2 = E 8 := ((padT_in (by decide)).trans rfl).trans e2
    have t11 : padT (3 + 1) (chE (3 : Int).toNat E t v) 1 1 = E 5 := (padT_in (by decide)).trans rfl
    have t12 : padT (3 + 1) (chE (3 : Int).toNat E t v) 1 2 = E 9 := ((padT_in (by decide)).trans rfl).trans e6
    have t22 : padT (3 + 1) (chE (3 : Int).toNat E t v) 2 2 = E 10 := (padT_in (by decide)).trans rfl
    have t03 : padT (3 + 1) (chE (3 : Int).toNat E t v) 0 3 = v.1 := (padT_in (by decide)).trans rfl
    have t13 : padT (3 + 1) (chE (3 : Int).toNat E t v) 1 3 = v.2.1 := (padT_in (by decide)).trans rfl
    have t23 : padT (3 + 1) (chE (3 : Int).toNat E t v) 2 3 = v.2.2.1 := (padT_in (by decide)).trans rfl
    have t33 : padT (3 + 1) (chE (3 : Int).toNat E t v) 3 3 = t := (padT_in (by decide)).trans rfl
    unfold P4 at p
    rw [t00, t01, t11, t02, t03, t12, t13, t23, t22, t33] at p
    show 1 ≤ D3R E * t - ((E 5 * E 10 - E 9 * E 9) * (v.1 * v.1) + (E 0 * E 10 - E 8 * E 8) * (v.2.1 * v.2.1) + D2R E * (v.2.2.1 * v.2.2.1) + 2 * (E 8 * E 9 - E 4 * E 10) * (v.1 * v.2.1) + 2 * (E 4 * E 9 - E 5 * E 8) * (v.1 * v.2.2.1) + 2 * (E 4 * E 8 - E 0 * E 9) * (v.2.1 * v.2.2.1))
    have e : t4 (E 0) (E 4) (E 8) v.1 (E 5) (E 9) v.2.1 (E 10) v.2.2.1 t = D3R E * t - ((E 5 * E 10 - E 9 * E 9) * (v.1 * v.1) + (E 0 * E 10 - E 8 * E 8) * (v.2.1 * v.2.1) + D2R E * (v.2.2.1 * v.2.2.1) + 2 * (E 8 * E 9 - E 4 * E 10) * (v.1 * v.2.1) + 2 * (E 4 * E 9 - E 5 * E 8) * (v.1 * v.2.2.1) + 2 * (E 4 * E 8 - E 0 * E 9) * (v.2.1 * v.2.2.1)) := by
      unfold t4 t3 D3R D2R
      generalize E 0 = a; generalize E 4 = b; generalize E 5 = c; generalize E 8 = d; generalize E 9 = e; generalize E 10 = f; generalize v.1 = x0; generalize v.2.1 = x1; generalize v.2.2.1 = x2
      grind
    omega
theorem kidF_en (h1 : 1 ≤ nl) (h3 : nl ≤ 3) (h : okF nl E) (ht : 1 ≤ t ∧ t ≤ 100) (x : Nat → Int) : kidF nl E t (rAll (bndC nl E t 0) (bndC nl E t 1) (bndC nl E t 2)) = kidF nl E t ((eR nl E t).en nl.toNat x) := by
  have hok := eR_ok h1 h3 h ht
  have ef := en_fil hok nl.toNat x (Nat.le_refl _) (by
    rw [show (eR nl E t).n - nl.toNat = 0 by show nl.toNat - nl.toNat = 0; omega]; exact ht.1) (Or.inl rfl)
  rw [ef, ← rAll_bx h1 h3]
  unfold kidF
  rw [List.filter_filter]
  refine List.filter_congr (fun v _ => ?_)
  cases c : lawb (nl + 1) (chE nl.toNat E t v) with
  | false => rfl
  | true =>
    have q := law_row h1 h3 h (lawb_of c)
    have qe : qE (eR nl E t) v = true := by
      unfold qE
      rw [decide_eq_true (show (eR nl E t).st ≤ (eR nl E t).lf (eR nl E t).n (fv v) from q), decide_eq_true (show (eR nl E t).hf = 0 from rfl)]; rfl
    rw [qe]; rfl
end Rowkid
