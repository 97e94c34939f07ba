/-! ROWS: fewer than a million -/
section Rowmany
variable {t : Int} {E x : Nat → Int}
theorem D3_small (h : okF 3 E) {v : V4} (hw : wv E v = 1) : D3R E ≤ 9801 := by
  have hq := okF_PDQ (by decide) h
  have hs := symT_pad (nl := 3) h.2.2.1
  have p4 : P4 (padT 3 E) = D3R E := by rw [(okF_PD (by decide) h).2]; exact det_D3 h
  have dpos := (okF_PD (by decide) h).1.2.2.2
  have en := h.2.1.1
  have hz := h.2.2.2
  have c := wv_cut (by decide) h v
  rw [hw] at c
  have c' : QT (padT 3 E) (v.1, v.2.1, v.2.2.1, 0) = 1 := c.symm
  have t13 : padT 3 E 1 3 = 0 := (padT_in (by decide)).trans (hz 1 3 (by decide) (by decide) (by decide))
  have t23 : padT 3 E 2 3 = 0 := (padT_in (by decide)).trans (hz 2 3 (by decide) (by decide) (by decide))
  have t03 : padT 3 E 0 3 = 0 := (padT_in (by decide)).trans (hz 0 3 (by decide) (by decide) (by decide))
  have t33 : padT 3 E 3 3 = 1 := by unfold padT; rw [if_pos ⟨rfl, by decide⟩]
  have t00 : padT 3 E 0 0 = E 0 := padT_in (by decide)
  have t11 : padT 3 E 1 1 = E 5 := padT_in (by decide)
  have t22 : padT 3 E 2 2 = E 10 := padT_in (by decide)
  have f := row_facts (nl := 3) (by decide) (by decide) h
  have f2 := f.2.1 (by decide)
  have f3 := f.2.2 (by decide)
  have tri : ∀ a b d : Int, 1 ≤ a ∧ a ≤ 99 → 1 ≤ d ∧ d ≤ 99 → t3 a b 0 b d 0 0 0 1 ≤ 9801 := fun a b d ha hd => by
    have m := Int.mul_le_mul ha.2 hd.2 (by omega) (by omega)
    have s := sq_nn b
    have e : t3 a b 0 b d 0 0 0 1 = a * d - b * b := by unfold t3; grind
    omega
  have sq1 : ∀ u : Int, u ≠ 0 → 1 ≤ u * u := fun u hu => by
    have s := sq_nn u
    by_cases z : u * u = 0
    · rcases Int.mul_eq_zero.mp z with w | w <;> exact absurd w hu
    · omega
  have fin : ∀ (u P : Int), u ≠ 0 → P4 (padT 3 E) * (u * u) ≤ P * 1 → P ≤ 9801 → D3R E ≤ 9801 := fun u P hu hh hp => by
    have m := Int.mul_le_mul_of_nonneg_left (sq1 u hu) (show 0 ≤ P4 (padT 3 E) by omega)
    omega
  by_cases z0 : v.1 = 0
  · by_cases z1 : v.2.1 = 0
    · by_cases z2 : v.2.2.1 = 0
      · rw [z0, z1, z2] at c'
        exfalso
        have : QT (padT 3 E) (0, 0, 0, 0) = 0 := by unfold QT; simp
        omega
      · have a := PD_last (PD_of (od2_PDQ hs hq)) (0, v.2.1, v.1, v.2.2.1)
        rw [od2_P4 hs, od2_P3 hs, od2_Q hs, c'] at a
        refine fin _ _ z2 a ?_
        show t3 (padT 3 E 0 0) (padT 3 E 0 1) (padT 3 E 0 3) (padT 3 E 0 1) (padT 3 E 1 1) (padT 3 E 1 3) (padT 3 E 0 3) (padT 3 E 1 3) (padT 3 E 3 3) ≤ 9801
        rw [t00, t11, t03, t13, t33]; exact tri _ _ _ f.1 f2.1
    · have a := PD_last (PD_of (od1_PDQ hs hq)) (0, v.2.2.1, v.1, v.2.1)
      rw [od1_P4 hs, od1_P3 hs, od1_Q hs, c'] at a
      refine fin _ _ z1 a ?_
      show t3 (padT 3 E 0 0) (padT 3 E 0 2) (padT 3 E 0 3) (padT 3 E 0 2) (padT 3 E 2 2) (padT 3 E 2 3) (padT 3 E 0 3) (padT 3 E 2 3) (padT 3 E 3 3) ≤ 9801
      rw [t00, t22, t03, t23, t33]; exact tri _ _ _ f.1 f3.1
  · have a := PD_last (PD_of (od0_PDQ hs hq)) (0, v.2.2.1, v.2.1, v.1)
    rw [od0_P4 hs, od0_P3 hs, od0_Q hs, c'] at a
    refine fin _ _ z0 a ?_
    show t3 (padT 3 E 1 1) (padT 3 E 1 2) (padT 3 E 1 3) (padT 3 E 1 2) (padT 3 E 2 2) (padT 3 E 2 3) (padT 3 E 1 3) (padT 3 E 2 3) (padT 3 E 3 3) ≤ 9801
    rw [t11, t22, t13, t23, t33]; exact tri _ _ _ f2.1 f3.1
theorem nR_bd {nl : Int} (h1 : 1 ≤ nl) (h3 : nl ≤ 3) (h : okF nl E) (ht : 1 ≤ t ∧ t ≤ 100) {k : Nat} (hk : (k : Int) < nl) : 0 ≤ nR E t k ∧ nR E t k ≤ 198 ∧ nR E t k * nR E t k * dR E k ≤ 4 * dR E (k + 1) * t := by
  have d0 := dR_bd h1 h3 h (k := k) (by omega)
  have d1 := dR_bd h1 h3 h (k := k + 1) (by omega)
  have f := row_facts h1 h3 h
  have bf := (bnd_facts h1 h3 h ht hk).2.1
  have dd : dR E (k + 1) ≤ dR E k * E (5 * k) := by
    rcases (show k = 0 ∨ k = 1 ∨ k = 2 by omega) with rfl | rfl | rfl
    · show E 0 ≤ 1 * E 0; omega
    · have d : D2R E = E 0 * E 5 - E 4 * E 4 := rfl
      have s := sq_nn (E 4)
      show D2R E ≤ E 0 * E 5; omega
    · have f2 := f.2.1 (by omega)
      have d : D3R E = D2R E * E 10 - (E 5 * (E 8 * E 8) - 2 * E 4 * (E 8 * E 9) + E 0 * (E 9 * E 9)) := rfl
      have s := q2_nn (a := E 0) (b := E 4) (c := E 5) (p := E 8) (r := E 9) f.1.1 f2.2.1
      show D3R E ≤ D2R E * E 10; omega
  unfold nR
  generalize dR E (k + 1) = D1 at *
  generalize dR E k = D at *
  generalize E (5 * k) = u at *
  have vp : 0 ≤ 4 * D1 * t := Int.mul_nonneg (by omega) (by omega)
  have vb := mul_bd (a := 4 * D1) (b := t) (A := 3881196) (B := 100) (by omega) (by omega) (by omega) (by omega)
  have v0 := Int.ediv_nonneg vp (show 0 ≤ D by omega)
  have v1 := Int.ediv_le_self D vp
  have r := rootQ_spec (v := (4 * D1 * t) / D) v0 (by omega)
  have q1 : (4 * D1 * t) / D ≤ 39600 := by
    have m1 := Int.mul_le_mul_of_nonneg_right (show 4 * D1 ≤ 4 * (D * u) by omega) (show 0 ≤ t by omega)
    have m2 := Int.mul_le_mul bf.2 ht.2 (by omega) (by omega)
    have m3 := Int.mul_le_mul_of_nonneg_left m2 (show 0 ≤ D by omega)
    have e : 4 * (D * u) * t = 4 * (D * (u * t)) := by grind
    have : 4 * D1 * t ≤ 39600 * D := by omega
    exact Int.ediv_le_of_le_mul (by omega) this
  have em := Int.ediv_mul_le (4 * D1 * t) (show D ≠ 0 by omega)
  have mm := Int.mul_le_mul_of_nonneg_right r.2.1 (show 0 ≤ D by omega)
  refine ⟨r.1, ?_, by omega⟩
  by_cases g : rootQ ((4 * D1 * t) / D) ≤ 198
  · exact g
  · have := Int.mul_le_mul (show 199 ≤ rootQ ((4 * D1 * t) / D) by omega) (show 199 ≤ rootQ ((4 * D1 * t) / D) by omega) (by omega) (by omega)
    omega
end Rowmany
