/-! ROWS AS AN ENUMERATION: it goes well -/
section Rowok
variable {nl t : Int} {E x y : Nat → Int}
theorem q2_nn {a b c p r : Int} (ha : 1 ≤ a) (hd : 1 ≤ a * c - b * b) : 0 ≤ c * (p * p) - 2 * b * (p * r) + a * (r * r) := by
  have s1 := sq_nn (a * r - b * p)
  have s2 := Int.mul_nonneg (show 0 ≤ a * c - b * b by omega) (sq_nn p)
  have id : a * (c * (p * p) - 2 * b * (p * r) + a * (r * r)) = (a * r - b * p) * (a * r - b * p) + (a * c - b * b) * (p * p) := by grind
  refine Int.le_of_mul_le_mul_left (a := a) ?_ (by omega)
  rw [id]; omega
theorem row_facts (h1 : 1 ≤ nl) (h3 : nl ≤ 3) (h : okF nl E) : (1 ≤ E 0 ∧ E 0 ≤ 99) ∧ (2 ≤ nl → (1 ≤ E 5 ∧ E 5 ≤ 99) ∧ 1 ≤ D2R E ∧ D2R E ≤ 9801) ∧ (3 ≤ nl → (1 ≤ E 10 ∧ E 10 ≤ 99) ∧ 1 ≤ D3R E ∧ D3R E ≤ 970299) := by
  have p := (okF_PD h1 h).1
  have en := h.2.1.1
  have hs := h.2.2.1
  have e1 : E 1 = E 4 := hs 0 1 (by decide) (by decide)
  have e2 : E 2 = E 8 := hs 0 2 (by decide) (by decide)
  have e6 : E 6 = E 9 := hs 1 2 (by decide) (by decide)
  have t00 : padT nl E 0 0 = E 0 := padT_in (by omega)
  have t01 : padT nl E 0 1 = E 4 := (padT_in (by omega)).trans e1
  have t02 : padT nl E 0 2 = E 8 := (padT_in (by omega)).trans e2
  have a0 := en 0 (by omega)
  have a5 := en 5 (by omega)
  have a10 := en 10 (by omega)
  have pa : 1 ≤ E 0 := by have := p.1; rw [t00] at this; omega
  have two : 2 ≤ nl → (1 ≤ E 5 ∧ E 5 ≤ 99) ∧ 1 ≤ D2R E ∧ D2R E ≤ 9801 := fun n2 => by
    have t11 : padT nl E 1 1 = E 5 := padT_in (by omega)
    have q := p.2.1
    unfold P2 t2 at q
    rw [t00, t01, t11] at q
    have s := sq_nn (E 4)
    have d : D2R E = E 0 * E 5 - E 4 * E 4 := rfl
    have c5 : 1 ≤ E 5 := by
      by_cases z : 1 ≤ E 5
      · exact z
      · have := Int.mul_le_mul_of_nonneg_left (show E 5 ≤ 0 by omega) (show 0 ≤ E 0 by omega); omega
    have m := Int.mul_le_mul (show E 0 ≤ 99 by omega) (show E 5 ≤ 99 by omega) (by omega) (by omega)
    omega
  refine ⟨⟨pa, by omega⟩, two, fun n3 => ?_⟩
  obtain ⟨c5, d2⟩ := two (by omega)
  have t11 : padT nl E 1 1 = E 5 := padT_in (by omega)
  have t12 : padT nl E 1 2 = E 9 := (padT_in (by omega)).trans e6
  have t22 : padT nl E 2 2 = E 10 := padT_in (by omega)
  have q := p.2.2.1
  have e : P3 (padT nl E) = D3R E := by
    unfold P3 t3 D3R D2R
    rw [t00, t01, t02, t11, t12, t22]
    grind
  rw [e] at q
  have nn := q2_nn (a := E 0) (b := E 4) (c := E 5) (p := E 8) (r := E 9) pa d2.1
  have d : D3R E = D2R E * E 10 - (E 5 * (E 8 * E 8) - 2 * E 4 * (E 8 * E 9) + E 0 * (E 9 * E 9)) := rfl
  have c10 : 1 ≤ E 10 := by
    by_cases z : 1 ≤ E 10
    · exact z
    · have := Int.mul_le_mul_of_nonneg_left (show E 10 ≤ 0 by omega) (show 0 ≤ D2R E by omega); omega
  have m := Int.mul_le_mul (show D2R E ≤ 9801 by omega) (show E 10 ≤ 99 by omega) (by omega) (by omega)
  omega
theorem dR_bd (h1 : 1 ≤ nl) (h3 : nl ≤ 3) (h : okF nl E) {k : Nat} (hk : (k : Int) ≤ nl) : 1 ≤ dR E k ∧ dR E k ≤ 970299 := by
  have f := row_facts h1 h3 h
  rcases (show k = 0 ∨ k = 1 ∨ k = 2 ∨ k = 3 by omega) with rfl | rfl | rfl | rfl
  · show (1 : Int) ≤ 1 ∧ (1 : Int) ≤ 970299; decide
  · show 1 ≤ E 0 ∧ E 0 ≤ 970299; omega
  · have := f.2.1 (by omega); show 1 ≤ D2R E ∧ D2R E ≤ 970299; omega
  · have := f.2.2 (by omega); show 1 ≤ D3R E ∧ D3R E ≤ 970299; omega
theorem lR_le (h1 : 1 ≤ nl) (h3 : nl ≤ 3) (h : okF nl E) (x : Nat → Int) : ∀ k : Nat, (k : Int) ≤ nl → lR E t k x ≤ dR E k * t
  | 0, _ => by show t ≤ 1 * t; omega
  | k + 1, hk => by
    have i := lR_le h1 h3 h x k (by omega)
    have d0 := dR_bd h1 h3 h (k := k) (by omega)
    have d1 := dR_bd h1 h3 h (k := k + 1) hk
    have s := lR_step (t := t) (E := E) (k := k) (by omega) x
    have q := sq_nn (dR E k * x k + smS (sR E) x k k)
    have m := Int.mul_le_mul_of_nonneg_left i (show 0 ≤ dR E (k + 1) by omega)
    refine Int.le_of_mul_le_mul_left (a := dR E k) ?_ (by omega)
    rw [show dR E k * (dR E (k + 1) * t) = dR E (k + 1) * (dR E k * t) by grind]
    omega
theorem bnd_facts (h1 : 1 ≤ nl) (h3 : nl ≤ 3) (h : okF nl E) (ht : 1 ≤ t ∧ t ≤ 100) {k : Nat} (hk : (k : Int) < nl) : (0 ≤ bndC nl E t k ∧ bndC nl E t k ≤ 99) ∧ (1 ≤ E (5 * k) ∧ E (5 * k) ≤ 99) ∧ E (5 * k) * t < (bndC nl E t k + 1) * (bndC nl E t k + 1) := by
  have f := row_facts h1 h3 h
  have e : 1 ≤ E (5 * k) ∧ E (5 * k) ≤ 99 := by
    rcases (show k = 0 ∨ k = 1 ∨ k = 2 by omega) with rfl | rfl | rfl
    · exact f.1
    · exact (f.2.1 (by omega)).1
    · exact (f.2.2 (by omega)).1
  refine ⟨bndC_bd _ _ _ _, e, ?_⟩
  have m0 := Int.mul_nonneg (show 0 ≤ E (5 * k) by omega) (show 0 ≤ t by omega)
  have m1 := Int.mul_le_mul e.2 ht.2 (by omega) (by omega)
  have r := rootQ_spec (v := E (5 * k) * t) m0 (by omega)
  unfold bndC
  rw [if_pos hk]
  by_cases g : 99 < rootQ (E (5 * k) * t)
  · have := Int.mul_le_mul (show 100 ≤ rootQ (E (5 * k) * t) by omega) (show 100 ≤ rootQ (E (5 * k) * t) by omega) (by omega) (by omega)
    omega
  · rw [if_neg g]; exact r.2.2
def eR (nl : Int) (E : Nat → Int) (t : Int) : EP := (nl.toNat, 1, 0, sR E, fun k => dR E (k + 1), lR E t, fun k => bndC nl E t k)
/-- a row's number stays in its box -/
theorem boxR (h1 : 1 ≤ nl) (h3 : nl ≤ 3) (h : okF nl E) {k : Nat} (hk : (k : Int) < nl) {v : Int} (hv : v * v ≤ dR E (k + 1) * lR E t k x - 1) : (v - smS (sR E) x k k) * (v - smS (sR E) x k k) < dR E k * dR E k * (E (5 * k) * t) := by
  have f := row_facts h1 h3 h
  rcases (show k = 0 ∨ k = 1 ∨ k = 2 by omega) with rfl | rfl | rfl
  · refine row_box (D3 := E 0) (D2 := 1) (f := E 0) (w := 0) (q := 0) (u := 0) f.1.1 (by decide) (by decide) (by decide) (by omega) (by omega) ?_
    have hv' : v * v ≤ E 0 * t - 1 := hv
    show (v - 0 + 0) * (v - 0 + 0) + E 0 * 0 ≤ E 0 * (1 * t) - 1
    rw [Int.sub_zero, Int.add_zero, Int.one_mul]; omega
  · have f2 := f.2.1 (by omega)
    have d : D2R E = E 0 * E 5 - E 4 * E 4 := rfl
    have hv' : v * v ≤ D2R E * (E 0 * t - x 0 * x 0) - 1 := hv
    refine row_box (D3 := D2R E) (D2 := E 0) (f := E 5) (w := E 4 * E 4) (q := x 0 * x 0) (u := smS (sR E) x 1 1) f2.2.1 (sq_nn _) (sq_nn _) ?_ (by omega) (Int.mul_pos (by omega) (by omega)) ?_
    · show (0 + -E 4 * x 0) * (0 + -E 4 * x 0) ≤ E 4 * E 4 * (x 0 * x 0)
      rw [show (0 + -E 4 * x 0) * (0 + -E 4 * x 0) = E 4 * E 4 * (x 0 * x 0) by grind]; exact Int.le_refl _
    · rw [Int.sub_add_cancel]
      rw [Int.mul_sub] at hv'; omega
  · have f2 := f.2.1 (by omega)
    have f3 := f.2.2 (by omega)
    have d : D3R E = D2R E * E 10 - (E 5 * (E 8 * E 8) - 2 * E 4 * (E 8 * E 9) + E 0 * (E 9 * E 9)) := rfl
    have hv' : v * v ≤ D3R E * (D2R E * t - (E 5 * (x 0 * x 0) - 2 * E 4 * (x 0 * x 1) + E 0 * (x 1 * x 1))) - 1 := hv
    refine row_box (D3 := D3R E) (D2 := D2R E) (f := E 10) (w := E 5 * (E 8 * E 8) - 2 * E 4 * (E 8 * E 9) + E 0 * (E 9 * E 9)) (q := E 5 * (x 0 * x 0) - 2 * E 4 * (x 0 * x 1) + E 0 * (x 1 * x 1)) (u := smS (sR E) x 2 2) f3.2.1 (q2_nn f.1.1 f2.2.1) (q2_nn f.1.1 f2.2.1) ?_ (by omega) (Int.mul_pos (by omega) (by omega)) ?_
    · show (0 + (E 4 * E 9 - E 5 * E 8) * x 0 + (E 4 * E 8 - E 0 * E 9) * x 1) * (0 + (E 4 * E 9 - E 5 * E 8) * x 0 + (E 4 * E 8 - E 0 * E 9) * x 1) ≤ _
      have s := Int.mul_nonneg (show 0 ≤ D2R E by omega) (sq_nn (E 8 * x 1 - E 9 * x 0))
      unfold D2R at s
      generalize E 0 = a at *; generalize E 4 = b at *; generalize E 5 = c at *; generalize E 8 = p at *; generalize E 9 = r at *; generalize x 0 = x0 at *; generalize x 1 = x1 at *
      have id : (c * (p * p) - 2 * b * (p * r) + a * (r * r)) * (c * (x0 * x0) - 2 * b * (x0 * x1) + a * (x1 * x1)) - (0 + (b * r - c * p) * x0 + (b * p - a * r) * x1) * (0 + (b * r - c * p) * x0 + (b * p - a * r) * x1) = (a * c - b * b) * ((p * x1 - r * x0) * (p * x1 - r * x0)) := by grind
      omega
    · rw [Int.sub_add_cancel]
      rw [Int.mul_sub] at hv'; omega
theorem eR_ok (h1 : 1 ≤ nl) (h3 : nl ≤ 3) (h : okF nl E) (ht : 1 ≤ t ∧ t ≤ 100) : (eR nl E t).ok := by
  have en : (eR nl E t).n = nl.toNat := rfl
  have ent := h.2.1.1
  refine ⟨by rw [en]; omega, Or.inr rfl, Or.inl rfl, fun k hk => ?_, fun k j hk hj => ?_, fun k x hk => ?_, fun k x y hk hxy => lR_cg hxy, fun k x hk => ?_, fun k x v hk hl hv => ?_, ?_⟩
  · rw [en] at hk
    have d := dR_bd h1 h3 h (k := k) (by omega)
    have d2 := dR_bd h1 h3 h (k := k + 1) (by omega)
    have b := bndC_bd nl E t k
    refine ⟨?_, ⟨d2.1, ?_⟩, ?_, ?_⟩
    · show 1 ≤ sR E k k; rw [sR_diag (by omega)]; exact d.1
    · show dR E (k + 1) ≤ 1000000; omega
    · exact b.1
    · show bndC nl E t k ≤ 1000000; omega
  · rw [en] at hk
    have m : ∀ i j, i < 16 → j < 16 → -9801 ≤ E i * E j ∧ E i * E j ≤ 9801 := fun i j hi hj => mul_bd (A := 99) (B := 99) (by have := ent i hi; omega) (by have := ent i hi; omega) (by have := ent j hj; omega) (by have := ent j hj; omega)
    have a0 := ent 0 (by omega)
    have a4 := ent 4 (by omega)
    have m1 := m 4 9 (by omega) (by omega)
    have m2 := m 5 8 (by omega) (by omega)
    have m3 := m 4 8 (by omega) (by omega)
    have m4 := m 0 9 (by omega) (by omega)
    have m5 := m 0 5 (by omega) (by omega)
    have m6 := m 4 4 (by omega) (by omega)
    show -100000000 ≤ sR E k j ∧ sR E k j ≤ 100000000
    unfold sR D2R
    split
    · omega
    · split
      · split <;> omega
      · split
        · omega
        · split <;> omega
  · rw [en] at hk
    have := lR_step (E := E) (t := t) (k := k) (by omega) x
    show sR E k k * lR E t (k + 1) x = dR E (k + 1) * lR E t k x - (sR E k k * x k + smS (sR E) x k k) * (sR E k k * x k + smS (sR E) x k k)
    rw [sR_diag (by omega)]; exact this
  · rw [en] at hk
    have a := lR_le (t := t) h1 h3 h x k (by omega)
    have d := dR_bd h1 h3 h (k := k) (by omega)
    have m := Int.mul_le_mul d.2 ht.2 (by omega) (by omega)
    show lR E t k x ≤ 100000000000
    omega
  · rw [en] at hk
    have b := boxR (t := t) (x := x) h1 h3 h (k := k) (by omega) hv
    have bf := bnd_facts h1 h3 h ht (k := k) (by omega)
    have d := dR_bd h1 h3 h (k := k) (by omega)
    show -((bndC nl E t k + 1) * sR E k k) < v - smS (sR E) x k k ∧ v - smS (sR E) x k k < (bndC nl E t k + 1) * sR E k k
    rw [sR_diag (by omega)]
    refine sq_lt (Int.mul_nonneg (by omega) (by omega)) ?_
    have m := Int.mul_lt_mul_of_pos_left bf.2.2 (Int.mul_pos (show 0 < dR E k by omega) (show 0 < dR E k by omega))
    rw [show (bndC nl E t k + 1) * dR E k * ((bndC nl E t k + 1) * dR E k) = dR E k * dR E k * ((bndC nl E t k + 1) * (bndC nl E t k + 1)) by grind]
    omega
  · have b0 := bndC_bd nl E t 0
    have b1 := bndC_bd nl E t 1
    rcases (show nl = 1 ∨ nl = 2 ∨ nl = 3 by omega) with rfl | rfl | rfl
    · show (0 : Int) + (2 * bndC 1 E t 0 + 1) * 0 + ((1 : Nat) : Int) ≤ 3999998
      omega
    · show (0 : Int) + (2 * bndC 2 E t 0 + 1) * (2 + (2 * bndC 2 E t 1 + 1) * 0) + (2 * bndC 2 E t 1 + 1) * 0 + ((2 : Nat) : Int) ≤ 3999998
      omega
    · show (0 : Int) + (2 * bndC 3 E t 0 + 1) * (2 + (2 * bndC 3 E t 1 + 1) * (2 + (2 * bndC 3 E t 2 + 1) * 0)) + (2 * bndC 3 E t 1 + 1) * (2 + (2 * bndC 3 E t 2 + 1) * 0) + (2 * bndC 3 E t 2 + 1) * 0 + ((3 : Nat) : Int) ≤ 3999998
      have m := mul_bd (a := 2 * bndC 3 E t 0 + 1) (b := 2 + (2 * bndC 3 E t 1 + 1) * 2) (A := 199) (B := 400) (by omega) (by omega) (by omega) (by omega)
      rw [show (2 * bndC 3 E t 2 + 1) * (0 : Int) = 0 from Int.mul_zero _, show (2 : Int) + 0 = 2 from rfl]
      omega
end Rowok
