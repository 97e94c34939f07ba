/-! ROWS AS AN ENUMERATION -/
section Rowen
variable {nl t : Int} {E x y : Nat → Int}
def D2R (E : Nat → Int) : Int := E 0 * E 5 - E 4 * E 4
def D3R (E : Nat → Int) : Int := D2R E * E 10 - (E 5 * (E 8 * E 8) - 2 * E 4 * (E 8 * E 9) + E 0 * (E 9 * E 9))
def dR (E : Nat → Int) (k : Nat) : Int := if k = 0 then 1 else if k = 1 then E 0 else if k = 2 then D2R E else D3R E
def sR (E : Nat → Int) (k j : Nat) : Int := if k = 0 then 1 else if k = 1 then (if j = 0 then -E 4 else E 0) else (if j = 0 then E 4 * E 9 - E 5 * E 8 else if j = 1 then E 4 * E 8 - E 0 * E 9 else D2R E)
def lR (E : Nat → Int) (t : Int) (k : Nat) (x : Nat → Int) : Int := if k = 0 then t else if k = 1 then E 0 * t - x 0 * x 0 else if k = 2 then D2R E * t - (E 5 * (x 0 * x 0) - 2 * E 4 * (x 0 * x 1) + E 0 * (x 1 * x 1)) else D3R E * t - ((E 5 * E 10 - E 9 * E 9) * (x 0 * x 0) + (E 0 * E 10 - E 8 * E 8) * (x 1 * x 1) + D2R E * (x 2 * x 2) + 2 * (E 8 * E 9 - E 4 * E 10) * (x 0 * x 1) + 2 * (E 4 * E 9 - E 5 * E 8) * (x 0 * x 2) + 2 * (E 4 * E 8 - E 0 * E 9) * (x 1 * x 2))
theorem sR_diag {k : Nat} (hk : k < 3) : sR E k k = dR E k := by
  rcases (show k = 0 ∨ k = 1 ∨ k = 2 by omega) with rfl | rfl | rfl <;> rfl
theorem lR_step {k : Nat} (hk : k < 3) (x : Nat → Int) : dR E k * lR E t (k + 1) x = dR E (k + 1) * lR E t k x - (dR E k * x k + smS (sR E) x k k) * (dR E k * x k + smS (sR E) x k k) := by
  rcases (show k = 0 ∨ k = 1 ∨ k = 2 by omega) with rfl | rfl | rfl
  · show 1 * (E 0 * t - x 0 * x 0) = E 0 * t - (1 * x 0 + 0) * (1 * x 0 + 0)
    simp
  · show E 0 * (D2R E * t - (E 5 * (x 0 * x 0) - 2 * E 4 * (x 0 * x 1) + E 0 * (x 1 * x 1))) = D2R E * (E 0 * t - x 0 * x 0) - (E 0 * x 1 + (0 + -E 4 * x 0)) * (E 0 * x 1 + (0 + -E 4 * x 0))
    unfold D2R
    generalize E 0 = a; generalize E 4 = b; generalize E 5 = c; generalize x 0 = x0; generalize x 1 = x1
    grind
  · show D2R E * (D3R E * t - ((E 5 * E 10 - E 9 * E 9) * (x 0 * x 0) + (E 0 * E 10 - E 8 * E 8) * (x 1 * x 1) + D2R E * (x 2 * x 2) + 2 * (E 8 * E 9 - E 4 * E 10) * (x 0 * x 1) + 2 * (E 4 * E 9 - E 5 * E 8) * (x 0 * x 2) + 2 * (E 4 * E 8 - E 0 * E 9) * (x 1 * x 2))) = D3R E * (D2R E * t - (E 5 * (x 0 * x 0) - 2 * E 4 * (x 0 * x 1) + E 0 * (x 1 * x 1))) - (D2R E * x 2 + (0 + (E 4 * E 9 - E 5 * E 8) * x 0 + (E 4 * E 8 - E 0 * E 9) * x 1)) * (D2R E * x 2 + (0 + (E 4 * E 9 - E 5 * E 8) * x 0 + (E 4 * E 8 - E 0 * E 9) * x 1))
    unfold D3R D2R
    generalize E 0 = a; generalize E 4 = b; generalize E 5 = c; generalize E 8 = d; generalize E 9 = e; generalize E 10 = f; generalize x 0 = x0; generalize x 1 = x1; generalize x 2 = x2
    grind
theorem lR_cg {k : Nat} (h : ∀ j, j < k → x j = y j) : lR E t k x = lR E t k y := by
  unfold lR
  by_cases k0 : k = 0
  · rw [if_pos k0, if_pos k0]
  · rw [if_neg k0, if_neg k0, h 0 (by omega)]
    by_cases k1 : k = 1
    · rw [if_pos k1, if_pos k1]
    · rw [if_neg k1, if_neg k1, h 1 (by omega)]
      by_cases k2 : k = 2
      · rw [if_pos k2, if_pos k2]
      · rw [if_neg k2, if_neg k2, h 2 (by omega)]
/-- how far a row's number may go -/
theorem row_box {D3 D2 f t w q u X : Int} (h3 : 1 ≤ D3) (hw : 0 ≤ w) (hq : 0 ≤ q) (hu : u * u ≤ w * q) (hf : D2 * f = D3 + w) (hf0 : 0 < D2 * f) (h : (X + u) * (X + u) + D3 * q ≤ D3 * (D2 * t) - 1) : X * X < D2 * D2 * (f * t) := by
  have cl : D3 * (X * X) ≤ (D3 + w) * ((X + u) * (X + u) + D3 * q) := by
    by_cases w0 : w = 0
    · subst w0
      have u0 : u = 0 := by
        have := sq_nn u
        rcases Int.mul_eq_zero.mp (show u * u = 0 by omega) with z | z <;> exact z
      subst u0
      rw [Int.add_zero, Int.add_zero, Int.mul_add]
      have := Int.mul_nonneg (show 0 ≤ D3 by omega) (Int.mul_nonneg (show 0 ≤ D3 by omega) hq)
      omega
    · have s1 := sq_nn (w * X + (D3 + w) * u)
      have s2 := Int.mul_nonneg (Int.mul_nonneg (show 0 ≤ D3 by omega) (show 0 ≤ D3 + w by omega)) (show 0 ≤ w * q - u * u by omega)
      have id : w * ((D3 + w) * ((X + u) * (X + u) + D3 * q)) - w * (D3 * (X * X)) = (w * X + (D3 + w) * u) * (w * X + (D3 + w) * u) + D3 * (D3 + w) * (w * q - u * u) := by grind
      refine Int.le_of_mul_le_mul_left (a := w) ?_ (by omega)
      omega
  have c2 := Int.mul_le_mul_of_nonneg_left h (show 0 ≤ D3 + w by omega)
  have e1 : (D3 + w) * (D3 * (D2 * t) - 1) = D3 * (D2 * D2 * (f * t)) - (D3 + w) := by rw [← hf]; grind
  refine Int.lt_of_mul_lt_mul_left (a := D3) ?_ (by omega)
  omega
end Rowen
