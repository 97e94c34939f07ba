/-! POSITIVE FORMS: where the minors are above 0, no worth is below 0 -/
def t2 (a b c d : Int) : Int := a * d - b * c
def t3 (a b c d e f g h i : Int) : Int := a * (e * i - f * h) - b * (d * i - f * g) + c * (d * h - e * g)
def t4 (a b c d e f g h i j : Int) : Int := j * t3 a b c b e f c f h - i * t3 a b c b e f d g i + g * t3 a b c c f h d g i - d * t3 b e f c f h d g i
theorem ex_3 (a b c e f h : Int) : t2 a b b e * t2 a c c h - t2 a b c f * t2 a b c f = a * t3 a b c b e f c f h := by unfold t2 t3; grind
theorem ex_3b (a b c d e f g i : Int) : t2 a b b e * t2 a c d i - t2 a b c f * t2 a b d g = a * t3 a b d b e g c f i := by unfold t2 t3; grind
theorem ex_4 (a b c d e f g h i j : Int) : t3 a b c b e f c f h * t3 a b d b e g d g j - t3 a b d b e g c f i * t3 a b d b e g c f i = t2 a b b e * t4 a b c d e f g h i j := by unfold t4 t2 t3; grind
theorem sq_nn (x : Int) : 0 ≤ x * x := by
  rcases Int.le_total 0 x with h | h
  · exact Int.mul_nonneg h h
  · have := Int.mul_nonneg (a := -x) (b := -x) (by omega) (by omega)
    rw [Int.neg_mul_neg] at this; exact this
theorem nn_of_mul {a b : Int} (ha : 0 < a) (h : 0 ≤ a * b) : 0 ≤ b := by
  by_cases hb : 0 ≤ b
  · exact hb
  · have h1 : a * b < 0 := Int.mul_neg_of_pos_of_neg ha (by omega)
    omega
