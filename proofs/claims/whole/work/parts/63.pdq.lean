/-! POSITIVE: worths are above 0 but at 0; then the leading minors are, in every order of the letters -/
theorem cof_4 (a b c d e f g h i j : Int) : a * (-t3 b e f c f h d g i) + b * t3 a b c c f h d g i + c * (-t3 a b c b e f d g i) + d * t3 a b c b e f c f h = 0 ∧ b * (-t3 b e f c f h d g i) + e * t3 a b c c f h d g i + f * (-t3 a b c b e f d g i) + g * t3 a b c b e f c f h = 0 ∧ c * (-t3 b e f c f h d g i) + f * t3 a b c c f h d g i + h * (-t3 a b c b e f d g i) + i * t3 a b c b e f c f h = 0 := by
  unfold t3; refine ⟨?_, ?_, ?_⟩ <;> grind
theorem z_of_sq {x : Int} (h : x * x = 0) : x = 0 := by rcases Int.mul_eq_zero.mp h with h | h <;> exact h
theorem z_of_mul {a x : Int} (ha : 0 < a) (h : a * x = 0) : x = 0 := by rcases Int.mul_eq_zero.mp h with h | h; omega; exact h
theorem pos_of_mul {a b : Int} (ha : 0 < a) (h : 0 < a * b) : 0 < b := by
  by_cases hb : 0 < b
  · exact hb
  · have := Int.mul_nonpos_of_nonneg_of_nonpos (a := a) (b := b) (by omega) (by omega); omega
section PosQ
variable {T : Nat → Nat → Int}
def symT (T : Nat → Nat → Int) : Prop := ∀ i j, i < 4 → j < 4 → T i j = T j i
def PDQ (T : Nat → Nat → Int) : Prop := ∀ x0 x1 x2 x3 : Int, (x0 ≠ 0 ∨ x1 ≠ 0 ∨ x2 ≠ 0 ∨ x3 ≠ 0) → 0 < QT T (x0, x1, x2, x3)
theorem PDQ_of (h : PD T) : PDQ T := by
  intro x0 x1 x2 x3 hx
  have hc := (PD_chain h (x0, x1, x2, x3)).2.2
  by_cases h0 : QT T (x0, x1, x2, x3) = 0
  · exfalso
    obtain ⟨h1, h2, h3, h4⟩ := h
    have c := PD_chain (T := T) ⟨h1, h2, h3, h4⟩ (x0, x1, x2, x3)
    have a3 := sq_3 (T := T) (x0, x1, x2, x3)
    have a2 := sq_2 (T := T) (x0, x1, x2, x3)
    have a1 := sq_1 (T := T) (x0, x1, x2, x3)
    rw [h0, Int.mul_zero] at a1
    have n1 := sq_nn (T 0 0 * x0 + T 0 1 * x1 + T 0 2 * x2 + T 0 3 * x3)
    dsimp only at a1 a2 a3
    have q1 : Q1 T (x0, x1, x2, x3) = 0 := by omega
    have e1 := z_of_sq (x := T 0 0 * x0 + T 0 1 * x1 + T 0 2 * x2 + T 0 3 * x3) (by omega)
    rw [q1, Int.mul_zero] at a2
    have n2 := sq_nn (P2 T * x1 + t2 (T 0 0) (T 0 1) (T 0 2) (T 1 2) * x2 + t2 (T 0 0) (T 0 1) (T 0 3) (T 1 3) * x3)
    have m2 := Int.mul_nonneg (Int.le_of_lt h1) c.1
    have q2 : Q2 T (x0, x1, x2, x3) = 0 := z_of_mul h1 (by omega)
    have e2 := z_of_sq (x := P2 T * x1 + t2 (T 0 0) (T 0 1) (T 0 2) (T 1 2) * x2 + t2 (T 0 0) (T 0 1) (T 0 3) (T 1 3) * x3) (by omega)
    rw [q2, Int.mul_zero] at a3
    have n3 := sq_nn (P3 T * x2 + U23 T * x3)
    have m3 := Int.mul_nonneg (Int.le_of_lt (Int.mul_pos h2 h4)) (sq_nn x3)
    have e3 := z_of_sq (x := P3 T * x2 + U23 T * x3) (by omega)
    have z3 : x3 = 0 := z_of_sq (z_of_mul (Int.mul_pos h2 h4) (by omega))
    subst z3
    rw [Int.mul_zero, Int.add_zero] at e3 e2 e1
    have z2 : x2 = 0 := z_of_mul h3 e3
    subst z2
    rw [Int.mul_zero, Int.add_zero] at e2 e1
    have z1 : x1 = 0 := z_of_mul h2 e2
    subst z1
    rw [Int.mul_zero, Int.add_zero] at e1
    have z0 : x0 = 0 := z_of_mul h1 e1
    omega
  · omega
theorem PD_of (h : PDQ T) : PD T := by
  have h1 : 0 < T 0 0 := by have := h 1 0 0 0 (by omega); unfold QT at this; simp at this; exact this
  have h2 : 0 < P2 T := by
    have q := h (-T 0 1) (T 0 0) 0 0 (by omega)
    have e : QT T (-T 0 1, T 0 0, 0, 0) = T 0 0 * P2 T := by unfold QT P2 t2; grind
    rw [e] at q; exact pos_of_mul h1 q
  have h3 : 0 < P3 T := by
    have q := h (T 0 1 * T 1 2 - T 0 2 * T 1 1) (T 0 1 * T 0 2 - T 0 0 * T 1 2) (P2 T) 0 (by omega)
    have e : QT T (T 0 1 * T 1 2 - T 0 2 * T 1 1, T 0 1 * T 0 2 - T 0 0 * T 1 2, P2 T, 0) = P2 T * P3 T := by unfold QT P3 P2 t3 t2; grind
    rw [e] at q; exact pos_of_mul h2 q
  refine ⟨h1, h2, h3, ?_⟩
  have k := cof_4 (T 0 0) (T 0 1) (T 0 2) (T 0 3) (T 1 1) (T 1 2) (T 1 3) (T 2 2) (T 2 3) (T 3 3)
  generalize hc0 : -t3 (T 0 1) (T 1 1) (T 1 2) (T 0 2) (T 1 2) (T 2 2) (T 0 3) (T 1 3) (T 2 3) = c0 at k
  generalize hc1 : t3 (T 0 0) (T 0 1) (T 0 2) (T 0 2) (T 1 2) (T 2 2) (T 0 3) (T 1 3) (T 2 3) = c1 at k
  generalize hc2 : -t3 (T 0 0) (T 0 1) (T 0 2) (T 0 1) (T 1 1) (T 1 2) (T 0 3) (T 1 3) (T 2 3) = c2 at k
  have hc3 : t3 (T 0 0) (T 0 1) (T 0 2) (T 0 1) (T 1 1) (T 1 2) (T 0 2) (T 1 2) (T 2 2) = P3 T := rfl
  rw [hc3] at k
  have q := h c0 c1 c2 (P3 T) (by omega)
  have e4 : P4 T = T 0 3 * c0 + T 1 3 * c1 + T 2 3 * c2 + T 3 3 * P3 T := by
    rw [← hc0, ← hc1, ← hc2, ← hc3]; unfold P4 t4; grind
  have e : QT T (c0, c1, c2, P3 T) = c0 * (T 0 0 * c0 + T 0 1 * c1 + T 0 2 * c2 + T 0 3 * P3 T) + c1 * (T 0 1 * c0 + T 1 1 * c1 + T 1 2 * c2 + T 1 3 * P3 T) + c2 * (T 0 2 * c0 + T 1 2 * c1 + T 2 2 * c2 + T 2 3 * P3 T) + P3 T * (T 0 3 * c0 + T 1 3 * c1 + T 2 3 * c2 + T 3 3 * P3 T) := by
    generalize P3 T = p3
    unfold QT; grind
  rw [e, k.1, k.2.1, k.2.2, ← e4] at q
  simp only [Int.mul_zero, Int.zero_add] at q
  exact pos_of_mul h3 q
/-- letters in another order -/
def pmT (s : Nat → Nat) (T : Nat → Nat → Int) : Nat → Nat → Int := fun i j => T (s i) (s j)
/-- without letter k; the last one a square alone -/
def sub3 (k : Nat) (T : Nat → Nat → Int) : Nat → Nat → Int := fun i j => if i < 3 ∧ j < 3 then T (if k ≤ i then i + 1 else i) (if k ≤ j then j + 1 else j) else if i = j then 1 else 0
theorem sw01_Q (hs : symT T) (y0 y1 y2 y3 : Int) : QT (pmT (swi 0 1) T) (y0, y1, y2, y3) = QT T (y1, y0, y2, y3) := by
  show T 1 1 * y0 * y0 + T 0 0 * y1 * y1 + T 2 2 * y2 * y2 + (2 * T 1 0 * y0 * y1 + 2 * T 1 2 * y0 * y2 + 2 * T 0 2 * y1 * y2) + (2 * T 1 3 * y0 + 2 * T 0 3 * y1 + 2 * T 2 3 * y2) * y3 + T 3 3 * y3 * y3 = T 0 0 * y1 * y1 + T 1 1 * y0 * y0 + T 2 2 * y2 * y2 + (2 * T 0 1 * y1 * y0 + 2 * T 0 2 * y1 * y2 + 2 * T 1 2 * y0 * y2) + (2 * T 0 3 * y1 + 2 * T 1 3 * y0 + 2 * T 2 3 * y2) * y3 + T 3 3 * y3 * y3
  rw [hs 1 0 (by omega) (by omega)]; grind
theorem sw01_PDQ (hs : symT T) (h : PDQ T) : PDQ (pmT (swi 0 1) T) := by
  intro y0 y1 y2 y3 hy; rw [sw01_Q hs]; exact h _ _ _ _ (by omega)
theorem sw01_P4 (hs : symT T) : P4 (pmT (swi 0 1) T) = P4 T := by
  show t4 (T 1 1) (T 1 0) (T 1 2) (T 1 3) (T 0 0) (T 0 2) (T 0 3) (T 2 2) (T 2 3) (T 3 3) = t4 (T 0 0) (T 0 1) (T 0 2) (T 0 3) (T 1 1) (T 1 2) (T 1 3) (T 2 2) (T 2 3) (T 3 3)
  rw [hs 1 0 (by omega) (by omega)]; unfold t4 t3; grind
theorem sw01_R0 (hs : symT T) : P3 (sub3 0 (pmT (swi 0 1) T)) = P3 (sub3 1 T) := by
  show t3 (T 0 0) (T 0 2) (T 0 3) (T 0 2) (T 2 2) (T 2 3) (T 0 3) (T 2 3) (T 3 3) = t3 (T 0 0) (T 0 2) (T 0 3) (T 0 2) (T 2 2) (T 2 3) (T 0 3) (T 2 3) (T 3 3)
  unfold t3; grind
theorem sw01_R1 (hs : symT T) : P3 (sub3 1 (pmT (swi 0 1) T)) = P3 (sub3 0 T) := by
  show t3 (T 1 1) (T 1 2) (T 1 3) (T 1 2) (T 2 2) (T 2 3) (T 1 3) (T 2 3) (T 3 3) = t3 (T 1 1) (T 1 2) (T 1 3) (T 1 2) (T 2 2) (T 2 3) (T 1 3) (T 2 3) (T 3 3)
  unfold t3; grind
theorem sw01_R2 (hs : symT T) : P3 (sub3 2 (pmT (swi 0 1) T)) = P3 (sub3 2 T) := by
  show t3 (T 1 1) (T 1 0) (T 1 3) (T 1 0) (T 0 0) (T 0 3) (T 1 3) (T 0 3) (T 3 3) = t3 (T 0 0) (T 0 1) (T 0 3) (T 0 1) (T 1 1) (T 1 3) (T 0 3) (T 1 3) (T 3 3)
  rw [hs 1 0 (by omega) (by omega)]; unfold t3; grind
theorem sw01_R3 (hs : symT T) : P3 (sub3 3 (pmT (swi 0 1) T)) = P3 (sub3 3 T) := by
  show t3 (T 1 1) (T 1 0) (T 1 2) (T 1 0) (T 0 0) (T 0 2) (T 1 2) (T 0 2) (T 2 2) = t3 (T 0 0) (T 0 1) (T 0 2) (T 0 1) (T 1 1) (T 1 2) (T 0 2) (T 1 2) (T 2 2)
  rw [hs 1 0 (by omega) (by omega)]; unfold t3; grind
theorem sw02_Q (hs : symT T) (y0 y1 y2 y3 : Int) : QT (pmT (swi 0 2) T) (y0, y1, y2, y3) = QT T (y2, y1, y0, y3) := by
  show T 2 2 * y0 * y0 + T 1 1 * y1 * y1 + T 0 0 * y2 * y2 + (2 * T 2 1 * y0 * y1 + 2 * T 2 0 * y0 * y2 + 2 * T 1 0 * y1 * y2) + (2 * T 2 3 * y0 + 2 * T 1 3 * y1 + 2 * T 0 3 * y2) * y3 + T 3 3 * y3 * y3 = T 0 0 * y2 * y2 + T 1 1 * y1 * y1 + T 2 2 * y0 * y0 + (2 * T 0 1 * y2 * y1 + 2 * T 0 2 * y2 * y0 + 2 * T 1 2 * y1 * y0) + (2 * T 0 3 * y2 + 2 * T 1 3 * y1 + 2 * T 2 3 * y0) * y3 + T 3 3 * y3 * y3
  rw [hs 1 0 (by omega) (by omega), hs 2 0 (by omega) (by omega), hs 2 1 (by omega) (by omega)]; grind
theorem sw02_PDQ (hs : symT T) (h : PDQ T) : PDQ (pmT (swi 0 2) T) := by
  intro y0 y1 y2 y3 hy; rw [sw02_Q hs]; exact h _ _ _ _ (by omega)
theorem sw02_P4 (hs : symT T) : P4 (pmT (swi 0 2) T) = P4 T := by
  show t4 (T 2 2) (T 2 1) (T 2 0) (T 2 3) (T 1 1) (T 1 0) (T 1 3) (T 0 0) (T 0 3) (T 3 3) = t4 (T 0 0) (T 0 1) (T 0 2) (T 0 3) (T 1 1) (T 1 2) (T 1 3) (T 2 2) (T 2 3) (T 3 3)
  rw [hs 1 0 (by omega) (by omega), hs 2 0 (by omega) (by omega), hs 2 1 (by omega) (by omega)]; unfold t4 t3; grind
theorem sw02_R0 (hs : symT T) : P3 (sub3 0 (pmT (swi 0 2) T)) = P3 (sub3 2 T) := by
  show t3 (T 1 1) (T 1 0) (T 1 3) (T 1 0) (T 0 0) (T 0 3) (T 1 3) (T 0 3) (T 3 3) = t3 (T 0 0) (T 0 1) (T 0 3) (T 0 1) (T 1 1) (T 1 3) (T 0 3) (T 1 3) (T 3 3)
  rw [hs 1 0 (by omega) (by omega)]; unfold t3; grind
theorem sw02_R1 (hs : symT T) : P3 (sub3 1 (pmT (swi 0 2) T)) = P3 (sub3 1 T) := by
  show t3 (T 2 2) (T 2 0) (T 2 3) (T 2 0) (T 0 0) (T 0 3) (T 2 3) (T 0 3) (T 3 3) = t3 (T 0 0) (T 0 2) (T 0 3) (T 0 2) (T 2 2) (T 2 3) (T 0 3) (T 2 3) (T 3 3)
  rw [hs 2 0 (by omega) (by omega)]; unfold t3; grind
theorem sw02_R2 (hs : symT T) : P3 (sub3 2 (pmT (swi 0 2) T)) = P3 (sub3 0 T) := by
  show t3 (T 2 2) (T 2 1) (T 2 3) (T 2 1) (T 1 1) (T 1 3) (T 2 3) (T 1 3) (T 3 3) = t3 (T 1 1) (T 1 2) (T 1 3) (T 1 2) (T 2 2) (T 2 3) (T 1 3) (T 2 3) (T 3 3)
  rw [hs 2 1 (by omega) (by omega)]; unfold t3; grind
theorem sw02_R3 (hs : symT T) : P3 (sub3 3 (pmT (swi 0 2) T)) = P3 (sub3 3 T) := by
  show t3 (T 2 2) (T 2 1) (T 2 0) (T 2 1) (T 1 1) (T 1 0) (T 2 0) (T 1 0) (T 0 0) = t3 (T 0 0) (T 0 1) (T 0 2) (T 0 1) (T 1 1) (T 1 2) (T 0 2) (T 1 2) (T 2 2)
  rw [hs 1 0 (by omega) (by omega), hs 2 0 (by omega) (by omega), hs 2 1 (by omega) (by omega)]; unfold t3; grind
theorem sw03_Q (hs : symT T) (y0 y1 y2 y3 : Int) : QT (pmT (swi 0 3) T) (y0, y1, y2, y3) = QT T (y3, y1, y2, y0) := by
  show T 3 3 * y0 * y0 + T 1 1 * y1 * y1 + T 2 2 * y2 * y2 + (2 * T 3 1 * y0 * y1 + 2 * T 3 2 * y0 * y2 + 2 * T 1 2 * y1 * y2) + (2 * T 3 0 * y0 + 2 * T 1 0 * y1 + 2 * T 2 0 * y2) * y3 + T 0 0 * y3 * y3 = T 0 0 * y3 * y3 + T 1 1 * y1 * y1 + T 2 2 * y2 * y2 + (2 * T 0 1 * y3 * y1 + 2 * T 0 2 * y3 * y2 + 2 * T 1 2 * y1 * y2) + (2 * T 0 3 * y3 + 2 * T 1 3 * y1 + 2 * T 2 3 * y2) * y0 + T 3 3 * y0 * y0
  rw [hs 1 0 (by omega) (by omega), hs 2 0 (by omega) (by omega), hs 3 0 (by omega) (by omega), hs 3 1 (by omega) (by omega), hs 3 2 (by omega) (by omega)]; grind
theorem sw03_PDQ (hs : symT T) (h : PDQ T) : PDQ (pmT (swi 0 3) T) := by
  intro y0 y1 y2 y3 hy; rw [sw03_Q hs]; exact h _ _ _ _ (by omega)
theorem sw03_P4 (hs : symT T) : P4 (pmT (swi 0 3) T) = P4 T := by
  show t4 (T 3 3) (T 3 1) (T 3 2) (T 3 0) (T 1 1) (T 1 2) (T 1 0) (T 2 2) (T 2 0) (T 0 0) = t4 (T 0 0) (T 0 1) (T 0 2) (T 0 3) (T 1 1) (T 1 2) (T 1 3) (T 2 2) (T 2 3) (T 3 3)
  rw [hs 1 0 (by omega) (by omega), hs 2 0 (by omega) (by omega), hs 3 0 (by omega) (by omega), hs 3 1 (by omega) (by omega), hs 3 2 (by omega) (by omega)]; unfold t4 t3; grind
theorem sw03_R0 (hs : symT T) : P3 (sub3 0 (pmT (swi 0 3) T)) = P3 (sub3 3 T) := by
  show t3 (T 1 1) (T 1 2) (T 1 0) (T 1 2) (T 2 2) (T 2 0) (T 1 0) (T 2 0) (T 0 0) = t3 (T 0 0) (T 0 1) (T 0 2) (T 0 1) (T 1 1) (T 1 2) (T 0 2) (T 1 2) (T 2 2)
  rw [hs 1 0 (by omega) (by omega), hs 2 0 (by omega) (by omega)]; unfold t3; grind
theorem sw03_R1 (hs : symT T) : P3 (sub3 1 (pmT (swi 0 3) T)) = P3 (sub3 1 T) := by
  show t3 (T 3 3) (T 3 2) (T 3 0) (T 3 2) (T 2 2) (T 2 0) (T 3 0) (T 2 0) (T 0 0) = t3 (T 0 0) (T 0 2) (T 0 3) (T 0 2) (T 2 2) (T 2 3) (T 0 3) (T 2 3) (T 3 3)
  rw [hs 2 0 (by omega) (by omega), hs 3 0 (by omega) (by omega), hs 3 2 (by omega) (by omega)]; unfold t3; grind
theorem sw03_R2 (hs : symT T) : P3 (sub3 2 (pmT (swi 0 3) T)) = P3 (sub3 2 T) := by
  show t3 (T 3 3) (T 3 1) (T 3 0) (T 3 1) (T 1 1) (T 1 0) (T 3 0) (T 1 0) (T 0 0) = t3 (T 0 0) (T 0 1) (T 0 3) (T 0 1) (T 1 1) (T 1 3) (T 0 3) (T 1 3) (T 3 3)
  rw [hs 1 0 (by omega) (by omega), hs 3 0 (by omega) (by omega), hs 3 1 (by omega) (by omega)]; unfold t3; grind
theorem sw03_R3 (hs : symT T) : P3 (sub3 3 (pmT (swi 0 3) T)) = P3 (sub3 0 T) := by
  show t3 (T 3 3) (T 3 1) (T 3 2) (T 3 1) (T 1 1) (T 1 2) (T 3 2) (T 1 2) (T 2 2) = t3 (T 1 1) (T 1 2) (T 1 3) (T 1 2) (T 2 2) (T 2 3) (T 1 3) (T 2 3) (T 3 3)
  rw [hs 3 1 (by omega) (by omega), hs 3 2 (by omega) (by omega)]; unfold t3; grind
theorem sw12_Q (hs : symT T) (y0 y1 y2 y3 : Int) : QT (pmT (swi 1 2) T) (y0, y1, y2, y3) = QT T (y0, y2, y1, y3) := by
  show T 0 0 * y0 * y0 + T 2 2 * y1 * y1 + T 1 1 * y2 * y2 + (2 * T 0 2 * y0 * y1 + 2 * T 0 1 * y0 * y2 + 2 * T 2 1 * y1 * y2) + (2 * T 0 3 * y0 + 2 * T 2 3 * y1 + 2 * T 1 3 * y2) * y3 + T 3 3 * y3 * y3 = T 0 0 * y0 * y0 + T 1 1 * y2 * y2 + T 2 2 * y1 * y1 + (2 * T 0 1 * y0 * y2 + 2 * T 0 2 * y0 * y1 + 2 * T 1 2 * y2 * y1) + (2 * T 0 3 * y0 + 2 * T 1 3 * y2 + 2 * T 2 3 * y1) * y3 + T 3 3 * y3 * y3
  rw [hs 2 1 (by omega) (by omega)]; grind
theorem sw12_PDQ (hs : symT T) (h : PDQ T) : PDQ (pmT (swi 1 2) T) := by
  intro y0 y1 y2 y3 hy; rw [sw12_Q hs]; exact h _ _ _ _ (by omega)
theorem sw12_P4 (hs : symT T) : P4 (pmT (swi 1 2) T) = P4 T := by
  show t4 (T 0 0) (T 0 2) (T 0 1) (T 0 3) (T 2 2) (T 2 1) (T 2 3) (T 1 1) (T 1 3) (T 3 3) = t4 (T 0 0) (T 0 1) (T 0 2) (T 0 3) (T 1 1) (T 1 2) (T 1 3) (T 2 2) (T 2 3) (T 3 3)
  rw [hs 2 1 (by omega) (by omega)]; unfold t4 t3; grind
theorem sw12_R0 (hs : symT T) : P3 (sub3 0 (pmT (swi 1 2) T)) = P3 (sub3 0 T) := by
  show t3 (T 2 2) (T 2 1) (T 2 3) (T 2 1) (T 1 1) (T 1 3) (T 2 3) (T 1 3) (T 3 3) = t3 (T 1 1) (T 1 2) (T 1 3) (T 1 2) (T 2 2) (T 2 3) (T 1 3) (T 2 3) (T 3 3)
  rw [hs 2 1 (by omega) (by omega)]; unfold t3; grind
theorem sw12_R1 (hs : symT T) : P3 (sub3 1 (pmT (swi 1 2) T)) = P3 (sub3 2 T) := by
  show t3 (T 0 0) (T 0 1) (T 0 3) (T 0 1) (T 1 1) (T 1 3) (T 0 3) (T 1 3) (T 3 3) = t3 (T 0 0) (T 0 1) (T 0 3) (T 0 1) (T 1 1) (T 1 3) (T 0 3) (T 1 3) (T 3 3)
  unfold t3; grind
theorem sw12_R2 (hs : symT T) : P3 (sub3 2 (pmT (swi 1 2) T)) = P3 (sub3 1 T) := by
  show t3 (T 0 0) (T 0 2) (T 0 3) (T 0 2) (T 2 2) (T 2 3) (T 0 3) (T 2 3) (T 3 3) = t3 (T 0 0) (T 0 2) (T 0 3) (T 0 2) (T 2 2) (T 2 3) (T 0 3) (T 2 3) (T 3 3)
  unfold t3; grind
theorem sw12_R3 (hs : symT T) : P3 (sub3 3 (pmT (swi 1 2) T)) = P3 (sub3 3 T) := by
  show t3 (T 0 0) (T 0 2) (T 0 1) (T 0 2) (T 2 2) (T 2 1) (T 0 1) (T 2 1) (T 1 1) = t3 (T 0 0) (T 0 1) (T 0 2) (T 0 1) (T 1 1) (T 1 2) (T 0 2) (T 1 2) (T 2 2)
  rw [hs 2 1 (by omega) (by omega)]; unfold t3; grind
theorem sw13_Q (hs : symT T) (y0 y1 y2 y3 : Int) : QT (pmT (swi 1 3) T) (y0, y1, y2, y3) = QT T (y0, y3, y2, y1) := by
  show T 0 0 * y0 * y0 + T 3 3 * y1 * y1 + T 2 2 * y2 * y2 + (2 * T 0 3 * y0 * y1 + 2 * T 0 2 * y0 * y2 + 2 * T 3 2 * y1 * y2) + (2 * T 0 1 * y0 + 2 * T 3 1 * y1 + 2 * T 2 1 * y2) * y3 + T 1 1 * y3 * y3 = T 0 0 * y0 * y0 + T 1 1 * y3 * y3 + T 2 2 * y2 * y2 + (2 * T 0 1 * y0 * y3 + 2 * T 0 2 * y0 * y2 + 2 * T 1 2 * y3 * y2) + (2 * T 0 3 * y0 + 2 * T 1 3 * y3 + 2 * T 2 3 * y2) * y1 + T 3 3 * y1 * y1
  rw [hs 2 1 (by omega) (by omega), hs 3 1 (by omega) (by omega), hs 3 2 (by omega) (by omega)]; grind
theorem sw13_PDQ (hs : symT T) (h : PDQ T) : PDQ (pmT (swi 1 3) T) := by
  intro y0 y1 y2 y3 hy; rw [sw13_Q hs]; exact h _ _ _ _ (by omega)
theorem sw13_P4 (hs : symT T) : P4 (pmT (swi 1 3) T) = P4 T := by
  show t4 (T 0 0) (T 0 3) (T 0 2) (T 0 1) (T 3 3) (T 3 2) (T 3 1) (T 2 2) (T 2 1) (T 1 1) = t4 (T 0 0) (T 0 1) (T 0 2) (T 0 3) (T 1 1) (T 1 2) (T 1 3) (T 2 2) (T 2 3) (T 3 3)
  rw [hs 2 1 (by omega) (by omega), hs 3 1 (by omega) (by omega), hs 3 2 (by omega) (by omega)]; unfold t4 t3; grind
theorem sw13_R0 (hs : symT T) : P3 (sub3 0 (pmT (swi 1 3) T)) = P3 (sub3 0 T) := by
  show t3 (T 3 3) (T 3 2) (T 3 1) (T 3 2) (T 2 2) (T 2 1) (T 3 1) (T 2 1) (T 1 1) = t3 (T 1 1) (T 1 2) (T 1 3) (T 1 2) (T 2 2) (T 2 3) (T 1 3) (T 2 3) (T 3 3)
  rw [hs 2 1 (by omega) (by omega), hs 3 1 (by omega) (by omega), hs 3 2 (by omega) (by omega)]; unfold t3; grind
theorem sw13_R1 (hs : symT T) : P3 (sub3 1 (pmT (swi 1 3) T)) = P3 (sub3 3 T) := by
  show t3 (T 0 0) (T 0 2) (T 0 1) (T 0 2) (T 2 2) (T 2 1) (T 0 1) (T 2 1) (T 1 1) = t3 (T 0 0) (T 0 1) (T 0 2) (T 0 1) (T 1 1) (T 1 2) (T 0 2) (T 1 2) (T 2 2)
  rw [hs 2 1 (by omega) (by omega)]; unfold t3; grind
theorem sw13_R2 (hs : symT T) : P3 (sub3 2 (pmT (swi 1 3) T)) = P3 (sub3 2 T) := by
  show t3 (T 0 0) (T 0 3) (T 0 1) (T 0 3) (T 3 3) (T 3 1) (T 0 1) (T 3 1) (T 1 1) = t3 (T 0 0) (T 0 1) (T 0 3) (T 0 1) (T 1 1) (T 1 3) (T 0 3) (T 1 3) (T 3 3)
  rw [hs 3 1 (by omega) (by omega)]; unfold t3; grind
theorem sw13_R3 (hs : symT T) : P3 (sub3 3 (pmT (swi 1 3) T)) = P3 (sub3 1 T) := by
  show t3 (T 0 0) (T 0 3) (T 0 2) (T 0 3) (T 3 3) (T 3 2) (T 0 2) (T 3 2) (T 2 2) = t3 (T 0 0) (T 0 2) (T 0 3) (T 0 2) (T 2 2) (T 2 3) (T 0 3) (T 2 3) (T 3 3)
  rw [hs 3 2 (by omega) (by omega)]; unfold t3; grind
theorem sw23_Q (hs : symT T) (y0 y1 y2 y3 : Int) : QT (pmT (swi 2 3) T) (y0, y1, y2, y3) = QT T (y0, y1, y3, y2) := by
  show T 0 0 * y0 * y0 + T 1 1 * y1 * y1 + T 3 3 * y2 * y2 + (2 * T 0 1 * y0 * y1 + 2 * T 0 3 * y0 * y2 + 2 * T 1 3 * y1 * y2) + (2 * T 0 2 * y0 + 2 * T 1 2 * y1 + 2 * T 3 2 * y2) * y3 + T 2 2 * y3 * y3 = T 0 0 * y0 * y0 + T 1 1 * y1 * y1 + T 2 2 * y3 * y3 + (2 * T 0 1 * y0 * y1 + 2 * T 0 2 * y0 * y3 + 2 * T 1 2 * y1 * y3) + (2 * T 0 3 * y0 + 2 * T 1 3 * y1 + 2 * T 2 3 * y3) * y2 + T 3 3 * y2 * y2
  rw [hs 3 2 (by omega) (by omega)]; grind
theorem sw23_PDQ (hs : symT T) (h : PDQ T) : PDQ (pmT (swi 2 3) T) := by
  intro y0 y1 y2 y3 hy; rw [sw23_Q hs]; exact h _ _ _ _ (by omega)
theorem sw23_P4 (hs : symT T) : P4 (pmT (swi 2 3) T) = P4 T := by
  show t4 (T 0 0) (T 0 1) (T 0 3) (T 0 2) (T 1 1) (T 1 3) (T 1 2) (T 3 3) (T 3 2) (T 2 2) = t4 (T 0 0) (T 0 1) (T 0 2) (T 0 3) (T 1 1) (T 1 2) (T 1 3) (T 2 2) (T 2 3) (T 3 3)
  rw [hs 3 2 (by omega) (by omega)]; unfold t4 t3; grind
theorem sw23_R0 (hs : symT T) : P3 (sub3 0 (pmT (swi 2 3) T)) = P3 (sub3 0 T) := by
  show t3 (T 1 1) (T 1 3) (T 1 2) (T 1 3) (T 3 3) (T 3 2) (T 1 2) (T 3 2) (T 2 2) = t3 (T 1 1) (T 1 2) (T 1 3) (T 1 2) (T 2 2) (T 2 3) (T 1 3) (T 2 3) (T 3 3)
  rw [hs 3 2 (by omega) (by omega)]; unfold t3; grind
theorem sw23_R1 (hs : symT T) : P3 (sub3 1 (pmT (swi 2 3) T)) = P3 (sub3 1 T) := by
  show t3 (T 0 0) (T 0 3) (T 0 2) (T 0 3) (T 3 3) (T 3 2) (T 0 2) (T 3 2) (T 2 2) = t3 (T 0 0) (T 0 2) (T 0 3) (T 0 2) (T 2 2) (T 2 3) (T 0 3) (T 2 3) (T 3 3)
  rw [hs 3 2 (by omega) (by omega)]; unfold t3; grind
theorem sw23_R2 (hs : symT T) : P3 (sub3 2 (pmT (swi 2 3) T)) = P3 (sub3 3 T) := by
  show t3 (T 0 0) (T 0 1) (T 0 2) (T 0 1) (T 1 1) (T 1 2) (T 0 2) (T 1 2) (T 2 2) = t3 (T 0 0) (T 0 1) (T 0 2) (T 0 1) (T 1 1) (T 1 2) (T 0 2) (T 1 2) (T 2 2)
  unfold t3; grind
theorem sw23_R3 (hs : symT T) : P3 (sub3 3 (pmT (swi 2 3) T)) = P3 (sub3 2 T) := by
  show t3 (T 0 0) (T 0 1) (T 0 3) (T 0 1) (T 1 1) (T 1 3) (T 0 3) (T 1 3) (T 3 3) = t3 (T 0 0) (T 0 1) (T 0 3) (T 0 1) (T 1 1) (T 1 3) (T 0 3) (T 1 3) (T 3 3)
  unfold t3; grind
def od0 : Nat → Nat := fun i => if i = 0 then 3 else if i = 1 then 2 else if i = 2 then 1 else 0
theorem od0_Q (hs : symT T) (y0 y1 y2 y3 : Int) : QT (pmT od0 T) (y0, y1, y2, y3) = QT T (y3, y2, y1, y0) := by
  show T 3 3 * y0 * y0 + T 2 2 * y1 * y1 + T 1 1 * y2 * y2 + (2 * T 3 2 * y0 * y1 + 2 * T 3 1 * y0 * y2 + 2 * T 2 1 * y1 * y2) + (2 * T 3 0 * y0 + 2 * T 2 0 * y1 + 2 * T 1 0 * y2) * y3 + T 0 0 * y3 * y3 = T 0 0 * y3 * y3 + T 1 1 * y2 * y2 + T 2 2 * y1 * y1 + (2 * T 0 1 * y3 * y2 + 2 * T 0 2 * y3 * y1 + 2 * T 1 2 * y2 * y1) + (2 * T 0 3 * y3 + 2 * T 1 3 * y2 + 2 * T 2 3 * y1) * y0 + T 3 3 * y0 * y0
  rw [hs 1 0 (by omega) (by omega), hs 2 0 (by omega) (by omega), hs 2 1 (by omega) (by omega), hs 3 0 (by omega) (by omega), hs 3 1 (by omega) (by omega), hs 3 2 (by omega) (by omega)]; grind
theorem od0_PDQ (hs : symT T) (h : PDQ T) : PDQ (pmT od0 T) := by
  intro y0 y1 y2 y3 hy; rw [od0_Q hs]; exact h _ _ _ _ (by omega)
theorem od0_P4 (hs : symT T) : P4 (pmT od0 T) = P4 T := by
  show t4 (T 3 3) (T 3 2) (T 3 1) (T 3 0) (T 2 2) (T 2 1) (T 2 0) (T 1 1) (T 1 0) (T 0 0) = t4 (T 0 0) (T 0 1) (T 0 2) (T 0 3) (T 1 1) (T 1 2) (T 1 3) (T 2 2) (T 2 3) (T 3 3)
  rw [hs 1 0 (by omega) (by omega), hs 2 0 (by omega) (by omega), hs 2 1 (by omega) (by omega), hs 3 0 (by omega) (by omega), hs 3 1 (by omega) (by omega), hs 3 2 (by omega) (by omega)]; unfold t4 t3; grind
theorem od0_P3 (hs : symT T) : P3 (pmT od0 T) = P3 (sub3 0 T) := by
  show t3 (T 3 3) (T 3 2) (T 3 1) (T 3 2) (T 2 2) (T 2 1) (T 3 1) (T 2 1) (T 1 1) = t3 (T 1 1) (T 1 2) (T 1 3) (T 1 2) (T 2 2) (T 2 3) (T 1 3) (T 2 3) (T 3 3)
  rw [hs 2 1 (by omega) (by omega), hs 3 1 (by omega) (by omega), hs 3 2 (by omega) (by omega)]; unfold t3; grind
def od1 : Nat → Nat := fun i => if i = 0 then 3 else if i = 1 then 2 else if i = 2 then 0 else 1
theorem od1_Q (hs : symT T) (y0 y1 y2 y3 : Int) : QT (pmT od1 T) (y0, y1, y2, y3) = QT T (y2, y3, y1, y0) := by
  show T 3 3 * y0 * y0 + T 2 2 * y1 * y1 + T 0 0 * y2 * y2 + (2 * T 3 2 * y0 * y1 + 2 * T 3 0 * y0 * y2 + 2 * T 2 0 * y1 * y2) + (2 * T 3 1 * y0 + 2 * T 2 1 * y1 + 2 * T 0 1 * y2) * y3 + T 1 1 * y3 * y3 = T 0 0 * y2 * y2 + T 1 1 * y3 * y3 + T 2 2 * y1 * y1 + (2 * T 0 1 * y2 * y3 + 2 * T 0 2 * y2 * y1 + 2 * T 1 2 * y3 * y1) + (2 * T 0 3 * y2 + 2 * T 1 3 * y3 + 2 * T 2 3 * y1) * y0 + T 3 3 * y0 * y0
  rw [hs 2 0 (by omega) (by omega), hs 2 1 (by omega) (by omega), hs 3 0 (by omega) (by omega), hs 3 1 (by omega) (by omega), hs 3 2 (by omega) (by omega)]; grind
theorem od1_PDQ (hs : symT T) (h : PDQ T) : PDQ (pmT od1 T) := by
  intro y0 y1 y2 y3 hy; rw [od1_Q hs]; exact h _ _ _ _ (by omega)
theorem od1_P4 (hs : symT T) : P4 (pmT od1 T) = P4 T := by
  show t4 (T 3 3) (T 3 2) (T 3 0) (T 3 1) (T 2 2) (T 2 0) (T 2 1) (T 0 0) (T 0 1) (T 1 1) = t4 (T 0 0) (T 0 1) (T 0 2) (T 0 3) (T 1 1) (T 1 2) (T 1 3) (T 2 2) (T 2 3) (T 3 3)
  rw [hs 2 0 (by omega) (by omega), hs 2 1 (by omega) (by omega), hs 3 0 (by omega) (by omega), hs 3 1 (by omega) (by omega), hs 3 2 (by omega) (by omega)]; unfold t4 t3; grind
theorem od1_P3 (hs : symT T) : P3 (pmT od1 T) = P3 (sub3 1 T) := by
  show t3 (T 3 3) (T 3 2) (T 3 0) (T 3 2) (T 2 2) (T 2 0) (T 3 0) (T 2 0) (T 0 0) = t3 (T 0 0) (T 0 2) (T 0 3) (T 0 2) (T 2 2) (T 2 3) (T 0 3) (T 2 3) (T 3 3)
  rw [hs 2 0 (by omega) (by omega), hs 3 0 (by omega) (by omega), hs 3 2 (by omega) (by omega)]; unfold t3; grind
def od2 : Nat → Nat := fun i => if i = 0 then 3 else if i = 1 then 1 else if i = 2 then 0 else 2
theorem od2_Q (hs : symT T) (y0 y1 y2 y3 : Int) : QT (pmT od2 T) (y0, y1, y2, y3) = QT T (y2, y1, y3, y0) := by
  show T 3 3 * y0 * y0 + T 1 1 * y1 * y1 + T 0 0 * y2 * y2 + (2 * T 3 1 * y0 * y1 + 2 * T 3 0 * y0 * y2 + 2 * T 1 0 * y1 * y2) + (2 * T 3 2 * y0 + 2 * T 1 2 * y1 + 2 * T 0 2 * y2) * y3 + T 2 2 * y3 * y3 = T 0 0 * y2 * y2 + T 1 1 * y1 * y1 + T 2 2 * y3 * y3 + (2 * T 0 1 * y2 * y1 + 2 * T 0 2 * y2 * y3 + 2 * T 1 2 * y1 * y3) + (2 * T 0 3 * y2 + 2 * T 1 3 * y1 + 2 * T 2 3 * y3) * y0 + T 3 3 * y0 * y0
  rw [hs 1 0 (by omega) (by omega), hs 3 0 (by omega) (by omega), hs 3 1 (by omega) (by omega), hs 3 2 (by omega) (by omega)]; grind
theorem od2_PDQ (hs : symT T) (h : PDQ T) : PDQ (pmT od2 T) := by
  intro y0 y1 y2 y3 hy; rw [od2_Q hs]; exact h _ _ _ _ (by omega)
theorem od2_P4 (hs : symT T) : P4 (pmT od2 T) = P4 T := by
  show t4 (T 3 3) (T 3 1) (T 3 0) (T 3 2) (T 1 1) (T 1 0) (T 1 2) (T 0 0) (T 0 2) (T 2 2) = t4 (T 0 0) (T 0 1) (T 0 2) (T 0 3) (T 1 1) (T 1 2) (T 1 3) (T 2 2) (T 2 3) (T 3 3)
  rw [hs 1 0 (by omega) (by omega), hs 3 0 (by omega) (by omega), hs 3 1 (by omega) (by omega), hs 3 2 (by omega) (by omega)]; unfold t4 t3; grind
theorem od2_P3 (hs : symT T) : P3 (pmT od2 T) = P3 (sub3 2 T) := by
  show t3 (T 3 3) (T 3 1) (T 3 0) (T 3 1) (T 1 1) (T 1 0) (T 3 0) (T 1 0) (T 0 0) = t3 (T 0 0) (T 0 1) (T 0 3) (T 0 1) (T 1 1) (T 1 3) (T 0 3) (T 1 3) (T 3 3)
  rw [hs 1 0 (by omega) (by omega), hs 3 0 (by omega) (by omega), hs 3 1 (by omega) (by omega)]; unfold t3; grind
theorem sub3_P3 : P3 (sub3 3 T) = P3 T := rfl
theorem sub0_Q (y0 y1 y2 y3 : Int) : QT (sub3 0 T) (y0, y1, y2, y3) = QT T (0, y0, y1, y2) + y3 * y3 := by
  show T 1 1 * y0 * y0 + T 2 2 * y1 * y1 + T 3 3 * y2 * y2 + (2 * T 1 2 * y0 * y1 + 2 * T 1 3 * y0 * y2 + 2 * T 2 3 * y1 * y2) + (2 * 0 * y0 + 2 * 0 * y1 + 2 * 0 * y2) * y3 + 1 * y3 * y3 = T 0 0 * 0 * 0 + T 1 1 * y0 * y0 + T 2 2 * y1 * y1 + (2 * T 0 1 * 0 * y0 + 2 * T 0 2 * 0 * y1 + 2 * T 1 2 * y0 * y1) + (2 * T 0 3 * 0 + 2 * T 1 3 * y0 + 2 * T 2 3 * y1) * y2 + T 3 3 * y2 * y2 + y3 * y3
  grind
theorem sub0_PDQ (h : PDQ T) : PDQ (sub3 0 T) := by
  intro y0 y1 y2 y3 hy; rw [sub0_Q]
  by_cases hz : y0 = 0 ∧ y1 = 0 ∧ y2 = 0
  · obtain ⟨rfl, rfl, rfl⟩ := hz
    have h3 : y3 ≠ 0 := by omega
    have h4 : 0 < y3 * y3 := by have := sq_nn y3; have n : y3 * y3 ≠ 0 := fun z => h3 (z_of_sq z); omega
    have h5 : QT T (0, 0, 0, 0) = 0 := by unfold QT; simp
    rw [h5]; omega
  · have := h (0) (y0) (y1) (y2) (by omega)
    have h4 := sq_nn y3; omega
theorem sub1_Q (y0 y1 y2 y3 : Int) : QT (sub3 1 T) (y0, y1, y2, y3) = QT T (y0, 0, y1, y2) + y3 * y3 := by
  show T 0 0 * y0 * y0 + T 2 2 * y1 * y1 + T 3 3 * y2 * y2 + (2 * T 0 2 * y0 * y1 + 2 * T 0 3 * y0 * y2 + 2 * T 2 3 * y1 * y2) + (2 * 0 * y0 + 2 * 0 * y1 + 2 * 0 * y2) * y3 + 1 * y3 * y3 = T 0 0 * y0 * y0 + T 1 1 * 0 * 0 + T 2 2 * y1 * y1 + (2 * T 0 1 * y0 * 0 + 2 * T 0 2 * y0 * y1 + 2 * T 1 2 * 0 * y1) + (2 * T 0 3 * y0 + 2 * T 1 3 * 0 + 2 * T 2 3 * y1) * y2 + T 3 3 * y2 * y2 + y3 * y3
  grind
theorem sub1_PDQ (h : PDQ T) : PDQ (sub3 1 T) := by
  intro y0 y1 y2 y3 hy; rw [sub1_Q]
  by_cases hz : y0 = 0 ∧ y1 = 0 ∧ y2 = 0
  · obtain ⟨rfl, rfl, rfl⟩ := hz
    have h3 : y3 ≠ 0 := by omega
    have h4 : 0 < y3 * y3 := by have := sq_nn y3; have n : y3 * y3 ≠ 0 := fun z => h3 (z_of_sq z); omega
    have h5 : QT T (0, 0, 0, 0) = 0 := by unfold QT; simp
    rw [h5]; omega
  · have := h (y0) (0) (y1) (y2) (by omega)
    have h4 := sq_nn y3; omega
theorem sub2_Q (y0 y1 y2 y3 : Int) : QT (sub3 2 T) (y0, y1, y2, y3) = QT T (y0, y1, 0, y2) + y3 * y3 := by
  show T 0 0 * y0 * y0 + T 1 1 * y1 * y1 + T 3 3 * y2 * y2 + (2 * T 0 1 * y0 * y1 + 2 * T 0 3 * y0 * y2 + 2 * T 1 3 * y1 * y2) + (2 * 0 * y0 + 2 * 0 * y1 + 2 * 0 * y2) * y3 + 1 * y3 * y3 = T 0 0 * y0 * y0 + T 1 1 * y1 * y1 + T 2 2 * 0 * 0 + (2 * T 0 1 * y0 * y1 + 2 * T 0 2 * y0 * 0 + 2 * T 1 2 * y1 * 0) + (2 * T 0 3 * y0 + 2 * T 1 3 * y1 + 2 * T 2 3 * 0) * y2 + T 3 3 * y2 * y2 + y3 * y3
  grind
theorem sub2_PDQ (h : PDQ T) : PDQ (sub3 2 T) := by
  intro y0 y1 y2 y3 hy; rw [sub2_Q]
  by_cases hz : y0 = 0 ∧ y1 = 0 ∧ y2 = 0
  · obtain ⟨rfl, rfl, rfl⟩ := hz
    have h3 : y3 ≠ 0 := by omega
    have h4 : 0 < y3 * y3 := by have := sq_nn y3; have n : y3 * y3 ≠ 0 := fun z => h3 (z_of_sq z); omega
    have h5 : QT T (0, 0, 0, 0) = 0 := by unfold QT; simp
    rw [h5]; omega
  · have := h (y0) (y1) (0) (y2) (by omega)
    have h4 := sq_nn y3; omega
theorem sub3_Q (y0 y1 y2 y3 : Int) : QT (sub3 3 T) (y0, y1, y2, y3) = QT T (y0, y1, y2, 0) + y3 * y3 := by
  show T 0 0 * y0 * y0 + T 1 1 * y1 * y1 + T 2 2 * y2 * y2 + (2 * T 0 1 * y0 * y1 + 2 * T 0 2 * y0 * y2 + 2 * T 1 2 * y1 * y2) + (2 * 0 * y0 + 2 * 0 * y1 + 2 * 0 * y2) * y3 + 1 * y3 * y3 = T 0 0 * y0 * y0 + T 1 1 * y1 * y1 + T 2 2 * y2 * y2 + (2 * T 0 1 * y0 * y1 + 2 * T 0 2 * y0 * y2 + 2 * T 1 2 * y1 * y2) + (2 * T 0 3 * y0 + 2 * T 1 3 * y1 + 2 * T 2 3 * y2) * 0 + T 3 3 * 0 * 0 + y3 * y3
  grind
theorem sub3_PDQ (h : PDQ T) : PDQ (sub3 3 T) := by
  intro y0 y1 y2 y3 hy; rw [sub3_Q]
  by_cases hz : y0 = 0 ∧ y1 = 0 ∧ y2 = 0
  · obtain ⟨rfl, rfl, rfl⟩ := hz
    have h3 : y3 ≠ 0 := by omega
    have h4 : 0 < y3 * y3 := by have := sq_nn y3; have n : y3 * y3 ≠ 0 := fun z => h3 (z_of_sq z); omega
    have h5 : QT T (0, 0, 0, 0) = 0 := by unfold QT; simp
    rw [h5]; omega
  · have := h (y0) (y1) (y2) (0) (by omega)
    have h4 := sq_nn y3; omega
theorem PD_last1 (h : PD T) (x : V4) : P4 T * (x.2.2.2 * x.2.2.2) * T 0 0 ≤ P3 T * Q1 T x := by
  obtain ⟨h1, h2, h3, h4⟩ := h
  have a3 := sq_3 (T := T) x
  have a2 := sq_2 (T := T) x
  have b2 : T 0 0 * Q2 T x ≤ P2 T * Q1 T x := by have := sq_nn (P2 T * x.2.1 + t2 (T 0 0) (T 0 1) (T 0 2) (T 1 2) * x.2.2.1 + t2 (T 0 0) (T 0 1) (T 0 3) (T 1 3) * x.2.2.2); omega
  have b3 : P2 T * P4 T * (x.2.2.2 * x.2.2.2) ≤ P3 T * Q2 T x := by have := sq_nn (P3 T * x.2.2.1 + U23 T * x.2.2.2); omega
  have c1 : T 0 0 * (P2 T * P4 T * (x.2.2.2 * x.2.2.2)) ≤ T 0 0 * (P3 T * Q2 T x) := Int.mul_le_mul_of_nonneg_left b3 (by omega)
  have c2 : P3 T * (T 0 0 * Q2 T x) ≤ P3 T * (P2 T * Q1 T x) := Int.mul_le_mul_of_nonneg_left b2 (by omega)
  refine le_of_mul_le h2 ?_
  generalize Q1 T x = q1 at *
  generalize Q2 T x = q2 at *
  generalize x.2.2.2 * x.2.2.2 = w at *
  generalize P2 T = p2 at *
  generalize P3 T = p3 at *
  generalize P4 T = p4 at *
  rw [show p2 * (p4 * w * T 0 0) = T 0 0 * (p2 * p4 * w) by grind, show p2 * (p3 * q1) = p3 * (p2 * q1) by grind]
  rw [show p3 * (T 0 0 * q2) = T 0 0 * (p3 * q2) by grind] at c2
  omega
theorem PD_last2 (h : PD T) (x : V4) : P2 T * P4 T * (x.2.2.2 * x.2.2.2) ≤ P3 T * Q2 T x := by
  have a3 := sq_3 (T := T) x
  have := sq_nn (P3 T * x.2.2.1 + U23 T * x.2.2.2); omega
end PosQ
