/-! WORTHS AS AN ENUMERATION: the algebra -/
section Ell
variable {T U : Nat → Nat → Int}
theorem od2_Q1 (hs : symT T) (y x0 x1 x2 : Int) : Q1 (pmT od2 T) (y, x1, x0, x2) = Q1 (pmT od0 T) (0, x2, x1, x0) := by
  show t2 (T 3 3) (T 3 1) (T 3 1) (T 1 1) * x1 * x1 + t2 (T 3 3) (T 3 0) (T 3 0) (T 0 0) * x0 * x0 + t2 (T 3 3) (T 3 2) (T 3 2) (T 2 2) * x2 * x2 + 2 * t2 (T 3 3) (T 3 1) (T 3 0) (T 1 0) * x1 * x0 + 2 * t2 (T 3 3) (T 3 1) (T 3 2) (T 1 2) * x1 * x2 + 2 * t2 (T 3 3) (T 3 0) (T 3 2) (T 0 2) * x0 * x2 = t2 (T 3 3) (T 3 2) (T 3 2) (T 2 2) * x2 * x2 + t2 (T 3 3) (T 3 1) (T 3 1) (T 1 1) * x1 * x1 + t2 (T 3 3) (T 3 0) (T 3 0) (T 0 0) * x0 * x0 + 2 * t2 (T 3 3) (T 3 2) (T 3 1) (T 2 1) * x2 * x1 + 2 * t2 (T 3 3) (T 3 2) (T 3 0) (T 2 0) * x2 * x0 + 2 * t2 (T 3 3) (T 3 1) (T 3 0) (T 1 0) * x1 * x0
  rw [hs 1 0 (by omega) (by omega), hs 2 0 (by omega) (by omega), hs 2 1 (by omega) (by omega), hs 3 0 (by omega) (by omega), hs 3 1 (by omega) (by omega), hs 3 2 (by omega) (by omega)]; unfold t2; grind
theorem od1_Q2 (hs : symT T) (y z x0 x1 : Int) : Q2 (pmT od1 T) (y, z, x0, x1) = Q2 (pmT od0 T) (0, 0, x1, x0) := by
  show t3 (T 3 3) (T 3 2) (T 3 0) (T 3 2) (T 2 2) (T 2 0) (T 3 0) (T 2 0) (T 0 0) * x0 * x0 + 2 * t3 (T 3 3) (T 3 2) (T 3 1) (T 3 2) (T 2 2) (T 2 1) (T 3 0) (T 2 0) (T 0 1) * x0 * x1 + t3 (T 3 3) (T 3 2) (T 3 1) (T 3 2) (T 2 2) (T 2 1) (T 3 1) (T 2 1) (T 1 1) * x1 * x1 = t3 (T 3 3) (T 3 2) (T 3 1) (T 3 2) (T 2 2) (T 2 1) (T 3 1) (T 2 1) (T 1 1) * x1 * x1 + 2 * t3 (T 3 3) (T 3 2) (T 3 0) (T 3 2) (T 2 2) (T 2 0) (T 3 1) (T 2 1) (T 1 0) * x1 * x0 + t3 (T 3 3) (T 3 2) (T 3 0) (T 3 2) (T 2 2) (T 2 0) (T 3 0) (T 2 0) (T 0 0) * x0 * x0
  rw [hs 1 0 (by omega) (by omega), hs 2 0 (by omega) (by omega), hs 2 1 (by omega) (by omega), hs 3 0 (by omega) (by omega), hs 3 1 (by omega) (by omega), hs 3 2 (by omega) (by omega)]; unfold t3; grind
/-- a letter is bound by what the letters behind it leave -/
theorem bx3 (hs : symT T) (h : PDQ T) (x0 x1 x2 x3 : Int) : P4 (pmT od0 T) * (x3 * x3) ≤ P3 (sub3 3 T) * QT (pmT od0 T) (x3, x2, x1, x0) := by
  have a := PD_last (PD_of h) (x0, x1, x2, x3)
  rw [od0_P4 hs, od0_Q hs, sub3_P3]; exact a
theorem bx2 (hs : symT T) (h : PDQ T) (x0 x1 x2 : Int) : P4 (pmT od0 T) * (x2 * x2) * pmT od0 T 0 0 ≤ P3 (sub3 2 T) * Q1 (pmT od0 T) (0, x2, x1, x0) := by
  have a := PD_last1 (PD_of (od2_PDQ hs h)) (0, x1, x0, x2)
  rw [od2_P4 hs, od2_P3 hs, od2_Q1 hs] at a
  rw [od0_P4 hs]; exact a
theorem bx1 (hs : symT T) (h : PDQ T) (x0 x1 : Int) : P2 (pmT od0 T) * P4 (pmT od0 T) * (x1 * x1) ≤ P3 (sub3 1 T) * Q2 (pmT od0 T) (0, 0, x1, x0) := by
  have a := PD_last2 (PD_of (od1_PDQ hs h)) (0, 0, x0, x1)
  rw [od1_P4 hs, od1_P3 hs, od1_Q2 hs] at a
  rw [od0_P4 hs]; exact a
def dW (U : Nat → Nat → Int) (k : Nat) : Int := if k = 0 then P4 U else if k = 1 then P3 U else if k = 2 then P2 U else if k = 3 then U 0 0 else 1
def sW (U : Nat → Nat → Int) (k j : Nat) : Int := if k = 0 then P4 U else if k = 1 then (if j = 0 then U23 U else P3 U) else if k = 2 then (if j = 0 then t2 (U 0 0) (U 0 1) (U 0 3) (U 1 3) else if j = 1 then t2 (U 0 0) (U 0 1) (U 0 2) (U 1 2) else P2 U) else (if j = 0 then U 0 3 else if j = 1 then U 0 2 else if j = 2 then U 0 1 else U 0 0)
def lW (U : Nat → Nat → Int) (tp : Int) (k : Nat) (x : Nat → Int) : Int := if k = 0 then tp * P4 U else if k = 1 then tp * P3 U - P4 U * (x 0 * x 0) else if k = 2 then tp * P2 U - Q2 U (0, 0, x 1, x 0) else if k = 3 then tp * U 0 0 - Q1 U (0, x 2, x 1, x 0) else tp - QT U (x 3, x 2, x 1, x 0)
theorem sW_diag {k : Nat} (hk : k < 4) : sW U k k = dW U k := by
  rcases (show k = 0 ∨ k = 1 ∨ k = 2 ∨ k = 3 by omega) with rfl | rfl | rfl | rfl <;> rfl
/-- what is left behind a letter -/
theorem lW_step {tp : Int} {k : Nat} (hk : k < 4) (x : Nat → Int) : dW U k * lW U tp (k + 1) x = dW U (k + 1) * lW U tp k x - (dW U k * x k + smS (sW U) x k k) * (dW U k * x k + smS (sW U) x k k) := by
  rcases (show k = 0 ∨ k = 1 ∨ k = 2 ∨ k = 3 by omega) with rfl | rfl | rfl | rfl
  · show P4 U * (tp * P3 U - P4 U * (x 0 * x 0)) = P3 U * (tp * P4 U) - (P4 U * x 0 + 0) * (P4 U * x 0 + 0)
    generalize P4 U = p; generalize P3 U = q; grind
  · have s := sq_3 (T := U) (0, 0, x 1, x 0)
    show P3 U * (tp * P2 U - Q2 U (0, 0, x 1, x 0)) = P2 U * (tp * P3 U - P4 U * (x 0 * x 0)) - (P3 U * x 1 + (0 + U23 U * x 0)) * (P3 U * x 1 + (0 + U23 U * x 0))
    rw [Int.mul_sub, s]
    show P3 U * (tp * P2 U) - ((P3 U * x 1 + U23 U * x 0) * (P3 U * x 1 + U23 U * x 0) + P2 U * P4 U * (x 0 * x 0)) = _
    generalize P4 U = p; generalize P3 U = q; generalize P2 U = r; generalize U23 U = u; grind
  · have s := sq_2 (T := U) (0, x 2, x 1, x 0)
    have e : Q2 U (0, x 2, x 1, x 0) = Q2 U (0, 0, x 1, x 0) := rfl
    rw [e] at s
    show P2 U * (tp * U 0 0 - Q1 U (0, x 2, x 1, x 0)) = U 0 0 * (tp * P2 U - Q2 U (0, 0, x 1, x 0)) - (P2 U * x 2 + (0 + t2 (U 0 0) (U 0 1) (U 0 3) (U 1 3) * x 0 + t2 (U 0 0) (U 0 1) (U 0 2) (U 1 2) * x 1)) * (P2 U * x 2 + (0 + t2 (U 0 0) (U 0 1) (U 0 3) (U 1 3) * x 0 + t2 (U 0 0) (U 0 1) (U 0 2) (U 1 2) * x 1))
    rw [Int.mul_sub, s]
    show P2 U * (tp * U 0 0) - ((P2 U * x 2 + t2 (U 0 0) (U 0 1) (U 0 2) (U 1 2) * x 1 + t2 (U 0 0) (U 0 1) (U 0 3) (U 1 3) * x 0) * (P2 U * x 2 + t2 (U 0 0) (U 0 1) (U 0 2) (U 1 2) * x 1 + t2 (U 0 0) (U 0 1) (U 0 3) (U 1 3) * x 0) + U 0 0 * Q2 U (0, 0, x 1, x 0)) = _
    generalize P2 U = r; generalize Q2 U (0, 0, x 1, x 0) = w; generalize t2 (U 0 0) (U 0 1) (U 0 2) (U 1 2) = u; generalize t2 (U 0 0) (U 0 1) (U 0 3) (U 1 3) = v; grind
  · have s := sq_1 (T := U) (x 3, x 2, x 1, x 0)
    have e : Q1 U (x 3, x 2, x 1, x 0) = Q1 U (0, x 2, x 1, x 0) := rfl
    rw [e] at s
    show U 0 0 * (tp - QT U (x 3, x 2, x 1, x 0)) = 1 * (tp * U 0 0 - Q1 U (0, x 2, x 1, x 0)) - (U 0 0 * x 3 + (0 + U 0 3 * x 0 + U 0 2 * x 1 + U 0 1 * x 2)) * (U 0 0 * x 3 + (0 + U 0 3 * x 0 + U 0 2 * x 1 + U 0 1 * x 2))
    rw [Int.mul_sub, s]
    show U 0 0 * tp - ((U 0 0 * x 3 + U 0 1 * x 2 + U 0 2 * x 1 + U 0 3 * x 0) * (U 0 0 * x 3 + U 0 1 * x 2 + U 0 2 * x 1 + U 0 3 * x 0) + Q1 U (0, x 2, x 1, x 0)) = _
    generalize Q1 U (0, x 2, x 1, x 0) = w; grind
theorem lW_cg {tp : Int} {k : Nat} (hk : k ≤ 4) {x y : Nat → Int} (h : ∀ j, j < k → x j = y j) : lW U tp k x = lW U tp k y := by
  rcases (show k = 0 ∨ k = 1 ∨ k = 2 ∨ k = 3 ∨ k = 4 by omega) with rfl | rfl | rfl | rfl | rfl
  · rfl
  · show tp * P3 U - P4 U * (x 0 * x 0) = tp * P3 U - P4 U * (y 0 * y 0); rw [h 0 (by omega)]
  · show tp * P2 U - Q2 U (0, 0, x 1, x 0) = tp * P2 U - Q2 U (0, 0, y 1, y 0); rw [h 0 (by omega), h 1 (by omega)]
  · show tp * U 0 0 - Q1 U (0, x 2, x 1, x 0) = tp * U 0 0 - Q1 U (0, y 2, y 1, y 0); rw [h 0 (by omega), h 1 (by omega), h 2 (by omega)]
  · show tp - QT U (x 3, x 2, x 1, x 0) = tp - QT U (y 3, y 2, y 1, y 0); rw [h 0 (by omega), h 1 (by omega), h 2 (by omega), h 3 (by omega)]
theorem lW_le {tp : Int} (hp : PD U) {k : Nat} (hk : k ≤ 4) (x : Nat → Int) : lW U tp k x ≤ tp * dW U k := by
  rcases (show k = 0 ∨ k = 1 ∨ k = 2 ∨ k = 3 ∨ k = 4 by omega) with rfl | rfl | rfl | rfl | rfl
  · exact Int.le_refl _
  · show tp * P3 U - P4 U * (x 0 * x 0) ≤ tp * P3 U
    have := Int.mul_nonneg (Int.le_of_lt hp.2.2.2) (sq_nn (x 0)); omega
  · show tp * P2 U - Q2 U (0, 0, x 1, x 0) ≤ tp * P2 U
    have := (PD_chain hp (0, 0, x 1, x 0)).1; omega
  · show tp * U 0 0 - Q1 U (0, x 2, x 1, x 0) ≤ tp * U 0 0
    have := (PD_chain hp (0, x 2, x 1, x 0)).2.1; omega
  · show tp - QT U (x 3, x 2, x 1, x 0) ≤ tp * 1
    have := (PD_chain hp (x 3, x 2, x 1, x 0)).2.2; omega
/-- squares: e stands where the letter's form is at most what is left -/
theorem boxE (hs : symT T) (h : PDQ T) {tp : Int} {k : Nat} (hk : k < 4) {x : Nat → Int} {v : Int} (hU : U = pmT od0 T) (hv : v * v ≤ dW U (k + 1) * lW U tp k x) : P4 U * ((v - smS (sW U) x k k) * (v - smS (sW U) x k k)) ≤ tp * P3 (sub3 k T) * (dW U k * dW U k) := by
  have hp : PD U := by rw [hU]; exact PD_of (od0_PDQ hs h)
  obtain ⟨p1, p2, p3, p4⟩ := hp
  rcases (show k = 0 ∨ k = 1 ∨ k = 2 ∨ k = 3 by omega) with rfl | rfl | rfl | rfl
  · have e3 : P3 (sub3 0 T) = P3 U := by rw [hU]; exact (od0_P3 hs).symm
    have hv' : v * v ≤ P3 U * (tp * P4 U) := hv
    show P4 U * ((v - 0) * (v - 0)) ≤ tp * P3 (sub3 0 T) * (P4 U * P4 U)
    rw [e3, Int.sub_zero]
    have := Int.mul_le_mul_of_nonneg_left hv' (show 0 ≤ P4 U by omega)
    rw [show tp * P3 U * (P4 U * P4 U) = P4 U * (P3 U * (tp * P4 U)) by generalize P4 U = p; generalize P3 U = q; grind]
    exact this
  · have b := bx1 hs h (P3 U * x 0) (v - (0 + U23 U * x 0))
    rw [← hU] at b
    have s := sq_3 (T := U) (0, 0, v - (0 + U23 U * x 0), P3 U * x 0)
    have hv' : v * v ≤ P2 U * (tp * P3 U - P4 U * (x 0 * x 0)) := hv
    show P4 U * ((v - (0 + U23 U * x 0)) * (v - (0 + U23 U * x 0))) ≤ tp * P3 (sub3 1 T) * (P3 U * P3 U)
    have hqq : Q2 U (0, 0, v - (0 + U23 U * x 0), P3 U * x 0) = P3 U * (v * v + P2 U * P4 U * (x 0 * x 0)) := by
      refine Int.eq_of_mul_eq_mul_left (show P3 U ≠ 0 by omega) ?_
      rw [s]
      show (P3 U * (v - (0 + U23 U * x 0)) + U23 U * (P3 U * x 0)) * (P3 U * (v - (0 + U23 U * x 0)) + U23 U * (P3 U * x 0)) + P2 U * P4 U * (P3 U * x 0 * (P3 U * x 0)) = _
      generalize P4 U = p; generalize P3 U = q; generalize P2 U = r; generalize U23 U = u; grind
    rw [hqq] at b
    have r0 : 0 < P3 (sub3 1 T) := (PD_of (subk_PDQ (k := 1) (by decide) h)).2.2.1
    have c : v * v + P2 U * P4 U * (x 0 * x 0) ≤ P2 U * (tp * P3 U) := by
      rw [Int.mul_sub] at hv'
      rw [Int.mul_assoc]; omega
    have d := Int.mul_le_mul_of_nonneg_left c (show 0 ≤ P3 (sub3 1 T) * P3 U from Int.mul_nonneg (by omega) (by omega))
    refine le_of_mul_le p2 ?_
    generalize (v - (0 + U23 U * x 0)) = w at *
    generalize v * v + P2 U * P4 U * (x 0 * x 0) = z at *
    generalize P3 (sub3 1 T) = m at *
    generalize P4 U = p at *
    generalize P3 U = q at *
    generalize P2 U = r at *
    rw [show r * (p * (w * w)) = r * p * (w * w) by grind, show r * (tp * m * (q * q)) = m * q * (r * (tp * q)) by grind]
    rw [show m * (q * z) = m * q * z by grind] at b
    omega
  · have b := bx2 hs h (P2 U * x 0) (P2 U * x 1) (v - (0 + t2 (U 0 0) (U 0 1) (U 0 3) (U 1 3) * x 0 + t2 (U 0 0) (U 0 1) (U 0 2) (U 1 2) * x 1))
    rw [← hU] at b
    have s := sq_2 (T := U) (0, v - (0 + t2 (U 0 0) (U 0 1) (U 0 3) (U 1 3) * x 0 + t2 (U 0 0) (U 0 1) (U 0 2) (U 1 2) * x 1), P2 U * x 1, P2 U * x 0)
    have hq2 : Q2 U (0, v - (0 + t2 (U 0 0) (U 0 1) (U 0 3) (U 1 3) * x 0 + t2 (U 0 0) (U 0 1) (U 0 2) (U 1 2) * x 1), P2 U * x 1, P2 U * x 0) = P2 U * P2 U * Q2 U (0, 0, x 1, x 0) := by
      show P3 U * (P2 U * x 1) * (P2 U * x 1) + 2 * U23 U * (P2 U * x 1) * (P2 U * x 0) + U33 U * (P2 U * x 0) * (P2 U * x 0) = P2 U * P2 U * (P3 U * x 1 * x 1 + 2 * U23 U * x 1 * x 0 + U33 U * x 0 * x 0)
      generalize P3 U = q; generalize P2 U = r; generalize U23 U = u; generalize U33 U = w; grind
    rw [hq2] at s
    have hv' : v * v ≤ U 0 0 * (tp * P2 U - Q2 U (0, 0, x 1, x 0)) := hv
    show P4 U * ((v - (0 + t2 (U 0 0) (U 0 1) (U 0 3) (U 1 3) * x 0 + t2 (U 0 0) (U 0 1) (U 0 2) (U 1 2) * x 1)) * (v - (0 + t2 (U 0 0) (U 0 1) (U 0 3) (U 1 3) * x 0 + t2 (U 0 0) (U 0 1) (U 0 2) (U 1 2) * x 1))) ≤ tp * P3 (sub3 2 T) * (P2 U * P2 U)
    generalize hS : 0 + t2 (U 0 0) (U 0 1) (U 0 3) (U 1 3) * x 0 + t2 (U 0 0) (U 0 1) (U 0 2) (U 1 2) * x 1 = S at *
    have hsq : P2 U * Q1 U (0, v - S, P2 U * x 1, P2 U * x 0) = (P2 U * v) * (P2 U * v) + U 0 0 * (P2 U * P2 U * Q2 U (0, 0, x 1, x 0)) := by
      rw [s]
      show (P2 U * (v - S) + t2 (U 0 0) (U 0 1) (U 0 2) (U 1 2) * (P2 U * x 1) + t2 (U 0 0) (U 0 1) (U 0 3) (U 1 3) * (P2 U * x 0)) * (P2 U * (v - S) + t2 (U 0 0) (U 0 1) (U 0 2) (U 1 2) * (P2 U * x 1) + t2 (U 0 0) (U 0 1) (U 0 3) (U 1 3) * (P2 U * x 0)) + _ = _
      rw [show P2 U * (v - S) + t2 (U 0 0) (U 0 1) (U 0 2) (U 1 2) * (P2 U * x 1) + t2 (U 0 0) (U 0 1) (U 0 3) (U 1 3) * (P2 U * x 0) = P2 U * v by
        rw [← hS]; generalize P2 U = r; generalize t2 (U 0 0) (U 0 1) (U 0 2) (U 1 2) = u; generalize t2 (U 0 0) (U 0 1) (U 0 3) (U 1 3) = w; grind]
    have q : Q1 U (0, v - S, P2 U * x 1, P2 U * x 0) = P2 U * (v * v + U 0 0 * Q2 U (0, 0, x 1, x 0)) := by
      refine Int.eq_of_mul_eq_mul_left (show P2 U ≠ 0 by omega) ?_
      rw [hsq]; generalize P2 U = r; generalize Q2 U (0, 0, x 1, x 0) = w; grind
    rw [q] at b
    have r0 : 0 < P3 (sub3 2 T) := (PD_of (subk_PDQ (k := 2) (by decide) h)).2.2.1
    have c : v * v + U 0 0 * Q2 U (0, 0, x 1, x 0) ≤ U 0 0 * (tp * P2 U) := by
      rw [Int.mul_sub] at hv'; omega
    have d := Int.mul_le_mul_of_nonneg_left c (show 0 ≤ P3 (sub3 2 T) * P2 U from Int.mul_nonneg (by omega) (by omega))
    refine le_of_mul_le p1 ?_
    generalize (v - S) = w at *
    generalize v * v + U 0 0 * Q2 U (0, 0, x 1, x 0) = z at *
    generalize P3 (sub3 2 T) = m at *
    generalize P4 U = p at *
    generalize P2 U = r at *
    generalize U 0 0 = a at *
    rw [show a * (p * (w * w)) = p * (w * w) * a by grind, show a * (tp * m * (r * r)) = m * r * (a * (tp * r)) by grind]
    rw [show m * (r * z) = m * r * z by grind] at b
    omega
  · have b := bx3 hs h (U 0 0 * x 0) (U 0 0 * x 1) (U 0 0 * x 2) (v - (0 + U 0 3 * x 0 + U 0 2 * x 1 + U 0 1 * x 2))
    rw [← hU] at b
    have s := sq_1 (T := U) (v - (0 + U 0 3 * x 0 + U 0 2 * x 1 + U 0 1 * x 2), U 0 0 * x 2, U 0 0 * x 1, U 0 0 * x 0)
    have hq1 : Q1 U (v - (0 + U 0 3 * x 0 + U 0 2 * x 1 + U 0 1 * x 2), U 0 0 * x 2, U 0 0 * x 1, U 0 0 * x 0) = U 0 0 * U 0 0 * Q1 U (0, x 2, x 1, x 0) := by
      unfold Q1; dsimp only
      generalize t2 (U 0 0) (U 0 1) (U 0 1) (U 1 1) = a1; generalize t2 (U 0 0) (U 0 2) (U 0 2) (U 2 2) = a2; generalize t2 (U 0 0) (U 0 3) (U 0 3) (U 3 3) = a3; generalize t2 (U 0 0) (U 0 1) (U 0 2) (U 1 2) = a4; generalize t2 (U 0 0) (U 0 1) (U 0 3) (U 1 3) = a5; generalize t2 (U 0 0) (U 0 2) (U 0 3) (U 2 3) = a6; grind
    rw [hq1] at s
    have hv' : v * v ≤ 1 * (tp * U 0 0 - Q1 U (0, x 2, x 1, x 0)) := hv
    show P4 U * ((v - (0 + U 0 3 * x 0 + U 0 2 * x 1 + U 0 1 * x 2)) * (v - (0 + U 0 3 * x 0 + U 0 2 * x 1 + U 0 1 * x 2))) ≤ tp * P3 (sub3 3 T) * (U 0 0 * U 0 0)
    generalize hS : 0 + U 0 3 * x 0 + U 0 2 * x 1 + U 0 1 * x 2 = S at *
    have hsq : U 0 0 * QT U (v - S, U 0 0 * x 2, U 0 0 * x 1, U 0 0 * x 0) = (U 0 0 * v) * (U 0 0 * v) + U 0 0 * U 0 0 * Q1 U (0, x 2, x 1, x 0) := by
      rw [s]
      show (U 0 0 * (v - S) + U 0 1 * (U 0 0 * x 2) + U 0 2 * (U 0 0 * x 1) + U 0 3 * (U 0 0 * x 0)) * (U 0 0 * (v - S) + U 0 1 * (U 0 0 * x 2) + U 0 2 * (U 0 0 * x 1) + U 0 3 * (U 0 0 * x 0)) + _ = _
      rw [show U 0 0 * (v - S) + U 0 1 * (U 0 0 * x 2) + U 0 2 * (U 0 0 * x 1) + U 0 3 * (U 0 0 * x 0) = U 0 0 * v by rw [← hS]; grind]
    have q : QT U (v - S, U 0 0 * x 2, U 0 0 * x 1, U 0 0 * x 0) = U 0 0 * (v * v + Q1 U (0, x 2, x 1, x 0)) := by
      refine Int.eq_of_mul_eq_mul_left (show U 0 0 ≠ 0 by omega) ?_
      rw [hsq]; generalize Q1 U (0, x 2, x 1, x 0) = w; grind
    rw [q] at b
    have r0 : 0 < P3 (sub3 3 T) := (PD_of (subk_PDQ (k := 3) (by decide) h)).2.2.1
    have c : v * v + Q1 U (0, x 2, x 1, x 0) ≤ tp * U 0 0 := by omega
    have d := Int.mul_le_mul_of_nonneg_left c (show 0 ≤ P3 (sub3 3 T) * U 0 0 from Int.mul_nonneg (by omega) (by omega))
    generalize (v - S) = w at *
    generalize v * v + Q1 U (0, x 2, x 1, x 0) = z at *
    generalize P3 (sub3 3 T) = m at *
    generalize P4 U = p at *
    generalize U 0 0 = a at *
    rw [show tp * m * (a * a) = m * a * (tp * a) by grind]
    rw [show m * (a * z) = m * a * z by grind] at b
    omega
end Ell
