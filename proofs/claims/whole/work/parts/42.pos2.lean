section Pos
variable {T : Nat → Nat → Int}
def P2 (T : Nat → Nat → Int) : Int := t2 (T 0 0) (T 0 1) (T 0 1) (T 1 1)
def P3 (T : Nat → Nat → Int) : Int := t3 (T 0 0) (T 0 1) (T 0 2) (T 0 1) (T 1 1) (T 1 2) (T 0 2) (T 1 2) (T 2 2)
def P4 (T : Nat → Nat → Int) : Int := t4 (T 0 0) (T 0 1) (T 0 2) (T 0 3) (T 1 1) (T 1 2) (T 1 3) (T 2 2) (T 2 3) (T 3 3)
theorem b1_eq (i j : Nat) : bstep T 0 1 i j = t2 (T 0 0) (T 0 j) (T i 0) (T i j) := by
  unfold bstep t2; rw [Int.tdiv_one]; grind
theorem b2_eq (h : T 0 0 ≠ 0) (i j : Nat) : bstep (bstep T 0 1) 1 (T 0 0) i j = t3 (T 0 0) (T 0 1) (T 0 j) (T 1 0) (T 1 1) (T 1 j) (T i 0) (T i 1) (T i j) := by
  have e : bstep (bstep T 0 1) 1 (T 0 0) i j = (bstep T 0 1 i j * bstep T 0 1 1 1 - bstep T 0 1 i 1 * bstep T 0 1 1 j).tdiv (T 0 0) := rfl
  rw [e, b1_eq, b1_eq, b1_eq, b1_eq]
  have k : t2 (T 0 0) (T 0 j) (T i 0) (T i j) * t2 (T 0 0) (T 0 1) (T 1 0) (T 1 1) - t2 (T 0 0) (T 0 1) (T i 0) (T i 1) * t2 (T 0 0) (T 0 j) (T 1 0) (T 1 j) = T 0 0 * t3 (T 0 0) (T 0 1) (T 0 j) (T 1 0) (T 1 1) (T 1 j) (T i 0) (T i 1) (T i j) := by
    unfold t2 t3; grind
  rw [k, Int.mul_tdiv_cancel_left _ h]
theorem detB_1 : detB 1 T 0 1 = if T 0 0 ≤ 0 then 0 else T 0 0 := by simp only [detB]
theorem detB_2 (s10 : T 1 0 = T 0 1) : detB 2 T 0 1 = if T 0 0 ≤ 0 then 0 else if P2 T ≤ 0 then 0 else P2 T := by
  simp only [detB, Nat.zero_add]
  rw [b1_eq, s10]; rfl
theorem detB_3 (s10 : T 1 0 = T 0 1) (s20 : T 2 0 = T 0 2) (s21 : T 2 1 = T 1 2) : detB 3 T 0 1 = if T 0 0 ≤ 0 then 0 else if P2 T ≤ 0 then 0 else if P3 T ≤ 0 then 0 else P3 T := by
  simp only [detB, Nat.zero_add, Nat.reduceAdd]
  by_cases h : T 0 0 ≤ 0
  · rw [if_pos h, if_pos h]
  · rw [if_neg h, if_neg h, b2_eq (by omega), b1_eq, s10, s20, s21]; rfl
theorem detB_4 (s10 : T 1 0 = T 0 1) (s20 : T 2 0 = T 0 2) (s21 : T 2 1 = T 1 2) (s30 : T 3 0 = T 0 3) (s31 : T 3 1 = T 1 3) (s32 : T 3 2 = T 2 3) : detB 4 T 0 1 = if T 0 0 ≤ 0 then 0 else if P2 T ≤ 0 then 0 else if P3 T ≤ 0 then 0 else if P4 T ≤ 0 then 0 else P4 T := by
  simp only [detB, Nat.zero_add, Nat.reduceAdd]
  by_cases h : T 0 0 ≤ 0
  · rw [if_pos h, if_pos h]
  · rw [if_neg h, if_neg h]
    have q1 : bstep T 0 1 1 1 = P2 T := by rw [b1_eq, s10]; rfl
    have q2 : bstep (bstep T 0 1) 1 (T 0 0) 2 2 = P3 T := by rw [b2_eq (by omega), s10, s20, s21]; rfl
    rw [q1, q2]
    by_cases h2 : P2 T ≤ 0
    · rw [if_pos h2, if_pos h2]
    · rw [if_neg h2, if_neg h2]
      have e : bstep (bstep (bstep T 0 1) 1 (T 0 0)) 2 (P2 T) 3 3 = (bstep (bstep T 0 1) 1 (T 0 0) 3 3 * bstep (bstep T 0 1) 1 (T 0 0) 2 2 - bstep (bstep T 0 1) 1 (T 0 0) 3 2 * bstep (bstep T 0 1) 1 (T 0 0) 2 3).tdiv (P2 T) := rfl
      have q3 : bstep (bstep (bstep T 0 1) 1 (T 0 0)) 2 (P2 T) 3 3 = P4 T := by
        rw [e, b2_eq (by omega), b2_eq (by omega), b2_eq (by omega), b2_eq (by omega), s10, s20, s21, s30, s31, s32]
        have k := ex_4 (T 0 0) (T 0 1) (T 0 2) (T 0 3) (T 1 1) (T 1 2) (T 1 3) (T 2 2) (T 2 3) (T 3 3)
        have k2 : t3 (T 0 0) (T 0 1) (T 0 3) (T 0 1) (T 1 1) (T 1 3) (T 0 3) (T 1 3) (T 3 3) * t3 (T 0 0) (T 0 1) (T 0 2) (T 0 1) (T 1 1) (T 1 2) (T 0 2) (T 1 2) (T 2 2) - t3 (T 0 0) (T 0 1) (T 0 2) (T 0 1) (T 1 1) (T 1 2) (T 0 3) (T 1 3) (T 2 3) * t3 (T 0 0) (T 0 1) (T 0 3) (T 0 1) (T 1 1) (T 1 3) (T 0 2) (T 1 2) (T 2 3) = P2 T * P4 T := by
          rw [show P2 T * P4 T = t2 (T 0 0) (T 0 1) (T 0 1) (T 1 1) * t4 (T 0 0) (T 0 1) (T 0 2) (T 0 3) (T 1 1) (T 1 2) (T 1 3) (T 2 2) (T 2 3) (T 3 3) from rfl, ← k]
          unfold t3; grind
        rw [k2, Int.mul_tdiv_cancel_left _ (by omega)]
      rw [q3]
/-- the four leading minors are above 0 -/
def PD (T : Nat → Nat → Int) : Prop := 0 < T 0 0 ∧ 0 < P2 T ∧ 0 < P3 T ∧ 0 < P4 T
def QT (T : Nat → Nat → Int) (x : V4) : Int := T 0 0 * x.1 * x.1 + T 1 1 * x.2.1 * x.2.1 + T 2 2 * x.2.2.1 * x.2.2.1 + (2 * T 0 1 * x.1 * x.2.1 + 2 * T 0 2 * x.1 * x.2.2.1 + 2 * T 1 2 * x.2.1 * x.2.2.1) + (2 * T 0 3 * x.1 + 2 * T 1 3 * x.2.1 + 2 * T 2 3 * x.2.2.1) * x.2.2.2 + T 3 3 * x.2.2.2 * x.2.2.2
def Q1 (T : Nat → Nat → Int) (x : V4) : Int := t2 (T 0 0) (T 0 1) (T 0 1) (T 1 1) * x.2.1 * x.2.1 + t2 (T 0 0) (T 0 2) (T 0 2) (T 2 2) * x.2.2.1 * x.2.2.1 + t2 (T 0 0) (T 0 3) (T 0 3) (T 3 3) * x.2.2.2 * x.2.2.2 + 2 * t2 (T 0 0) (T 0 1) (T 0 2) (T 1 2) * x.2.1 * x.2.2.1 + 2 * t2 (T 0 0) (T 0 1) (T 0 3) (T 1 3) * x.2.1 * x.2.2.2 + 2 * t2 (T 0 0) (T 0 2) (T 0 3) (T 2 3) * x.2.2.1 * x.2.2.2
def U23 (T : Nat → Nat → Int) : Int := t3 (T 0 0) (T 0 1) (T 0 3) (T 0 1) (T 1 1) (T 1 3) (T 0 2) (T 1 2) (T 2 3)
def U33 (T : Nat → Nat → Int) : Int := t3 (T 0 0) (T 0 1) (T 0 3) (T 0 1) (T 1 1) (T 1 3) (T 0 3) (T 1 3) (T 3 3)
def Q2 (T : Nat → Nat → Int) (x : V4) : Int := P3 T * x.2.2.1 * x.2.2.1 + 2 * U23 T * x.2.2.1 * x.2.2.2 + U33 T * x.2.2.2 * x.2.2.2
theorem sq_1 (x : V4) : T 0 0 * QT T x = (T 0 0 * x.1 + T 0 1 * x.2.1 + T 0 2 * x.2.2.1 + T 0 3 * x.2.2.2) * (T 0 0 * x.1 + T 0 1 * x.2.1 + T 0 2 * x.2.2.1 + T 0 3 * x.2.2.2) + Q1 T x := by
  unfold QT Q1 t2; grind
theorem sq_2 (x : V4) : P2 T * Q1 T x = (P2 T * x.2.1 + t2 (T 0 0) (T 0 1) (T 0 2) (T 1 2) * x.2.2.1 + t2 (T 0 0) (T 0 1) (T 0 3) (T 1 3) * x.2.2.2) * (P2 T * x.2.1 + t2 (T 0 0) (T 0 1) (T 0 2) (T 1 2) * x.2.2.1 + t2 (T 0 0) (T 0 1) (T 0 3) (T 1 3) * x.2.2.2) + T 0 0 * Q2 T x := by
  unfold P2 Q1 Q2 P3 U23 U33 t2 t3; grind
theorem sq_3 (x : V4) : P3 T * Q2 T x = (P3 T * x.2.2.1 + U23 T * x.2.2.2) * (P3 T * x.2.2.1 + U23 T * x.2.2.2) + P2 T * P4 T * (x.2.2.2 * x.2.2.2) := by
  have k := ex_4 (T 0 0) (T 0 1) (T 0 2) (T 0 3) (T 1 1) (T 1 2) (T 1 3) (T 2 2) (T 2 3) (T 3 3)
  have k2 : P3 T * U33 T - U23 T * U23 T = P2 T * P4 T := k
  rw [← k2]; unfold Q2; grind
theorem PD_chain (h : PD T) (x : V4) : 0 ≤ Q2 T x ∧ 0 ≤ Q1 T x ∧ 0 ≤ QT T x := by
  obtain ⟨h1, h2, h3, h4⟩ := h
  have a3 := sq_3 (T := T) x
  have a2 := sq_2 (T := T) x
  have a1 := sq_1 (T := T) x
  have q2 : 0 ≤ Q2 T x := nn_of_mul h3 (by rw [a3]; exact Int.add_nonneg (sq_nn _) (Int.mul_nonneg (Int.le_of_lt (Int.mul_pos h2 h4)) (sq_nn _)))
  have q1 : 0 ≤ Q1 T x := nn_of_mul h2 (by rw [a2]; exact Int.add_nonneg (sq_nn _) (Int.mul_nonneg (Int.le_of_lt h1) q2))
  exact ⟨q2, q1, nn_of_mul h1 (by rw [a1]; exact Int.add_nonneg (sq_nn _) q1)⟩
theorem le_of_mul_le {a b c : Int} (ha : 0 < a) (h : a * b ≤ a * c) : b ≤ c := Int.le_of_mul_le_mul_left h ha
/-- the last letter is bound by the worth -/
theorem PD_last (h : PD T) (x : V4) : P4 T * (x.2.2.2 * x.2.2.2) ≤ P3 T * QT T x := by
  obtain ⟨h1, h2, h3, h4⟩ := h
  have a3 := sq_3 (T := T) x
  have a2 := sq_2 (T := T) x
  have a1 := sq_1 (T := T) x
  have b1 : Q1 T x ≤ T 0 0 * QT T x := by have := sq_nn (T 0 0 * x.1 + T 0 1 * x.2.1 + T 0 2 * x.2.2.1 + T 0 3 * x.2.2.2); omega
  have b2 : T 0 0 * Q2 T x ≤ P2 T * Q1 T x := by have := sq_nn (P2 T * x.2.1 + t2 (T 0 0) (T 0 1) (T 0 2) (T 1 2) * x.2.2.1 + t2 (T 0 0) (T 0 1) (T 0 3) (T 1 3) * x.2.2.2); omega
  have b3 : P2 T * P4 T * (x.2.2.2 * x.2.2.2) ≤ P3 T * Q2 T x := by have := sq_nn (P3 T * x.2.2.1 + U23 T * x.2.2.2); omega
  have c1 : P2 T * Q1 T x ≤ P2 T * (T 0 0 * QT T x) := Int.mul_le_mul_of_nonneg_left b1 (by omega)
  have c2 : Q2 T x ≤ P2 T * QT T x := le_of_mul_le h1 (by rw [show T 0 0 * (P2 T * QT T x) = P2 T * (T 0 0 * QT T x) by grind]; omega)
  have c3 : P3 T * Q2 T x ≤ P3 T * (P2 T * QT T x) := Int.mul_le_mul_of_nonneg_left c2 (by omega)
  refine le_of_mul_le h2 ?_
  rw [show P2 T * (P4 T * (x.2.2.2 * x.2.2.2)) = P2 T * P4 T * (x.2.2.2 * x.2.2.2) by rw [Int.mul_assoc], show P2 T * (P3 T * QT T x) = P3 T * (P2 T * QT T x) by grind]
  omega
end Pos
