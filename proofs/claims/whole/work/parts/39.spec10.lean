theorem boxP_step {nl : Int} {E : Nat → Int} {i : Nat} (h : boxP nl E (i + 1) ≤ 1000000) : boxP nl E i ≤ 1000000 ∧ boxP nl E (i + 1) = boxP nl E i * (2 * reachS nl E i + 1) := by
  have e : boxP nl E (i + 1) = if 1000000 < boxP nl E i then boxP nl E i else boxP nl E i * (2 * reachS nl E i + 1) := rfl
  rw [e] at h ⊢
  by_cases hb : 1000000 < boxP nl E i
  · rw [if_pos hb] at h; omega
  · rw [if_neg hb]; exact ⟨by omega, rfl⟩
def rN (nl : Int) (E : Nat → Int) (i : Nat) : Nat := (2 * reachS nl E i + 1).toNat
theorem box_len {nl : Int} {E : Nat → Int} (h : boxP nl E 4 ≤ 1000000) : rN nl E 0 * (rN nl E 1 * (rN nl E 2 * rN nl E 3)) ≤ 1000000 ∧ boxP nl E 4 = ((rN nl E 0 * (rN nl E 1 * (rN nl E 2 * rN nl E 3)) : Nat) : Int) := by
  obtain ⟨h3, e3⟩ := boxP_step h
  obtain ⟨h2, e2⟩ := boxP_step h3
  obtain ⟨h1, e1⟩ := boxP_step h2
  obtain ⟨h0, e0⟩ := boxP_step h1
  have r0 := (reachS_bd nl E 0).1
  have r1 := (reachS_bd nl E 1).1
  have r2 := (reachS_bd nl E 2).1
  have r3 := (reachS_bd nl E 3).1
  have c0 : ((rN nl E 0 : Nat) : Int) = 2 * reachS nl E 0 + 1 := by unfold rN; omega
  have c1 : ((rN nl E 1 : Nat) : Int) = 2 * reachS nl E 1 + 1 := by unfold rN; omega
  have c2 : ((rN nl E 2 : Nat) : Int) = 2 * reachS nl E 2 + 1 := by unfold rN; omega
  have c3 : ((rN nl E 3 : Nat) : Int) = 2 * reachS nl E 3 + 1 := by unfold rN; omega
  have e : boxP nl E 4 = ((rN nl E 0 * (rN nl E 1 * (rN nl E 2 * rN nl E 3)) : Nat) : Int) := by
    rw [Int.natCast_mul, Int.natCast_mul, Int.natCast_mul, c0, c1, c2, c3, e3, e2, e1, e0, show boxP nl E 0 = 1 from rfl, Int.one_mul, Int.mul_assoc, Int.mul_assoc]
  exact ⟨by rw [e] at h; omega, e⟩
theorem rN_pos (nl : Int) (E : Nat → Int) (i : Nat) : 1 ≤ rN nl E i := by have := (reachS_bd nl E i).1; unfold rN; omega
theorem part_len {a b c d k0 k1 k2 : Nat} (h : a * (b * (c * d)) ≤ 1000000) (ha : 1 ≤ a) (hb : 1 ≤ b) (h0 : k0 ≤ a) (h1 : k1 ≤ b) (h2 : k2 ≤ c) : k0 * (b * (c * d)) + k1 * (c * d) + k2 * d ≤ 3000000 := by
  have q0 : k0 * (b * (c * d)) ≤ a * (b * (c * d)) := Nat.mul_le_mul_right _ h0
  have q1 : k1 * (c * d) ≤ b * (c * d) := Nat.mul_le_mul_right _ h1
  have q2 : k2 * d ≤ c * d := Nat.mul_le_mul_right _ h2
  have q3 : 1 * (b * (c * d)) ≤ a * (b * (c * d)) := Nat.mul_le_mul_right _ ha
  have q4 : 1 * (c * d) ≤ b * (c * d) := Nat.mul_le_mul_right _ hb
  omega
/-- the vectors of a form's box in turn -/
def vecF (nl : Int) (E : Nat → Int) : List V4 := vec0 (reachS nl E 0) (reachS nl E 1) (reachS nl E 2) (reachS nl E 3) (rN nl E 0)
theorem reach_half {nl : Int} {E : Nat → Int} (h : boxP nl E 4 ≤ 1000000) (i : Nat) (hi : i < 4) : reachS nl E i ≤ 500000 := by
  have hb := (box_len h).1
  have p0 := rN_pos nl E 0
  have p1 := rN_pos nl E 1
  have p2 := rN_pos nl E 2
  have p3 := rN_pos nl E 3
  have key : rN nl E i ≤ 1000000 := by
    have g1 : ∀ x y : Nat, 1 ≤ y → x ≤ x * y := fun x y hy => Nat.le_mul_of_pos_right x hy
    have g2 : ∀ x y : Nat, 1 ≤ y → x ≤ y * x := fun x y hy => Nat.le_mul_of_pos_left x hy
    have m23 : 1 ≤ rN nl E 2 * rN nl E 3 := Nat.mul_pos p2 p3
    have m123 : 1 ≤ rN nl E 1 * (rN nl E 2 * rN nl E 3) := Nat.mul_pos p1 m23
    rcases (show i = 0 ∨ i = 1 ∨ i = 2 ∨ i = 3 by omega) with rfl | rfl | rfl | rfl
    · exact Nat.le_trans (g1 _ _ m123) hb
    · exact Nat.le_trans (Nat.le_trans (g1 _ _ m23) (g2 _ _ p0)) hb
    · exact Nat.le_trans (Nat.le_trans (Nat.le_trans (g1 _ _ p3) (g2 _ _ p1)) (g2 _ _ p0)) hb
    · exact Nat.le_trans (Nat.le_trans (Nat.le_trans (g2 _ _ p2) (g2 _ _ p1)) (g2 _ _ p0)) hb
  unfold rN at key
  omega
