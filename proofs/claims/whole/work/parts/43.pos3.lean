/-- a form with the letters beyond its own as squares alone -/
def padT (nl : Int) (E : Nat → Int) : Nat → Nat → Int := fun i j => if i = j ∧ nl ≤ (i : Int) then 1 else E (4 * i + j)
theorem padT_in {nl : Int} {E : Nat → Int} {i j : Nat} (h : (i : Int) < nl) : padT nl E i j = E (4 * i + j) := by unfold padT; rw [if_neg (by omega)]
theorem padT_ne {nl : Int} {E : Nat → Int} {i j : Nat} (h : i ≠ j) : padT nl E i j = E (4 * i + j) := by unfold padT; rw [if_neg (fun hh => h hh.1)]
theorem padT_sym {nl : Int} {E : Nat → Int} (h : symS E) {i j : Nat} (hi : i < 4) (hj : j < 4) : padT nl E i j = padT nl E j i := by
  by_cases e : i = j
  · rw [e]
  · rw [padT_ne e, padT_ne (Ne.symm e)]; exact h i j hi hj
theorem padT_out {nl : Int} {E : Nat → Int} {i : Nat} (h : nl ≤ (i : Int)) : padT nl E i i = 1 := by unfold padT; rw [if_pos ⟨rfl, h⟩]
theorem detS_pad {nl : Int} {E : Nat → Int} (h1 : 1 ≤ nl) (h4 : nl ≤ 4) : detS E nl (-1) = detB nl.toNat (padT nl E) 0 1 := by
  unfold detS
  rw [show skn (-1) nl = nl.toNat by unfold skn; rw [if_neg (by omega)]]
  refine detB_congr _ _ _ _ _ (fun i j a1 a2 a3 a4 => ?_)
  rw [padT_in (by omega)]
  unfold sk; rw [if_neg (by omega), if_neg (by omega)]
theorem okF_PD {nl : Int} {E : Nat → Int} (h1 : 1 ≤ nl) (h : okF nl E) : PD (padT nl E) ∧ P4 (padT nl E) = detS E nl (-1) := by
  obtain ⟨h4, hl, hs, hz⟩ := h
  have hd := hl.2.1
  have s10 := padT_sym (nl := nl) hs (i := 1) (j := 0) (by omega) (by omega)
  have s20 := padT_sym (nl := nl) hs (i := 2) (j := 0) (by omega) (by omega)
  have s21 := padT_sym (nl := nl) hs (i := 2) (j := 1) (by omega) (by omega)
  have s30 := padT_sym (nl := nl) hs (i := 3) (j := 0) (by omega) (by omega)
  have s31 := padT_sym (nl := nl) hs (i := 3) (j := 1) (by omega) (by omega)
  have s32 := padT_sym (nl := nl) hs (i := 3) (j := 2) (by omega) (by omega)
  rw [detS_pad h1 h4] at hd ⊢
  have z : ∀ i j : Nat, i < 4 → j < 4 → i ≠ j → (nl ≤ (i : Int) ∨ nl ≤ (j : Int)) → padT nl E i j = 0 := fun i j a b c d => by rw [padT_ne c]; exact hz i j a b d
  unfold PD
  rcases (show nl = 1 ∨ nl = 2 ∨ nl = 3 ∨ nl = 4 by omega) with e | e | e | e
  · have z01 := z 0 1 (by omega) (by omega) (by omega) (by omega)
    have z02 := z 0 2 (by omega) (by omega) (by omega) (by omega)
    have z03 := z 0 3 (by omega) (by omega) (by omega) (by omega)
    have z12 := z 1 2 (by omega) (by omega) (by omega) (by omega)
    have z13 := z 1 3 (by omega) (by omega) (by omega) (by omega)
    have z23 := z 2 3 (by omega) (by omega) (by omega) (by omega)
    have o1 := padT_out (nl := nl) (E := E) (i := 1) (by omega)
    have o2 := padT_out (nl := nl) (E := E) (i := 2) (by omega)
    have o3 := padT_out (nl := nl) (E := E) (i := 3) (by omega)
    rw [show nl.toNat = 1 by omega, detB_1] at hd ⊢
    unfold P2 P3 P4 t4 t3 t2
    rw [z01, z02, z03, z12, z13, z23, o1, o2, o3]
    split at hd
    · omega
    · rename_i g
      rw [if_neg g]
      refine ⟨⟨by omega, by simp; omega, by simp; omega, by simp; omega⟩, by simp⟩
  · have z02 := z 0 2 (by omega) (by omega) (by omega) (by omega)
    have z03 := z 0 3 (by omega) (by omega) (by omega) (by omega)
    have z12 := z 1 2 (by omega) (by omega) (by omega) (by omega)
    have z13 := z 1 3 (by omega) (by omega) (by omega) (by omega)
    have z23 := z 2 3 (by omega) (by omega) (by omega) (by omega)
    have o2 := padT_out (nl := nl) (E := E) (i := 2) (by omega)
    have o3 := padT_out (nl := nl) (E := E) (i := 3) (by omega)
    have k3 : P3 (padT nl E) = P2 (padT nl E) := by unfold P3 P2 t3 t2; rw [z02, z12, o2]; grind
    have k4 : P4 (padT nl E) = P2 (padT nl E) := by unfold P4 P2 t4 t3 t2; rw [z02, z03, z12, z13, z23, o2, o3]; grind
    rw [show nl.toNat = 2 by omega, detB_2 s10] at hd ⊢
    rw [k3, k4]
    split at hd
    · omega
    · rename_i g
      rw [if_neg g]
      split at hd
      · omega
      · rename_i g2
        rw [if_neg g2]
        exact ⟨⟨by omega, by omega, by omega, by omega⟩, rfl⟩
  · have z03 := z 0 3 (by omega) (by omega) (by omega) (by omega)
    have z13 := z 1 3 (by omega) (by omega) (by omega) (by omega)
    have z23 := z 2 3 (by omega) (by omega) (by omega) (by omega)
    have o3 := padT_out (nl := nl) (E := E) (i := 3) (by omega)
    have k4 : P4 (padT nl E) = P3 (padT nl E) := by unfold P4 P3 t4 t3; rw [z03, z13, z23, o3]; grind
    rw [show nl.toNat = 3 by omega, detB_3 s10 s20 s21] at hd ⊢
    rw [k4]
    split at hd
    · omega
    · rename_i g
      rw [if_neg g]
      split at hd
      · omega
      · rename_i g2
        rw [if_neg g2]
        split at hd
        · omega
        · rename_i g3
          rw [if_neg g3]
          exact ⟨⟨by omega, by omega, by omega, by omega⟩, rfl⟩
  · rw [show nl.toNat = 4 by omega, detB_4 s10 s20 s21 s30 s31 s32] at hd ⊢
    split at hd
    · omega
    · rename_i g
      rw [if_neg g]
      split at hd
      · omega
      · rename_i g2
        rw [if_neg g2]
        split at hd
        · omega
        · rename_i g3
          rw [if_neg g3]
          split at hd
          · omega
          · rename_i g4
            rw [if_neg g4]
            exact ⟨⟨by omega, by omega, by omega, by omega⟩, rfl⟩
/-- a vector with nothing beyond a form's letters -/
def cutV (nl : Int) (x : V4) : V4 := (if nl ≤ 0 then 0 else x.1, if nl ≤ 1 then 0 else x.2.1, if nl ≤ 2 then 0 else x.2.2.1, if nl ≤ 3 then 0 else x.2.2.2)
theorem wv_cut {nl : Int} {E : Nat → Int} (h1 : 1 ≤ nl) (h : okF nl E) (x : V4) : wv E x = QT (padT nl E) (cutV nl x) := by
  obtain ⟨h4, hl, hs, hz⟩ := h
  have n01 := padT_ne (nl := nl) (E := E) (i := 0) (j := 1) (by omega)
  have n02 := padT_ne (nl := nl) (E := E) (i := 0) (j := 2) (by omega)
  have n03 := padT_ne (nl := nl) (E := E) (i := 0) (j := 3) (by omega)
  have n12 := padT_ne (nl := nl) (E := E) (i := 1) (j := 2) (by omega)
  have n13 := padT_ne (nl := nl) (E := E) (i := 1) (j := 3) (by omega)
  have n23 := padT_ne (nl := nl) (E := E) (i := 2) (j := 3) (by omega)
  unfold wv QT cutV
  rw [n01, n02, n03, n12, n13, n23]
  have i0 := padT_in (nl := nl) (E := E) (i := 0) (j := 0) (by omega)
  rw [i0]
  dsimp only
  have z : ∀ i j : Nat, i < 4 → j < 4 → (nl ≤ (i : Int) ∨ nl ≤ (j : Int)) → E (4 * i + j) = 0 := hz
  rcases (show nl = 1 ∨ nl = 2 ∨ nl = 3 ∨ nl = 4 by omega) with e | e | e | e
  · subst e
    have z1 := z 0 1 (by omega) (by omega) (by omega)
    have z2 := z 0 2 (by omega) (by omega) (by omega)
    have z3 := z 0 3 (by omega) (by omega) (by omega)
    have z5 := z 1 1 (by omega) (by omega) (by omega)
    have z6 := z 1 2 (by omega) (by omega) (by omega)
    have z7 := z 1 3 (by omega) (by omega) (by omega)
    have z10 := z 2 2 (by omega) (by omega) (by omega)
    have z11 := z 2 3 (by omega) (by omega) (by omega)
    have z15 := z 3 3 (by omega) (by omega) (by omega)
    simp only [Nat.mul_zero, Nat.zero_add, Nat.mul_one, Nat.reduceMul, Nat.reduceAdd] at *
    rw [z1, z2, z3, z5, z6, z7, z10, z11, z15]; simp
  · subst e
    have z2 := z 0 2 (by omega) (by omega) (by omega)
    have z3 := z 0 3 (by omega) (by omega) (by omega)
    have z6 := z 1 2 (by omega) (by omega) (by omega)
    have z7 := z 1 3 (by omega) (by omega) (by omega)
    have z10 := z 2 2 (by omega) (by omega) (by omega)
    have z11 := z 2 3 (by omega) (by omega) (by omega)
    have z15 := z 3 3 (by omega) (by omega) (by omega)
    have i1 := padT_in (nl := 2) (E := E) (i := 1) (j := 1) (by omega)
    simp only [Nat.mul_zero, Nat.zero_add, Nat.mul_one, Nat.reduceMul, Nat.reduceAdd] at *
    rw [z2, z3, z6, z7, z10, z11, z15, i1]; simp
  · subst e
    have z3 := z 0 3 (by omega) (by omega) (by omega)
    have z7 := z 1 3 (by omega) (by omega) (by omega)
    have z11 := z 2 3 (by omega) (by omega) (by omega)
    have z15 := z 3 3 (by omega) (by omega) (by omega)
    have i1 := padT_in (nl := 3) (E := E) (i := 1) (j := 1) (by omega)
    have i2 := padT_in (nl := 3) (E := E) (i := 2) (j := 2) (by omega)
    simp only [Nat.mul_zero, Nat.zero_add, Nat.mul_one, Nat.reduceMul, Nat.reduceAdd] at *
    rw [z3, z7, z11, z15, i1, i2]; simp
  · subst e
    have i1 := padT_in (nl := 4) (E := E) (i := 1) (j := 1) (by omega)
    have i2 := padT_in (nl := 4) (E := E) (i := 2) (j := 2) (by omega)
    have i3 := padT_in (nl := 4) (E := E) (i := 3) (j := 3) (by omega)
    simp only [Nat.mul_zero, Nat.zero_add, Nat.mul_one, Nat.reduceMul, Nat.reduceAdd] at *
    rw [i1, i2, i3]; simp
theorem okF_pos {nl : Int} {E : Nat → Int} (h1 : 1 ≤ nl) (h : okF nl E) (x : V4) : 0 ≤ wv E x := by
  rw [wv_cut h1 h x]; exact (PD_chain (okF_PD h1 h).1 _).2.2
