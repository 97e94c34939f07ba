/-! ROWS: fewer than a million, of a form and its truant -/
section Rowlast
variable {nl t : Int} {E x : Nat → Int}
theorem takes_one (h : truF nl E ≠ 1) : ∃ v : V4, wv E v = 1 := by
  have c : cF nl E 1 ≠ 0 := fun z => h (by
    show (if cF nl E (100 - 99) = 0 then ((100 - 99 : Nat) : Int) else lackD (cF nl E) 99) = 1
    rw [if_pos z]; rfl)
  unfold cF cntL at c
  cases e : (vecF nl E).filter (fun x => decide (wv E x = ((1 : Nat) : Int))) with
  | nil => rw [e] at c; exact absurd rfl c
  | cons v L =>
    have m : v ∈ (vecF nl E).filter (fun x => decide (wv E x = ((1 : Nat) : Int))) := by rw [e]; exact List.mem_cons_self
    exact ⟨v, of_decide_eq_true (List.mem_filter.mp m).2⟩
theorem prod3 {a D2 D3 t r0 r1 r2 : Int} (ha : 1 ≤ a) (hD : 1 ≤ D2) (h3 : 1 ≤ D3) (ht : 1 ≤ t) (n0 : 0 ≤ r0 ∧ r0 ≤ 198) (n1 : 0 ≤ r1 ∧ r1 ≤ 198) (n2 : 0 ≤ r2 ∧ r2 ≤ 198) (q0 : r0 * r0 * 1 ≤ 4 * a * t) (q1 : r1 * r1 * a ≤ 4 * D2 * t) (q2 : r2 * r2 * D2 ≤ 4 * D3 * t) (hb : D3 * (t * (t * t)) ≤ 9801000000) : (r0 + 1) * ((r1 + 1) * (r2 + 1)) ≤ 1000000 := by
  have s0 := sq_nn r0
  have s1 := Int.mul_nonneg (sq_nn r1) (show 0 ≤ a by omega)
  have s2 := Int.mul_nonneg (sq_nn r2) (show 0 ≤ D2 by omega)
  have a1 := Int.mul_le_mul q1 q2 s2 (Int.mul_nonneg (by omega) (by omega))
  have a2 := Int.mul_le_mul q0 a1 (Int.mul_nonneg s1 s2) (Int.mul_nonneg (by omega) (by omega))
  have e1 : r0 * r0 * 1 * (r1 * r1 * a * (r2 * r2 * D2)) = a * D2 * (r0 * (r1 * r2) * (r0 * (r1 * r2))) := by grind
  have e2 : 4 * a * t * (4 * D2 * t * (4 * D3 * t)) = a * D2 * (64 * (D3 * (t * (t * t)))) := by grind
  rw [e1, e2] at a2
  have a3 := Int.le_of_mul_le_mul_left a2 (Int.mul_pos (by omega) (by omega))
  have m12 := mul_bd (a := r1) (b := r2) (A := 198) (B := 198) (by omega) (by omega) (by omega) (by omega)
  have m01 := mul_bd (a := r0) (b := r1) (A := 198) (B := 198) (by omega) (by omega) (by omega) (by omega)
  have m02 := mul_bd (a := r0) (b := r2) (A := 198) (B := 198) (by omega) (by omega) (by omega) (by omega)
  have e3 : (r0 + 1) * ((r1 + 1) * (r2 + 1)) = r0 * (r1 * r2) + r0 * r1 + r0 * r2 + r1 * r2 + r0 + r1 + r2 + 1 := by grind
  rw [e3]
  generalize r0 * (r1 * r2) = R at *
  by_cases g : R ≤ 792000
  · omega
  · have := Int.mul_le_mul (show 792001 ≤ R by omega) (show 792001 ≤ R by omega) (by omega) (by omega)
    omega
theorem rows_len (h1 : 1 ≤ nl) (h3 : nl ≤ 3) (h : okF nl E) (ht : 1 ≤ t) (htr : t = truF nl E) (x : Nat → Int) : ((eR nl E t).en nl.toNat x).length ≤ 1000000 := by
  have tb := truF_bd nl E
  have hok := eR_ok h1 h3 h (t := t) (by omega)
  have l := en_len hok rfl (N := fun k => (nR E t k + 1).toNat) (fun k x hk hl => row_N h1 h3 h (by omega) (by have : k < nl.toNat := hk; omega) hl) nl.toNat x (Nat.le_refl _) (by
    rw [show (eR nl E t).n - nl.toNat = 0 by show nl.toNat - nl.toNat = 0; omega]; exact ht)
  refine Nat.le_trans l ?_
  rcases (show nl = 1 ∨ nl = 2 ∨ nl = 3 by omega) with rfl | rfl | rfl
  · have n0 := nR_bd h1 h3 h (t := t) (by omega) (k := 0) (by decide)
    show (nR E t 0 + 1).toNat * 1 ≤ 1000000
    omega
  · have n0 := nR_bd h1 h3 h (t := t) (by omega) (k := 0) (by decide)
    have n1 := nR_bd h1 h3 h (t := t) (by omega) (k := 1) (by decide)
    show (nR E t 0 + 1).toNat * ((nR E t 1 + 1).toNat * 1) ≤ 1000000
    have := Nat.mul_le_mul (show (nR E t 0 + 1).toNat ≤ 199 by omega) (show (nR E t 1 + 1).toNat * 1 ≤ 199 by omega)
    omega
  · have n0 := nR_bd h1 h3 h (t := t) (by omega) (k := 0) (by decide)
    have n1 := nR_bd h1 h3 h (t := t) (by omega) (k := 1) (by decide)
    have n2 := nR_bd h1 h3 h (t := t) (by omega) (k := 2) (by decide)
    have f := row_facts h1 h3 h
    have f2 := f.2.1 (by decide)
    have f3 := f.2.2 (by decide)
    have tt := Int.mul_le_mul (show t ≤ 100 by omega) (show t ≤ 100 by omega) (by omega) (by omega)
    have t3' := Int.mul_le_mul (show t ≤ 100 by omega) tt (sq_nn t) (by omega)
    have hb : D3R E * (t * (t * t)) ≤ 9801000000 := by
      by_cases g : t = 1
      · subst g; omega
      · obtain ⟨v, hv⟩ := takes_one (nl := 3) (E := E) (by omega)
        have d := D3_small h hv
        have := Int.mul_le_mul d t3' (Int.mul_nonneg (by omega) (sq_nn t)) (by omega)
        omega
    have p := prod3 (a := E 0) (D2 := D2R E) (D3 := D3R E) (t := t) f.1.1 f2.2.1 f3.2.1 ht ⟨n0.1, n0.2.1⟩ ⟨n1.1, n1.2.1⟩ ⟨n2.1, n2.2.1⟩ n0.2.2 n1.2.2 n2.2.2 hb
    show (nR E t 0 + 1).toNat * ((nR E t 1 + 1).toNat * ((nR E t 2 + 1).toNat * 1)) ≤ 1000000
    rw [Nat.mul_one, ← Int.toNat_mul (by omega) (by omega), ← Int.toNat_mul (by omega) (Int.mul_nonneg (by omega) (by omega))]
    omega
end Rowlast
