/-! SPECIFICATION: determinants by elimination, roots, lawful forms. -/
theorem mul_bd {a b A B : Int} (h1 : -A ≤ a) (h2 : a ≤ A) (h3 : -B ≤ b) (h4 : b ≤ B) : -(A * B) ≤ a * b ∧ a * b ≤ A * B := by
  have e : (a * b).natAbs = a.natAbs * b.natAbs := Int.natAbs_mul a b
  have h5 : a.natAbs ≤ A.toNat := by omega
  have h6 : b.natAbs ≤ B.toNat := by omega
  have h7 : a.natAbs * b.natAbs ≤ A.toNat * B.toNat := Nat.mul_le_mul h5 h6
  have h8 : ((A.toNat * B.toNat : Nat) : Int) = A * B := by
    rw [Int.natCast_mul]
    rw [Int.toNat_of_nonneg (by omega), Int.toNat_of_nonneg (by omega)]
  omega
theorem tdiv_bd {a b B : Int} (h1 : -B ≤ a) (h2 : a ≤ B) : -B ≤ a.tdiv b ∧ a.tdiv b ≤ B := by
  have e : (a.tdiv b).natAbs = a.natAbs / b.natAbs := Int.natAbs_tdiv a b
  have h3 : a.natAbs / b.natAbs ≤ a.natAbs := Nat.div_le_self _ _
  omega
/-- one step of the elimination -/
def bstep (T : Nat → Nat → Int) (p : Nat) (last : Int) : Nat → Nat → Int := fun i j => (T i j * T p p - T i p * T p j).tdiv last
/-- m pivots from p on; 0, if one of them isn't above 0 -/
def detB : Nat → (Nat → Nat → Int) → Nat → Int → Int
  | 0, _, _, last => last
  | m + 1, T, p, last => if T p p ≤ 0 then 0 else detB m (bstep T p last) (p + 1) (T p p)
theorem detB_congr : ∀ (m : Nat) (T T' : Nat → Nat → Int) (p : Nat) (last : Int), (∀ i j, p ≤ i → i < p + m → p ≤ j → j < p + m → T i j = T' i j) → detB m T p last = detB m T' p last
  | 0, _, _, _, _, _ => rfl
  | m + 1, T, T', p, last, h => by
    unfold detB
    rw [h p p (by omega) (by omega) (by omega) (by omega)]
    split
    · rfl
    · apply detB_congr
      intro i j h1 h2 h3 h4
      unfold bstep
      rw [h i j (by omega) (by omega) (by omega) (by omega), h p p (by omega) (by omega) (by omega) (by omega), h i p (by omega) (by omega) (by omega) (by omega), h p j (by omega) (by omega) (by omega) (by omega)]
theorem detB_nonneg : ∀ (m : Nat) (T : Nat → Nat → Int) (p : Nat) (last : Int), 0 ≤ last → 0 ≤ detB m T p last
  | 0, _, _, _, h => h
  | m + 1, T, p, last, h => by
    unfold detB
    split
    · omega
    · exact detB_nonneg m _ _ _ (by omega)
/-- the i-th letter but one -/
def sk (but : Int) (i : Nat) : Nat := if 0 ≤ but ∧ but ≤ (i : Int) then i + 1 else i
/-- how many of k letters but one -/
def skn (but k : Int) : Nat := if 0 ≤ but ∧ but < k then (k - 1).toNat else k.toNat
/-- the determinant of the first k letters but one (-1: of all these), 0 if a minor isn't above 0 -/
def detS (E : Nat → Int) (k but : Int) : Int := detB (skn but k) (fun i j => E (4 * sk but i + sk but j)) 0 1
theorem detS_nonneg (E : Nat → Int) (k but : Int) : 0 ≤ detS E k but := detB_nonneg _ _ _ _ (by omega)
/-- the root of a whole number, down -/
def rootS (v : Int) : Int := ((List.range 2097152).filter (fun (r : Nat) => decide ((r : Int) * r ≤ v))).length - 1
/-- entries are small -/
def entS (E : Nat → Int) : Prop := ∀ k, k < 16 → -99 ≤ E k ∧ E k ≤ 99
def eE (J : Nat → Nat → Int) (p : Int) : Nat → Int := fun k => J 43 (16 * p.toNat + k)
theorem eE_at {J : Nat → Nat → Int} {p i j : Int} (hp : 0 ≤ p) (hi : 0 ≤ i) (hj : 0 ≤ j) : J 43 (16 * p + 4 * i + j).toNat = eE J p (4 * i.toNat + j.toNat) := by
  unfold eE; congr 1; omega
