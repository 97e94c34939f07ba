/-! SPECIFICATION: determinants by elimination, roots, lawful forms. -/
theorem mul_bd {a b A B : Int} (h1 : -A ≤ a) (h2 : a ≤ A) (h3 : -B ≤ b) (h4 : b ≤ B) : -(A * B) ≤ a * b ∧ a * b ≤ A * B := by
  have e : (a * b).natAbs = a.natAbs * b.natAbs := Int.natAbs_mul a b
  have h5 : a.natAbs ≤ A.toNat := by omega
  have h6 : b.natAbs ≤ B.toNat := by omega
  have h7 : a.natAbs * b.natAbs ≤ A.toNat * B.toNat := Nat.mul_le_mul h5 h6
  have h8 : ((A.toNat * B.toNat : Nat) : Int) = A * B := by
    rw [Int.natCast_mul]
    rw [Int.toNat_of_nonneg (by omega), Int.toNat_of_nonneg (by omega)]
  omega
theorem tdiv_bd {a b B : Int} (h1 : -B ≤ a) (h2 : a ≤ B) : -B ≤ a.tdiv b ∧ a.tdiv b ≤ B := by
  have e : (a.tdiv b).natAbs = a.natAbs / b.natAbs := Int.natAbs_tdiv a b
  have h3 : a.natAbs / b.natAbs ≤ a.natAbs := Nat.div_le_self _ _
  omega
/-- one step of the elimination -/
def bstep (T : Nat → Nat → Int) (p : Nat) (last : Int) : Nat → Nat → Int := fun i j => (T i j * T p p - T i p * T p j).tdiv last
/-- m pivots from p on; 0, if one of them isn't above 0 -/
def detB : Nat → (Nat → Nat → Int) → Nat → Int → Int
  | 0, _, _, last => last
  | m + 1, T, p, last => if T p p ≤ 0 then 0 else detB m (bstep T p last) (p + 1) (T p p)
theorem detB_congr : ∀ (m : Nat) (T T' : Nat → Nat → Int) (p : Nat) (last : Int), (∀ i j, p ≤ i → i < p + m → p ≤ j → j < p + m → T i j = T' i j) → detB m T p last = detB m T' p last
  | 0, _, _, _, _, _ => rfl
  | m + 1, T, T', p, last, h => by
    unfold detB
    rw [h p p (by omega) (by omega) (by omega) (by omega)]
    split
    · rfl
    · apply detB_congr
      intro i j h1 h2 h3 h4
      unfold bstep
      rw [h i j (by omega) (by omega) (by omega) (by omega), h p p (by omega) (by omega) (by omega) (by omega), h i p (by omega) (by omega) (by omega) (by omega), h p j (by omega) (by omega) (by omega) (by omega)]
theorem detB_nonneg : ∀ (m : Nat) (T : Nat → Nat → Int) (p : Nat) (last : Int), 0 ≤ last → 0 ≤ detB m T p last
  | 0, _, _, _, h => h
  | m + 1, T, p, last, h => by
    unfold detB
    split
    · omega
    · exact detB_nonneg m _ _ _ (by omega)
/-- the i-th letter but one -/
def sk (but : Int) (i : Nat) : Nat := if 0 ≤ but ∧ but ≤ (i : Int) then i + 1 else i
/-- how many of k letters but one -/
def skn (but k : Int) : Nat := if 0 ≤ but ∧ but < k then (k - 1).toNat else k.toNat
/-- the determinant of the first k letters but one (-1: of all these), 0 if a minor isn't above 0 -/
def detS (E : Nat → Int) (k but : Int) : Int := detB (skn but k) (fun i j => E (4 * sk but i + sk but j)) 0 1
theorem detS_nonneg (E : Nat → Int) (k but : Int) : 0 ≤ detS E k but := detB_nonneg _ _ _ _ (by omega)
/-- the root of a whole number, down -/
def rootS (v : Int) : Int := ((List.range 2097152).filter (fun (r : Nat) => decide ((r : Int) * r ≤ v))).length - 1
/-- entries are small -/
def entS (E : Nat → Int) : Prop := ∀ k, k < 16 → -99 ≤ E k ∧ E k ≤ 99
def eE (J : Nat → Nat → Int) (p : Int) : Nat → Int := fun k => J 43 (16 * p.toNat + k)
theorem eE_at {J : Nat → Nat → Int} {p i j : Int} (hp : 0 ≤ p) (hi : 0 ≤ i) (hj : 0 ≤ j) : J 43 (16 * p + 4 * i + j).toNat = eE J p (4 * i.toNat + j.toNat) := by
  unfold eE; congr 1; omega
/-- bits of a root, from 2^(k - 1) down -/
def rootB : Nat → Int → Int → Int
  | 0, r, _ => r
  | k + 1, r, v => rootB k (if (r + (2 ^ k : Nat)) * (r + (2 ^ k : Nat)) ≤ v then r + (2 ^ k : Nat) else r) v
def rootQ (v : Int) : Int := rootB 21 0 v
theorem rootB_spec : ∀ (k : Nat) (r v : Int), 0 ≤ r → r * r ≤ v → v < (r + (2 ^ k : Nat)) * (r + (2 ^ k : Nat)) → 0 ≤ rootB k r v ∧ rootB k r v * rootB k r v ≤ v ∧ v < (rootB k r v + 1) * (rootB k r v + 1)
  | 0, r, v, h0, h1, h2 => ⟨h0, h1, by simpa [rootB] using h2⟩
  | k + 1, r, v, h0, h1, h2 => by
    unfold rootB
    split
    · rename_i hc
      refine rootB_spec k _ v (Int.add_nonneg h0 (Int.natCast_nonneg _)) hc ?_
      have e : (2 ^ (k + 1) : Nat) = 2 ^ k + 2 ^ k := by rw [Nat.pow_succ]; omega
      rw [e, Int.natCast_add, ← Int.add_assoc] at h2
      exact h2
    · rename_i hc
      exact rootB_spec k _ v h0 h1 (by omega)
theorem rootB_bd : ∀ (k : Nat) (r v : Int), 0 ≤ r → r ≤ rootB k r v ∧ rootB k r v < r + (2 ^ k : Nat)
  | 0, r, v, h0 => by simp [rootB]; omega
  | k + 1, r, v, h0 => by
    unfold rootB
    have e : (2 ^ (k + 1) : Nat) = 2 ^ k + 2 ^ k := by rw [Nat.pow_succ]; omega
    split
    · have := rootB_bd k (r + (2 ^ k : Nat)) v (Int.add_nonneg h0 (Int.natCast_nonneg _))
      have h9 : (0 : Int) ≤ ((2 ^ k : Nat) : Int) := Int.natCast_nonneg _
      rw [e, Int.natCast_add]
      generalize ((2 ^ k : Nat) : Int) = w at *
      omega
    · have := rootB_bd k r v h0
      have h9 : (0 : Int) ≤ ((2 ^ k : Nat) : Int) := Int.natCast_nonneg _
      rw [e, Int.natCast_add]
      generalize ((2 ^ k : Nat) : Int) = w at *
      omega
theorem rootQ_bd (v : Int) : 0 ≤ rootQ v ∧ rootQ v < 2097152 := by
  have := rootB_bd 21 0 v (by omega)
  unfold rootQ
  constructor
  · exact this.1
  · have h := this.2
    simp at h
    exact h
theorem rootQ_spec {v : Int} (h0 : 0 ≤ v) (h1 : v < 4398046511104) : 0 ≤ rootQ v ∧ rootQ v * rootQ v ≤ v ∧ v < (rootQ v + 1) * (rootQ v + 1) := by
  refine rootB_spec 21 0 v (by omega) (by omega) ?_
  simp; omega
theorem root_uniq {r q v : Int} (h1 : 0 ≤ r ∧ r * r ≤ v ∧ v < (r + 1) * (r + 1)) (h2 : 0 ≤ q ∧ q * q ≤ v ∧ v < (q + 1) * (q + 1)) : r = q := by
  have key : ∀ {a b : Int}, 0 ≤ a → 0 ≤ b → a * a ≤ v → v < (b + 1) * (b + 1) → a ≤ b := by
    intro a b ha hb h3 h4
    by_cases hab : a ≤ b
    · exact hab
    · have h5 : b + 1 ≤ a := by omega
      have h6 : (b + 1) * (b + 1) ≤ a * a := Int.mul_le_mul h5 h5 (by omega) (by omega)
      omega
  have a1 := key h1.1 h2.1 h1.2.1 h2.2.2
  have a2 := key h2.1 h1.1 h2.2.1 h1.2.2
  omega
def reachS (nl : Int) (E : Nat → Int) (i : Nat) : Int := if (i : Int) < nl then rootQ ((100 * detS E nl i).tdiv (detS E nl (-1))) else 0
def boxP (nl : Int) (E : Nat → Int) : Nat → Int
  | 0 => 1
  | i + 1 => if 1000000 < boxP nl E i then boxP nl E i else boxP nl E i * (2 * reachS nl E i + 1)
def lawS (nl : Int) (E : Nat → Int) : Prop := entS E ∧ 0 < detS E nl (-1) ∧ boxP nl E 4 ≤ 1000000
theorem reachS_bd (nl : Int) (E : Nat → Int) (i : Nat) : 0 ≤ reachS nl E i ∧ reachS nl E i < 2097152 := by
  unfold reachS
  split
  · exact rootQ_bd _
  · omega
theorem boxP_bd (nl : Int) (E : Nat → Int) : ∀ i, 1 ≤ boxP nl E i ∧ boxP nl E i ≤ 4194303000000
  | 0 => by simp [boxP]
  | i + 1 => by
    have h := boxP_bd nl E i
    have hr := reachS_bd nl E i
    unfold boxP
    split
    · exact h
    · rename_i hc
      have h1 := mul_bd (a := boxP nl E i) (b := 2 * reachS nl E i + 1) (A := 1000000) (B := 4194303) (by omega) (by omega) (by omega) (by omega)
      have h2 : 1 * 1 ≤ boxP nl E i * (2 * reachS nl E i + 1) := Int.mul_le_mul h.1 (by omega) (by omega) (by omega)
      omega
def bq (q : Int) : Int := if q ≤ 0 then 99 else if q ≤ 1 then 19602 else if q ≤ 2 then 768476808 else 1200000000000000000
def bv (k : Nat) : Int := if k = 0 then 0 else ((2 ^ (k - 1) : Nat) : Int)
theorem shr_bv : ∀ k, 1 ≤ k → k ≤ 21 → lZ (bv k) >>> ((iZ 1).toInt64 &&& 63) = lZ (bv (k - 1)) := by
  have h : ∀ k : Fin 22, 1 ≤ k.val → lZ (bv k.val) >>> ((iZ 1).toInt64 &&& 63) = lZ (bv (k.val - 1)) := by decide +kernel
  intro k h1 h2
  exact h ⟨k, by omega⟩ h1
