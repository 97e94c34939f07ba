/-! WORTH: with all sizes summed up -/
def absF (f : Nat → Int) : Nat → Int := fun k => ((f k).natAbs : Int)
theorem rsum_nn {E x : Nat → Int} {i : Nat} : ∀ j, 0 ≤ rsum (absF E) (absF x) i j
  | 0 => by simp [rsum]
  | j + 1 => by
    have h := rsum_nn (E := E) (x := x) (i := i) j
    unfold rsum
    exact Int.add_nonneg h (Int.mul_nonneg (Int.mul_nonneg (Int.natCast_nonneg _) (Int.natCast_nonneg _)) (Int.natCast_nonneg _))
theorem rsum_mono {E x : Nat → Int} {i j : Nat} : ∀ d, rsum (absF E) (absF x) i j ≤ rsum (absF E) (absF x) i (j + d)
  | 0 => Int.le_refl _
  | d + 1 => by
    have h := rsum_mono (E := E) (x := x) (i := i) (j := j) d
    rw [← Nat.add_assoc]
    rw [show rsum (absF E) (absF x) i (j + d + 1) = rsum (absF E) (absF x) i (j + d) + absF E (4 * i + (j + d)) * absF x i * absF x (j + d) from rfl]
    have h2 : 0 ≤ absF E (4 * i + (j + d)) * absF x i * absF x (j + d) := Int.mul_nonneg (Int.mul_nonneg (Int.natCast_nonneg _) (Int.natCast_nonneg _)) (Int.natCast_nonneg _)
    omega
theorem qsum_mono {E x : Nat → Int} {n i : Nat} : ∀ d, qsum (absF E) (absF x) n i ≤ qsum (absF E) (absF x) n (i + d)
  | 0 => Int.le_refl _
  | d + 1 => by
    have h := qsum_mono (E := E) (x := x) (n := n) (i := i) d
    rw [← Nat.add_assoc]
    rw [show qsum (absF E) (absF x) n (i + d + 1) = qsum (absF E) (absF x) n (i + d) + rsum (absF E) (absF x) (i + d) n from rfl]
    have h2 := rsum_nn (E := E) (x := x) (i := i + d) n
    omega
/-- what is summed up so far is at most all -/
theorem asum_le {E x : Nat → Int} {n i j : Nat} (hi : i < n) (hj : j ≤ n) : qsum (absF E) (absF x) n i + rsum (absF E) (absF x) i j ≤ qsum (absF E) (absF x) n n := by
  have h1 := rsum_mono (E := E) (x := x) (i := i) (j := j) (n - j)
  rw [show j + (n - j) = n by omega] at h1
  have h2 := qsum_mono (E := E) (x := x) (n := n) (i := i + 1) (n - (i + 1))
  rw [show i + 1 + (n - (i + 1)) = n by omega] at h2
  rw [show qsum (absF E) (absF x) n (i + 1) = qsum (absF E) (absF x) n i + rsum (absF E) (absF x) i n from rfl] at h2
  omega
theorem absF_mul {E x : Nat → Int} {k i j : Nat} {v0 : Int} (hv : v0 = ((x i * x j).natAbs : Int)) : absF E k * absF x i * absF x j = absF E k * v0 := by
  rw [hv, Int.natAbs_mul, Int.natCast_mul, Int.mul_assoc]; rfl
def xs4 (x y z w : Int) : Nat → Int := fun q => if q = 0 then x else if q = 1 then y else if q = 2 then z else w
noncomputable def aWorth (J : Nat → Nat → Int) (s x y z w : Int) : Int := cif (0 ≤ s ∧ s < 6 ∧ 0 < J 44 s.toNat) (if qsum (absF (eE J s)) (absF (xs4 x y z w)) (J 44 s.toNat).toNat (J 44 s.toNat).toNat ≤ 9223372036854775807 then wv (eE J s) (x, y, z, w) else -6) (-1)
