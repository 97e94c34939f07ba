/-! ROWS: how many there may be -/
section Rowlen
variable {nl t : Int} {E x : Nat → Int}
def prE (N : Nat → Nat) (n : Nat) : Nat → Nat
  | 0 => 1
  | d + 1 => N (n - 1 - d) * prE N n d
theorem flat_len {α β : Type} {f : α → List β} {B : Nat} : ∀ {l : List α}, (∀ t, t ∈ l → (f t).length ≤ B) → (l.flatMap f).length ≤ l.length * B
  | [], _ => by simp
  | a :: l, h => by
    rw [List.flatMap_cons, List.length_append, List.length_cons, Nat.succ_mul]
    have i := flat_len (l := l) (fun t ht => h t (by simp [ht]))
    have j := h a (by simp)
    omega
theorem en_len {e : EP} (h : e.ok) (hf : e.hf = 0) {N : Nat → Nat} (hN : ∀ k x, k < e.n → e.st ≤ e.lf k x → (e.hi k x - e.lo k x + 1).toNat ≤ N k) : ∀ (d : Nat) (x : Nat → Int), d ≤ e.n → e.st ≤ e.lf (e.n - d) x → (e.en d x).length ≤ prE N e.n d
  | 0, x, _, _ => by show (1 : Nat) ≤ 1; omega
  | d + 1, x, hd, hl => by
    have ek : e.n - d = (e.n - 1 - d) + 1 := by omega
    have ek2 : e.n - (d + 1) = e.n - 1 - d := by omega
    rw [ek2] at hl
    have hk : e.n - 1 - d < e.n := by omega
    unfold EP.en prE
    refine Nat.le_trans (flat_len (B := prE N e.n d) (fun u hu => ?_)) (Nat.mul_le_mul_right _ ?_)
    · refine en_len h hf hN d _ (by omega) ?_
      rw [ek]
      have m := dnF_mem hu
      refine (lv_in h hk hl u).mp ⟨?_, m.2⟩
      have lo : e.lo (e.n - 1 - d) x = -((e.rt (e.n - 1 - d) x + e.sm (e.n - 1 - d) x) / e.sl (e.n - 1 - d) (e.n - 1 - d)) := by unfold EP.lo; rw [if_neg (by omega)]
      rw [← lo]; omega
    · rw [dnF_len]; exact hN _ x hk hl
/-- numbers of a level -/
def nR (E : Nat → Int) (t : Int) (k : Nat) : Int := rootQ ((4 * dR E (k + 1) * t) / dR E k)
theorem row_N (h1 : 1 ≤ nl) (h3 : nl ≤ 3) (h : okF nl E) (ht : 1 ≤ t ∧ t ≤ 100) {k : Nat} (hk : (k : Int) < nl) (hl : 1 ≤ lR E t k x) : ((eR nl E t).hi k x - (eR nl E t).lo k x + 1).toNat ≤ (nR E t k + 1).toNat := by
  have hok := eR_ok h1 h3 h ht
  have hkn : k < (eR nl E t).n := by show k < nl.toNat; omega
  have b := (lv_bd hok hkn hl).2.1
  have d0 := dR_bd h1 h3 h (k := k) (by omega)
  have d1 := dR_bd h1 h3 h (k := k + 1) (by omega)
  have ll := lR_le (t := t) h1 h3 h x k (by omega)
  have lo : (eR nl E t).lo k x = -(((eR nl E t).rt k x + (eR nl E t).sm k x) / (eR nl E t).sl k k) := by unfold EP.lo; rw [if_neg (fun z => by have : (0 : Int) = 1 := z.1; omega)]
  have hi : (eR nl E t).hi k x = ((eR nl E t).rt k x - (eR nl E t).sm k x) / (eR nl E t).sl k k := rfl
  have sl : (eR nl E t).sl k k = dR E k := sR_diag (by omega)
  rw [lo, hi, sl]
  have b2 : (eR nl E t).rt k x * (eR nl E t).rt k x ≤ dR E (k + 1) * lR E t k x - 1 := b.2.1
  have b1 := b.1
  generalize (eR nl E t).rt k x = rt at *
  generalize (eR nl E t).sm k x = sm at *
  have u1 := Int.ediv_mul_le (rt - sm) (show dR E k ≠ 0 by omega)
  have u2 := Int.ediv_mul_le (rt + sm) (show dR E k ≠ 0 by omega)
  have m1 := Int.mul_le_mul_of_nonneg_left ll (show 0 ≤ dR E (k + 1) by omega)
  unfold nR
  generalize (rt - sm) / dR E k = p at *
  generalize (rt + sm) / dR E k = q at *
  generalize lR E t k x = lk at *
  generalize dR E (k + 1) = D1 at *
  generalize dR E k = D at *
  have vp : 0 ≤ 4 * D1 * t := Int.mul_nonneg (by omega) (by omega)
  have vb := mul_bd (a := 4 * D1) (b := t) (A := 3881196) (B := 100) (by omega) (by omega) (by omega) (by omega)
  have v0 := Int.ediv_nonneg vp (show 0 ≤ D by omega)
  have v1 := Int.ediv_le_self D vp
  have r := rootQ_spec (v := (4 * D1 * t) / D) v0 (by omega)
  by_cases s0 : 0 ≤ p + q
  · have s1 : (p + q) * D ≤ 2 * rt := by rw [Int.add_mul]; omega
    have s2 := Int.mul_le_mul s1 s1 (Int.mul_nonneg s0 (by omega)) (by omega)
    have s3 : D * ((p + q) * (p + q) * D) ≤ D * (4 * D1 * t) := by
      rw [show D * ((p + q) * (p + q) * D) = (p + q) * D * ((p + q) * D) by grind]
      rw [show 2 * rt * (2 * rt) = 4 * (rt * rt) by grind] at s2
      rw [show D * (4 * D1 * t) = 4 * (D1 * (D * t)) by grind]
      omega
    have s4 : (p + q) * (p + q) * D ≤ 4 * D1 * t := Int.le_of_mul_le_mul_left s3 (by omega)
    have s5 : (p + q) * (p + q) ≤ (4 * D1 * t) / D := (Int.le_ediv_iff_mul_le (by omega)).mpr s4
    have s6 := (sq_lt (a := p + q) (b := rootQ ((4 * D1 * t) / D) + 1) (by omega) (by omega)).2
    omega
  · omega
end Rowlen
