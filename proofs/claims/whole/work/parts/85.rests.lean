/-! RESTS: bits of worths by a modulus, the last letter apart -/
section Rests
variable {nl m : Int} {E X : Nat → Int}
theorem lft_succ {c : Int} (hm : 0 < m) (hc : 0 ≤ c) (i : Nat) : lft m c (i + 1) = lft m c i / m := by
  show (lft m c i).tdiv m = _
  rw [Int.tdiv_eq_ediv_of_nonneg (lft_nn (by omega) hc i)]
theorem dgv_eq {c : Int} (hm : 0 < m) (hc : 0 ≤ c) (i : Nat) : dgv nl m c i = if (i : Int) < nl then lft m c i % m else 0 := by
  unfold dgv; split
  · rw [Int.tmod_eq_emod_of_nonneg (lft_nn (by omega) hc i)]
  · rfl
theorem lft_join {c w : Int} (hm : 0 < m) (hc : 0 ≤ c) (hw : 0 ≤ w) (k : Nat) : ∀ i : Nat, i ≤ k → lft m (c + w * m ^ k) i = lft m c i + w * m ^ (k - i)
  | 0, _ => rfl
  | i + 1, h => by
    have hp : (0 : Int) ≤ w * m ^ k := Int.mul_nonneg hw (Int.pow_nonneg (by omega))
    rw [lft_succ hm (by omega), lft_join hm hc hw k i (by omega), lft_succ hm hc, show k - i = (k - (i + 1)) + 1 by omega, Int.pow_succ, ← Int.mul_assoc, Int.add_mul_ediv_right _ _ (by omega)]
theorem lft_lt {c : Int} (hm : 0 < m) (hc : 0 ≤ c) (k : Nat) (h : c < m ^ k) : ∀ i : Nat, i ≤ k → lft m c i < m ^ (k - i)
  | 0, _ => h
  | i + 1, hi => by
    have ih := lft_lt hm hc k h i (by omega)
    rw [show k - i = (k - (i + 1)) + 1 by omega, Int.pow_succ] at ih
    rw [lft_succ hm hc]
    exact Int.ediv_lt_of_lt_mul hm ih
theorem lft_zero {c : Int} (hm : 0 < m) (hc : 0 ≤ c) (k : Nat) (h : c < m ^ k) : lft m c k = 0 := by
  have h1 := lft_lt hm hc k h k (Nat.le_refl _)
  rw [Nat.sub_self, Int.pow_zero] at h1
  have := lft_nn (m := m) (by omega) hc k
  omega
/-- a letter behind those of a code -/
def xw (nl m c w : Int) (i : Nat) : Int := if (i : Int) < nl - 1 then lft m c i % m else if (i : Int) = nl - 1 then w else 0
theorem dgv_join {c w : Int} (hm : 0 < m) (hn : 1 ≤ nl) (hc : 0 ≤ c) (hcl : c < m ^ (nl - 1).toNat) (hw : 0 ≤ w ∧ w < m) (i : Nat) : dgv nl m (c + w * m ^ (nl - 1).toNat) i = xw nl m c w i := by
  have hp : (0 : Int) ≤ w * m ^ (nl - 1).toNat := Int.mul_nonneg hw.1 (Int.pow_nonneg (by omega))
  rw [dgv_eq hm (by omega)]
  unfold xw
  by_cases h1 : (i : Int) < nl - 1
  · rw [if_pos (by omega), if_pos h1, lft_join hm hc hw.1 _ i (by omega), show (nl - 1).toNat - i = ((nl - 1).toNat - (i + 1)) + 1 by omega, Int.pow_succ, ← Int.mul_assoc, Int.add_mul_emod_self_right]
  · rw [if_neg h1]
    by_cases h2 : (i : Int) = nl - 1
    · rw [if_pos (by omega), if_pos h2, lft_join hm hc hw.1 _ i (by omega), show i = (nl - 1).toNat by omega, lft_zero hm hc _ hcl, Nat.sub_self, Int.pow_zero, Int.mul_one, Int.zero_add, Int.emod_eq_of_lt hw.1 hw.2]
    · rw [if_neg (by omega), if_neg h2]
def ssum (E X : Nat → Int) (k : Nat) : Nat → Int
  | 0 => 0
  | j + 1 => ssum E X k j + E (4 * k + j) * X j
theorem qsum_last (hs : symS E) {k : Nat} (hk : k ≤ 3) : qsum E X (k + 1) (k + 1) = qsum E X k k + 2 * ssum E X k k * X k + E (4 * k + k) * X k * X k := by
  have s10 := hs 1 0 (by omega) (by omega)
  have s20 := hs 2 0 (by omega) (by omega)
  have s21 := hs 2 1 (by omega) (by omega)
  have s30 := hs 3 0 (by omega) (by omega)
  have s31 := hs 3 1 (by omega) (by omega)
  have s32 := hs 3 2 (by omega) (by omega)
  simp only [Nat.mul_zero, Nat.zero_add, Nat.mul_one, Nat.reduceMul, Nat.reduceAdd] at s10 s20 s21 s30 s31 s32
  rcases (show k = 0 ∨ k = 1 ∨ k = 2 ∨ k = 3 by omega) with rfl | rfl | rfl | rfl
  · simp only [qsum, rsum, ssum, Nat.mul_zero, Nat.zero_add, Nat.mul_one, Nat.reduceMul, Nat.reduceAdd, Nat.add_zero]; grind
  · simp only [qsum, rsum, ssum, Nat.mul_zero, Nat.zero_add, Nat.mul_one, Nat.reduceMul, Nat.reduceAdd, Nat.add_zero]; rw [s10]; grind
  · simp only [qsum, rsum, ssum, Nat.mul_zero, Nat.zero_add, Nat.mul_one, Nat.reduceMul, Nat.reduceAdd, Nat.add_zero]; rw [s20, s21]; grind
  · simp only [qsum, rsum, ssum, Nat.mul_zero, Nat.zero_add, Nat.mul_one, Nat.reduceMul, Nat.reduceAdd, Nat.add_zero]; rw [s30, s31, s32]; grind
theorem rsum_cg {X' : Nat → Int} {i : Nat} : ∀ k : Nat, (∀ q, q < k → X q = X' q) → X i = X' i → rsum E X i k = rsum E X' i k
  | 0, _, _ => rfl
  | k + 1, h, hi => by unfold rsum; rw [rsum_cg k (fun q hq => h q (by omega)) hi, h k (by omega), hi]
theorem qsum_cg {X' : Nat → Int} {n : Nat} (h : ∀ q, q < n → X q = X' q) : ∀ k : Nat, k ≤ n → qsum E X n k = qsum E X' n k
  | 0, _ => rfl
  | k + 1, hk => by unfold qsum; rw [qsum_cg h k (by omega), rsum_cg n h (h k (by omega))]
theorem ssum_cg {X' : Nat → Int} {i : Nat} : ∀ k : Nat, (∀ q, q < k → X q = X' q) → ssum E X i k = ssum E X' i k
  | 0, _ => rfl
  | k + 1, h => by unfold ssum; rw [ssum_cg k (fun q hq => h q (by omega)), h k (by omega)]
theorem ssum_bd (hE : entS E) (hX : ∀ i, i < 4 → 0 ≤ X i ∧ X i < 16) {k : Nat} (hk : k < 4) : ∀ j : Nat, j ≤ 4 → -(1485 * (j : Int)) ≤ ssum E X k j ∧ ssum E X k j ≤ 1485 * (j : Int)
  | 0, _ => by simp [ssum]
  | j + 1, hj => by
    have h1 := ssum_bd hE hX hk j (by omega)
    have h2 := hE (4 * k + j) (by omega)
    have h3 := hX j (by omega)
    have h5 := mul_bd (a := E (4 * k + j)) (b := X j) (A := 99) (B := 15) (by omega) (by omega) (by omega) (by omega)
    unfold ssum; omega
/-- the worth of a code, the last letter apart -/
theorem wv_code (hm : 0 < m) (hn : 1 ≤ nl ∧ nl ≤ 4) (hs : symS E) (hz : zeroS nl E) {c w : Int} (hc : 0 ≤ c) (hcl : c < m ^ (nl - 1).toNat) (hw : 0 ≤ w ∧ w < m) {Y : Nat → Int} (hY : ∀ i : Nat, (i : Int) < nl - 1 → Y i = lft m c i % m) :
    wv E (dgV nl m (c + w * m ^ (nl - 1).toNat)) = qsum E Y (nl - 1).toNat (nl - 1).toNat + 2 * ssum E Y (nl - 1).toNat (nl - 1).toNat * w + E (4 * (nl - 1).toNat + (nl - 1).toNat) * w * w := by
  have e : dgV nl m (c + w * m ^ (nl - 1).toNat) = (xw nl m c w 0, xw nl m c w 1, xw nl m c w 2, xw nl m c w 3) := by
    unfold dgV; rw [dgv_join hm hn.1 hc hcl hw, dgv_join hm hn.1 hc hcl hw, dgv_join hm hn.1 hc hcl hw, dgv_join hm hn.1 hc hcl hw]
  rw [e, ← qsum_wv (x := xw nl m c w) hn.1 hn.2 hs hz, show nl.toNat = (nl - 1).toNat + 1 by omega, qsum_last hs (by omega)]
  have hx : ∀ q, q < (nl - 1).toNat → xw nl m c w q = Y q := fun q hq => by
    unfold xw; rw [if_pos (by omega), hY q (by omega)]
  have hl : xw nl m c w (nl - 1).toNat = w := by unfold xw; rw [if_neg (by omega), if_pos (by omega)]
  rw [qsum_cg hx _ (Nat.le_refl _), ssum_cg _ hx, hl]
theorem resS_bit (r : Nat) : ∀ K : Nat, (resS nl E m K).testBit r = true ↔ ∃ c : Nat, c < K ∧ ((wv E (dgV nl m c)).tmod m).toNat = r
  | 0 => by simp [resS]
  | K + 1 => by
    unfold resS
    rw [Nat.testBit_or, Bool.or_eq_true, resS_bit r K, Nat.testBit_two_pow, decide_eq_true_iff]
    constructor
    · rintro (⟨c, h1, h2⟩ | h)
      · exact ⟨c, by omega, h2⟩
      · exact ⟨K, by omega, h⟩
    · rintro ⟨c, h1, h2⟩
      by_cases e : c = K
      · subst e; exact Or.inr h2
      · exact Or.inl ⟨c, by omega, h2⟩
theorem allS_pow (hn : 1 ≤ nl ∧ nl ≤ 4) : allS nl m = m ^ (nl - 1).toNat * m := by
  unfold allS
  rcases (show nl = 1 ∨ nl = 2 ∨ nl = 3 ∨ nl = 4 by omega) with rfl | rfl | rfl | rfl
  · simp
  · show m * m = m ^ 1 * m; rw [Int.pow_succ, Int.pow_zero, Int.one_mul]
  · show m * m * m = m ^ 2 * m; rw [Int.pow_succ, Int.pow_succ, Int.pow_zero, Int.one_mul]
  · show m * m * m * m = m ^ 3 * m; rw [Int.pow_succ, Int.pow_succ, Int.pow_succ, Int.pow_zero, Int.one_mul]
/-- what remains of a worth -/
def vrm (m b s q w : Int) : Nat := ((b + s * w + q * w * w) % m).toNat
theorem vrm_eq {a b s t q w : Int} (hm : 0 < m) (hb : b = a % m) (hs : s = t % m) : vrm m b s q w = ((a + t * w + q * w * w) % m).toNat := by
  unfold vrm
  congr 1
  have e1 : a % m = a - m * (a / m) := by have := Int.mul_ediv_add_emod a m; omega
  have e2 : t % m = t - m * (t / m) := by have := Int.mul_ediv_add_emod t m; omega
  have e3 : b + s * w + q * w * w = a + t * w + q * w * w + m * (-(a / m) - (t / m) * w) := by rw [hb, hs, e1, e2]; grind
  rw [e3, Int.add_mul_emod_self_left]
/-- a bit of all bits: a code's letters ahead, and the last -/
theorem rest_bit (hm : 2 ≤ m ∧ m ≤ 16) (hn : 1 ≤ nl ∧ nl ≤ 4) (hp : ∀ x, 0 ≤ wv E x) (r : Nat) : (restS nl E m).testBit r = true ↔ ∃ c w : Int, 0 ≤ c ∧ c < m ^ (nl - 1).toNat ∧ 0 ≤ w ∧ w < m ∧ ((wv E (dgV nl m (c + w * m ^ (nl - 1).toNat))) % m).toNat = r := by
  have hP : (0 : Int) < m ^ (nl - 1).toNat := Int.pow_pos (by omega)
  unfold restS
  rw [resS_bit]
  constructor
  · rintro ⟨c, h1, h2⟩
    have hb := allS_bd (nl := nl) hm
    rw [allS_pow hn] at h1 hb
    have d := Int.mul_ediv_add_emod (c : Int) (m ^ (nl - 1).toNat)
    have e0 := Int.emod_nonneg (c : Int) (show m ^ (nl - 1).toNat ≠ 0 by omega)
    have e1 := Int.emod_lt_of_pos (c : Int) hP
    have f0 := Int.ediv_nonneg (a := (c : Int)) (b := m ^ (nl - 1).toNat) (by omega) (by omega)
    have f1 : (c : Int) / m ^ (nl - 1).toNat < m := by
      refine Int.ediv_lt_of_lt_mul hP ?_
      rw [Int.mul_comm]; omega
    refine ⟨(c : Int) % m ^ (nl - 1).toNat, (c : Int) / m ^ (nl - 1).toNat, e0, e1, f0, f1, ?_⟩
    rw [Int.mul_comm, show (c : Int) % m ^ (nl - 1).toNat + m ^ (nl - 1).toNat * ((c : Int) / m ^ (nl - 1).toNat) = c by omega, ← Int.tmod_eq_emod_of_nonneg (hp _)]
    exact h2
  · rintro ⟨c, w, h1, h2, h3, h4, h5⟩
    have hw : (w + 1) * m ^ (nl - 1).toNat ≤ m * m ^ (nl - 1).toNat := Int.mul_le_mul_of_nonneg_right (by omega) (by omega)
    have hw0 : 0 ≤ w * m ^ (nl - 1).toNat := Int.mul_nonneg h3 (by omega)
    rw [Int.add_mul, Int.one_mul, Int.mul_comm m] at hw
    refine ⟨(c + w * m ^ (nl - 1).toNat).toNat, by rw [allS_pow hn]; omega, ?_⟩
    rw [show (((c + w * m ^ (nl - 1).toNat).toNat : Nat) : Int) = c + w * m ^ (nl - 1).toNat by omega, Int.tmod_eq_emod_of_nonneg (hp _)]
    exact h5
theorem rest_small (hm : 2 ≤ m ∧ m ≤ 16) (hp : ∀ x, 0 ≤ wv E x) {r : Nat} (h : (restS nl E m).testBit r = true) : (r : Int) < m := by
  unfold restS at h
  rw [resS_bit] at h
  obtain ⟨c, _, h2⟩ := h
  rw [Int.tmod_eq_emod_of_nonneg (hp _)] at h2
  have := Int.emod_lt_of_pos (wv E (dgV nl m c)) (show 0 < m by omega)
  have := Int.emod_nonneg (wv E (dgV nl m c)) (show m ≠ 0 by omega)
  omega
theorem rest_pos (hm : 2 ≤ m ∧ m ≤ 16) (hn : 1 ≤ nl ∧ nl ≤ 4) : restS nl E m ≠ 0 := by
  intro h
  have hb : (0 : Nat) < (allS nl m).toNat := by
    have := Int.pow_pos (n := m) (m := (nl - 1).toNat) (by omega)
    have := Int.mul_le_mul (show 1 ≤ m ^ (nl - 1).toNat by omega) (show 1 ≤ m by omega) (by omega) (by omega)
    rw [allS_pow hn]; omega
  have := (resS_bit (nl := nl) (E := E) (m := m) ((wv E (dgV nl m (0 : Nat))).tmod m).toNat (allS nl m).toNat).mpr ⟨0, hb, rfl⟩
  unfold restS at h
  rw [h] at this
  simp at this
theorem or_bit {a : Nat} {p r : Nat} : (a ||| 2 ^ p).testBit r = true ↔ a.testBit r = true ∨ p = r := by
  rw [Nat.testBit_or, Bool.or_eq_true, Nat.testBit_two_pow, decide_eq_true_iff]
end Rests
