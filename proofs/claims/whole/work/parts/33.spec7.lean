/-! CHANGES OF LETTERS, JOINS; determinants of symmetric forms are small -/
def chgK (E : Nat → Int) (i j : Nat) (c : Int) (k : Nat) : Nat → Int := fun q => if q / 4 = i ∧ q % 4 ≠ i ∧ q % 4 < k then E (4 * i + q % 4) + c * E (4 * j + q % 4) else if q % 4 = i ∧ q / 4 ≠ i ∧ q / 4 < k then E (4 * i + q / 4) + c * E (4 * j + q / 4) else E q
def chgE (E : Nat → Int) (nl i j : Nat) (c : Int) : Nat → Int := setE (chgK E i j c nl) i i (E (4 * i + i) + 2 * c * E (4 * i + j) + c * c * E (4 * j + j))
theorem chgK_0 {E : Nat → Int} {i j : Nat} {c : Int} : chgK E i j c 0 = E := by funext q; unfold chgK; rw [if_neg (by omega), if_neg (by omega)]
theorem chgK_skip {E : Nat → Int} {i j : Nat} {c : Int} : ∀ q, chgK E i j c (i + 1) q = chgK E i j c i q := by intro q; unfold chgK; grind
theorem chgK_at {E : Nat → Int} {i j k : Nat} {c : Int} (hk : k < 4) (hj : j ≠ i) (hki : k ≠ i) : chgK E i j c k (4 * i + k) = E (4 * i + k) ∧ chgK E i j c k (4 * j + k) = E (4 * j + k) := by
  have e1 : (4 * i + k) / 4 = i := by omega
  have e2 : (4 * i + k) % 4 = k := by omega
  have e3 : (4 * j + k) / 4 = j := by omega
  have e4 : (4 * j + k) % 4 = k := by omega
  unfold chgK; rw [e1, e2, e3, e4]
  constructor <;> grind
theorem chgK_step {E : Nat → Int} {i j k : Nat} {c : Int} (hi : i < 4) (hk : k < 4) (hki : k ≠ i) : ∀ q, q < 16 → setE (chgK E i j c k) i k (E (4 * i + k) + c * E (4 * j + k)) q = chgK E i j c (k + 1) q := by
  intro q hq
  unfold setE chgK
  by_cases h1 : q = 4 * k + i
  · subst h1
    rw [if_pos rfl, show (4 * k + i) / 4 = k by omega, show (4 * k + i) % 4 = i by omega, if_neg (by omega), if_pos (by omega)]
  · rw [if_neg h1]
    by_cases h2 : q = 4 * i + k
    · subst h2
      rw [if_pos rfl, show (4 * i + k) / 4 = i by omega, show (4 * i + k) % 4 = k by omega, if_pos (by omega)]
    · rw [if_neg h2]
      have e1 : (q / 4 = i ∧ q % 4 ≠ i ∧ q % 4 < k) ↔ (q / 4 = i ∧ q % 4 ≠ i ∧ q % 4 < k + 1) := by omega
      have e2 : (q % 4 = i ∧ q / 4 ≠ i ∧ q / 4 < k) ↔ (q % 4 = i ∧ q / 4 ≠ i ∧ q / 4 < k + 1) := by omega
      simp only [e1, e2]
theorem chgE_rng {E : Nat → Int} {nl i j : Nat} {c : Int} (hE : entS E) (hi : i < 4) (hj : j < 4) (hc : -99 ≤ c ∧ c ≤ 99) : ∀ k, k < 16 → -2147483647 ≤ chgE E nl i j c k ∧ chgE E nl i j c k ≤ 2147483647 := by
  intro k hk
  have b1 := hE (4 * i + i) (by omega)
  have b2 := hE (4 * i + j) (by omega)
  have b3 := hE (4 * j + j) (by omega)
  have b4 := hE (4 * i + k % 4) (by omega)
  have b5 := hE (4 * j + k % 4) (by omega)
  have b6 := hE (4 * i + k / 4) (by omega)
  have b7 := hE (4 * j + k / 4) (by omega)
  have b8 := hE k hk
  have m1 := mul_bd (a := 2 * c) (b := E (4 * i + j)) (A := 198) (B := 99) (by omega) (by omega) b2.1 b2.2
  have m2 := mul_bd (a := c) (b := c) (A := 99) (B := 99) hc.1 hc.2 hc.1 hc.2
  have m3 := mul_bd (a := c * c) (b := E (4 * j + j)) (A := 9801) (B := 99) (by omega) (by omega) b3.1 b3.2
  have m4 := mul_bd (a := c) (b := E (4 * j + k % 4)) (A := 99) (B := 99) hc.1 hc.2 b5.1 b5.2
  have m5 := mul_bd (a := c) (b := E (4 * j + k / 4)) (A := 99) (B := 99) hc.1 hc.2 b7.1 b7.2
  unfold chgE setE chgK
  repeat' split
  all_goals omega
/-- letters i and j change places -/
def swi (i j k : Nat) : Nat := if k = i then j else if k = j then i else k
def swpE (E : Nat → Int) (nl i j : Nat) : Nat → Int := fun q => if q / 4 < nl ∧ q % 4 < nl then E (4 * swi i j (q / 4) + swi i j (q % 4)) else E q
/-- the letters of one form, and those of another behind them -/
def joinE (E F : Nat → Int) (nl nt : Nat) : Nat → Int := fun q => if nl ≤ q / 4 ∧ q / 4 < nl + nt ∧ nl ≤ q % 4 ∧ q % 4 < nl + nt then F (4 * (q / 4 - nl) + (q % 4 - nl)) else E q
section Answers4
variable (J : Nat → Nat → Int)
noncomputable def aChange (s i j c : Int) : Int × (Nat → Nat → Int) :=
  cif ((0 ≤ s ∧ s < 6 ∧ 0 < J 44 s.toNat) ∧ (0 ≤ i ∧ i < J 44 s.toNat) ∧ (0 ≤ j ∧ j < J 44 s.toNat) ∧ ¬ i = j ∧ -9 ≤ c ∧ c ≤ 9) (aComes J s (J 44 s.toNat) (chgE (eE J s) (J 44 s.toNat).toNat i.toNat j.toNat c) (detS (chgE (eE J s) (J 44 s.toNat).toNat i.toNat j.toNat c) (J 44 s.toNat) (-1))) (-1, J)
noncomputable def aSwap (s i j : Int) : Int × (Nat → Nat → Int) :=
  cif ((0 ≤ s ∧ s < 6 ∧ 0 < J 44 s.toNat) ∧ (0 ≤ i ∧ i < J 44 s.toNat) ∧ (0 ≤ j ∧ j < J 44 s.toNat)) (J 44 s.toNat, jput J s.toNat (J 44 s.toNat) (swpE (eE J s) (J 44 s.toNat).toNat i.toNat j.toNat)) (-1, J)
noncomputable def aJoin (s t u : Int) : Int × (Nat → Nat → Int) :=
  cif ((0 ≤ s ∧ s < 6 ∧ 0 < J 44 s.toNat) ∧ (0 ≤ t ∧ t < 6 ∧ 0 < J 44 t.toNat) ∧ (0 ≤ u ∧ u < 6)) (cif (J 44 s.toNat + J 44 t.toNat ≤ 4) (aComes J u (J 44 s.toNat + J 44 t.toNat) (joinE (eE J s) (eE J t) (J 44 s.toNat).toNat (J 44 t.toNat).toNat) (J 44 s.toNat + J 44 t.toNat)) (-4, J)) (-1, J)
end Answers4
theorem detB_small : ∀ (m : Nat) (T : Nat → Nat → Int) (q : Nat) (last B : Int), 0 < last → last ≤ B → (∀ i j, q ≤ i → i < q + m → q ≤ j → j < q + m → T i j = T j i) → (∀ j, q ≤ j → j < q + m → T j j ≤ 99 * last) → detB m T q last ≤ B * 99 ^ m
  | 0, _, _, last, B, h0, h1, _, _ => by unfold detB; simp; exact h1
  | m + 1, T, q, last, B, h0, h1, hs, hd => by
    unfold detB
    have hp : (0 : Int) < 99 ^ (m + 1) := Int.pow_pos (by omega)
    have hB : (0 : Int) ≤ B * 99 ^ (m + 1) := Int.mul_nonneg (by omega) (by omega)
    split
    · exact hB
    · rename_i hq
      have hqq := hd q (by omega) (by omega)
      have := detB_small m (bstep T q last) (q + 1) (T q q) (B * 99) (by omega) (by omega) (fun i j a1 a2 a3 a4 => by
        unfold bstep
        rw [hs i j (by omega) (by omega) (by omega) (by omega), hs i q (by omega) (by omega) (by omega) (by omega), hs q j (by omega) (by omega) (by omega) (by omega), Int.mul_comm (T q i)]) (fun j a1 a2 => by
        unfold bstep
        have hj := hd j (by omega) (by omega)
        have e1 : T j j * T q q - T j q * T q j ≤ 99 * T q q * last := by
          rw [hs q j (by omega) (by omega) (by omega) (by omega)]
          have h2 : 0 ≤ T j q * T j q := by
            rcases Int.le_total 0 (T j q) with h | h
            · exact Int.mul_nonneg h h
            · have := Int.mul_nonneg (a := - T j q) (b := - T j q) (by omega) (by omega); rw [Int.neg_mul_neg] at this; exact this
          have h3 : T j j * T q q ≤ 99 * last * T q q := Int.mul_le_mul_of_nonneg_right hj (by omega)
          have h4 : 99 * last * T q q = 99 * T q q * last := by rw [Int.mul_assoc, Int.mul_comm last, Int.mul_assoc]
          omega
        have e2 : (T j j * T q q - T j q * T q j).tdiv last ≤ (99 * T q q * last).tdiv last := Int.tdiv_le_tdiv h0 e1
        rw [Int.mul_tdiv_cancel _ (by omega)] at e2
        exact e2)
      rw [Int.pow_succ, ← Int.mul_assoc, Int.mul_assoc B, Int.mul_comm (99 ^ m), ← Int.mul_assoc]
      exact this
theorem detS_small {E : Nat → Int} {k : Int} (hE : entS E) (hs : symS E) (hk : 0 ≤ k ∧ k ≤ 4) : 0 ≤ detS E k (-1) ∧ detS E k (-1) ≤ 96059601 := by
  refine ⟨detS_nonneg _ _ _, ?_⟩
  have e0 : skn (-1) k = k.toNat := by unfold skn; rw [if_neg (by omega)]
  have e1 : ∀ i, sk (-1) i = i := fun i => by unfold sk; rw [if_neg (by omega)]
  unfold detS
  rw [e0]
  have h := detB_small k.toNat (fun i j => E (4 * sk (-1) i + sk (-1) j)) 0 1 1 (by omega) (by omega) (fun i j a1 a2 a3 a4 => by simp only [e1]; exact hs i j (by omega) (by omega)) (fun j a1 a2 => by simp only [e1]; have := hE (4 * j + j) (by omega); omega)
  have h5 : (1 : Int) * 99 ^ k.toNat ≤ 96059601 := by
    rcases (show k = 0 ∨ k = 1 ∨ k = 2 ∨ k = 3 ∨ k = 4 by omega) with rfl | rfl | rfl | rfl | rfl <;> decide
  omega
theorem ifc {α : Type} {c d : Prop} [Decidable c] [Decidable d] {a b : α} (h : c ↔ d) : (if c then a else b) = (if d then a else b) := by
  by_cases hc : c
  · rw [if_pos hc, if_pos (h.mp hc)]
  · rw [if_neg hc, if_neg (fun z => hc (h.mpr z))]
