/-! RULES over counts -/
theorem ruleN_bd (r : Int) : 7 ≤ ruleN r ∧ ruleN r ≤ 17 := by unfold ruleN; split <;> (try split) <;> omega
theorem ruleA_bd {r i : Int} (hr : 0 ≤ r ∧ r < 3) (hi : 0 ≤ i ∧ i < ruleN r) : 1 ≤ ruleA r i ∧ ruleA r i ≤ 73 := by
  have h : ∀ q : Fin 33, 1 ≤ ruleT.getD q.val 0 ∧ ruleT.getD q.val 0 ≤ 73 := by decide
  unfold ruleA
  have hb : (ruleO r + i).toNat < 33 := by
    unfold ruleN at hi; unfold ruleO
    repeat' split at hi
    all_goals repeat' split
    all_goals omega
  exact h ⟨_, hb⟩
def lackN (f : Nat → Int) (r : Int) : Nat → Int
  | 0 => 0
  | k + 1 => if f (ruleA r k).toNat = 0 then lackN f r k + 1 else lackN f r k
theorem lackN_bd (f : Nat → Int) (r : Int) : ∀ k : Nat, 0 ≤ lackN f r k ∧ lackN f r k ≤ k
  | 0 => by simp [lackN]
  | k + 1 => by have := lackN_bd f r k; unfold lackN; split <;> omega
/-- the i-th of a rule's numbers that isn't taken, k of them still ahead, c behind -/
def lckD (f : Nat → Int) (r i : Int) : Nat → Int → Int
  | 0, _ => -2
  | k + 1, c => if f (ruleA r (ruleN r - (k + 1 : Nat))).toNat = 0 then (if c = i then ruleA r (ruleN r - (k + 1 : Nat)) else lckD f r i k (c + 1)) else lckD f r i k c
/-- the greatest of the first rule's numbers that isn't taken -/
def glD (f : Nat → Int) : Nat → Int
  | 0 => 0
  | k + 1 => if f (ruleA 0 k).toNat = 0 then ruleA 0 k else glD f k
theorem glD_bd (f : Nat → Int) : ∀ k : Nat, k ≤ 9 → 0 ≤ glD f k ∧ glD f k ≤ 73
  | 0, _ => by simp [glD]
  | k + 1, h => by
    have := glD_bd f k (by omega)
    have h2 := ruleA_bd (r := 0) (i := k) (by omega) (by have : ruleN 0 = 9 := rfl; omega)
    unfold glD; split <;> omega
def jrow (J : Nat → Nat → Int) (cv : Nat → Int) (b k : Nat) : Nat → Nat → Int := fun a q => if a = 65 ∧ b ≤ q ∧ q < b + k then cv (q - b) else J a q
theorem jrow_step {J : Nat → Nat → Int} {cv : Nat → Int} {b k : Nat} : zup (jrow J cv b k) 65 (b + k) (cv k) = jrow J cv b (k + 1) := by
  funext a q
  by_cases ha : a = 65
  · subst ha
    by_cases hq : q = b + k
    · subst hq; rw [zz]; unfold jrow; rw [if_pos ⟨rfl, by omega, by omega⟩, Nat.add_sub_cancel_left]
    · rw [zzi hq]; unfold jrow; exact ifc (by omega)
  · rw [zzr ha]; unfold jrow; exact ifc (by omega)
theorem jrow_0 {J : Nat → Nat → Int} {cv : Nat → Int} {b : Nat} : jrow J cv b 0 = J := by funext a q; unfold jrow; rw [if_neg (by omega)]
theorem jrow_off {J : Nat → Nat → Int} {cv : Nat → Int} {b k a : Nat} (h : a ≠ 65) : jrow J cv b k a = J a := by funext q; unfold jrow; rw [if_neg (fun z => h z.1)]
theorem pq_jrow {J J' : Nat → Nat → Int} {cv : Nat → Int} {b k : Nat} (h : pq J J') : pq (jrow J cv b k) (jrow J' cv b k) := by
  refine ⟨fun q hq => ?_, fun q hq => ?_, fun a ha => ?_, ?_, ?_, ?_⟩
  · rw [jrow_off (by decide), jrow_off (by decide)]; exact h.1 q hq
  · rw [jrow_off (by decide), jrow_off (by decide)]; exact h.2.1 q hq
  · by_cases e : a = 65
    · subst e; funext q; unfold jrow; split; rfl; rw [h.2.2.1 65 (by decide)]
    · rw [jrow_off e, jrow_off e]; exact h.2.2.1 a ha
  · rw [jrow_off (by decide), jrow_off (by decide)]; exact h.2.2.2.1
  · rw [jrow_off (by decide), jrow_off (by decide)]; exact h.2.2.2.2.1
  · rw [jrow_off (by decide), jrow_off (by decide)]; exact h.2.2.2.2.2
/-- what a certificate has at d -/
def certV (r so : Int) (F : Nat → V4) (w : Nat) (d : Nat) : Int := lowS so (if d % w = 0 then ruleA r ((d / w : Nat) : Int) else vAt (F (ruleA r ((d / w : Nat) : Int)).toNat) ((d % w - 1 : Nat) : Int))
def certK (rn fr wd sz : Int) : Int := min rn ((sz - fr) / wd)
theorem certK_iff {rn fr wd sz c : Int} (hw : 0 < wd) : (c < rn ∧ fr + (c + 1) * wd ≤ sz) ↔ c < certK rn fr wd sz := by
  have h : c + 1 ≤ (sz - fr) / wd ↔ (c + 1) * wd ≤ sz - fr := Int.le_ediv_iff_mul_le hw
  unfold certK
  constructor
  · intro ⟨a, b⟩
    have := h.mpr (by omega)
    omega
  · intro a
    have := h.mp (by omega)
    exact ⟨by omega, by omega⟩
theorem certK_nn {rn fr wd sz : Int} (hw : 0 < wd) (h1 : 0 ≤ rn) (h2 : fr ≤ sz) : 0 ≤ certK rn fr wd sz := by
  have : 0 ≤ (sz - fr) / wd := Int.ediv_nonneg (by omega) (by omega)
  unfold certK; omega
theorem cert_div {c w : Nat} (j : Nat) (h : j < w) : (c * w + j) / w = c ∧ (c * w + j) % w = j := by
  have hw : 0 < w := by omega
  rw [Nat.mul_comm]
  exact ⟨by rw [Nat.mul_add_div hw, Nat.div_eq_of_lt h]; rfl, by rw [Nat.mul_add_mod, Nat.mod_eq_of_lt h]⟩
section Answers4
variable (J : Nat → Nat → Int)
noncomputable def aClaim (s r : Int) : Int := cif ((0 ≤ s ∧ s < 6 ∧ 0 < J 44 s.toNat) ∧ 0 ≤ r ∧ r < 3) (if lackN (cF (J 44 s.toNat) (eE J s)) r (ruleN r).toNat = 0 then 1 else 0) (-1)
noncomputable def aLacks (s r i : Int) : Int := cif ((0 ≤ s ∧ s < 6 ∧ 0 < J 44 s.toNat) ∧ 0 ≤ r ∧ r < 3) (lckD (cF (J 44 s.toNat) (eE J s)) r i (ruleN r).toNat 0) (-1)
noncomputable def aCertify (s r sh fr : Int) : Int × (Nat → Nat → Int) :=
  cif ((0 ≤ s ∧ s < 6 ∧ 0 < J 44 s.toNat) ∧ (0 ≤ r ∧ r < 3) ∧ 0 ≤ sh ∧ sh < 4)
    (cif (0 < lackN (cF (J 44 s.toNat) (eE J s)) r (ruleN r).toNat) (-3, J) (cif (J 63 sh.toNat < 0) (-11, J) (cif (0 ≤ fr ∧ fr ≤ J 64 sh.toNat)
      (certK (ruleN r) fr (J 44 s.toNat + 1) (J 64 sh.toNat), jrow J (certV r (J 63 sh.toNat) (fF (J 44 s.toNat) (eE J s)) (J 44 s.toNat + 1).toNat) (40 * sh + fr).toNat (certK (ruleN r) fr (J 44 s.toNat + 1) (J 64 sh.toNat) * (J 44 s.toNat + 1)).toNat) (-12, J)))) (-1, J)
end Answers4
