/-! FORMS OUT OF SHEETS AND BACK -/
def tr (i : Int) : Int := if i ≤ 0 then 0 else if i = 1 then 1 else if i = 2 then 3 else if i = 3 then 6 else 10
theorem tr_succ {i : Int} (h : 0 ≤ i ∧ i ≤ 3) : tr (i + 1) = tr i + i + 1 := by
  rcases (show i = 0 ∨ i = 1 ∨ i = 2 ∨ i = 3 by omega) with rfl | rfl | rfl | rfl <;> decide
theorem tr_bd {i : Int} : 0 ≤ tr i ∧ tr i ≤ 10 := by unfold tr; repeat' split
                                                     all_goals omega
theorem tr_div {k : Int} (h : 1 ≤ k ∧ k ≤ 4) : (k * (k + 1)).tdiv 2 = tr k ∧ rI (k * (k + 1)) := by
  rcases (show k = 1 ∨ k = 2 ∨ k = 3 ∨ k = 4 by omega) with rfl | rfl | rfl | rfl <;> decide
theorem tr_mono {i k : Int} (h : i ≤ k) : tr i ≤ tr k := by unfold tr; repeat' split
                                                            all_goals omega
theorem tr_le {i k : Int} (h : 0 ≤ i ∧ i < k ∧ k ≤ 4) : tr i + i + 1 ≤ tr k := by
  rw [← tr_succ (by omega)]; exact tr_mono (by omega)
/-- entries by i, then by j, j being i at most -/
def formE (N : Nat → Int) (nl : Nat) : Nat → Int := fun q => if q / 4 < nl ∧ q % 4 < nl then (if q % 4 ≤ q / 4 then N ((tr (q / 4 : Nat)).toNat + q % 4) else N ((tr (q % 4 : Nat)).toNat + q / 4)) else 0
def formK (N : Nat → Int) (i j : Int) : Nat → Int := fun q => if ((q / 4 : Nat) : Int) < i ∧ ((q % 4 : Nat) : Int) < i ∨ ((q / 4 : Nat) : Int) = i ∧ ((q % 4 : Nat) : Int) < j ∨ ((q % 4 : Nat) : Int) = i ∧ ((q / 4 : Nat) : Int) < j then (if q % 4 ≤ q / 4 then N ((tr (q / 4 : Nat)).toNat + q % 4) else N ((tr (q % 4 : Nat)).toNat + q / 4)) else 0
theorem formK_row {N : Nat → Int} {i : Int} : formK N i (i + 1) = formK N (i + 1) 0 := by
  funext q; unfold formK; exact ifc (by omega)
theorem formK_step {N : Nat → Int} {i j : Int} (h : 0 ≤ j ∧ j ≤ i ∧ i < 4) : ∀ q, q < 16 → setE (formK N i j) i.toNat j.toNat (N (tr i + j).toNat) q = formK N i (j + 1) q := by
  intro q hq
  have ht := tr_bd (i := i)
  unfold setE formK
  by_cases h1 : q = 4 * j.toNat + i.toNat
  · rw [if_pos h1, if_pos (by omega)]
    by_cases h3 : q % 4 ≤ q / 4
    · rw [if_pos h3, show q / 4 = j.toNat by omega, show q % 4 = i.toNat by omega, show j.toNat = i.toNat by omega, Int.toNat_of_nonneg (by omega)]; congr 1; omega
    · rw [if_neg h3, show q / 4 = j.toNat by omega, show q % 4 = i.toNat by omega, Int.toNat_of_nonneg (by omega)]; congr 1; omega
  · rw [if_neg h1]
    by_cases h2 : q = 4 * i.toNat + j.toNat
    · rw [if_pos h2, if_pos (by omega), if_pos (by omega), show q / 4 = i.toNat by omega, show q % 4 = j.toNat by omega, Int.toNat_of_nonneg (by omega)]; congr 1; omega
    · rw [if_neg h2]; exact ifc (by omega)
theorem formK_end {N : Nat → Int} {i : Int} (h : 0 ≤ i) : ∀ q, q < 16 → formK N i 0 q = formE N i.toNat q := by
  intro q _; unfold formK formE; exact ifc (by omega)
theorem formE_sym {N : Nat → Int} {nl : Nat} : symS (formE N nl) := by
  intro i j hi hj
  unfold formE
  rw [show (4 * i + j) / 4 = i by omega, show (4 * i + j) % 4 = j by omega, show (4 * j + i) / 4 = j by omega, show (4 * j + i) % 4 = i by omega]
  by_cases h : i < nl ∧ j < nl
  · rw [if_pos h, if_pos (show j < nl ∧ i < nl from ⟨h.2, h.1⟩)]
    by_cases h1 : j ≤ i
    · rw [if_pos h1]
      by_cases h2 : i ≤ j
      · have : i = j := by omega
        subst this; rw [if_pos h2]
      · rw [if_neg h2]
    · rw [if_neg h1, if_pos (show i ≤ j by omega)]
  · rw [if_neg h, if_neg (fun z => h ⟨z.2, z.1⟩)]
theorem formE_ent {N : Nat → Int} {k : Int} (hk : 1 ≤ k ∧ k ≤ 4) (h : ∀ x : Nat, (x : Int) < tr k → -99 ≤ N x ∧ N x ≤ 99) : entS (formE N k.toNat) := by
  intro q hq
  unfold formE
  split
  · rename_i hc
    split
    · have := tr_le (i := (q / 4 : Nat)) (k := k) (by omega)
      have h0 := tr_bd (i := (q / 4 : Nat))
      exact h _ (by omega)
    · have := tr_le (i := (q % 4 : Nat)) (k := k) (by omega)
      have h0 := tr_bd (i := (q % 4 : Nat))
      exact h _ (by omega)
  · omega
def triI (x : Nat) : Nat := if x = 0 then 0 else if x < 3 then 3 + x else if x < 6 then 5 + x else 6 + x
theorem triI_at {i j : Int} (h : 0 ≤ j ∧ j ≤ i ∧ i < 4) : triI (tr i + j).toNat = 4 * i.toNat + j.toNat := by
  rcases (show i = 0 ∨ i = 1 ∨ i = 2 ∨ i = 3 by omega) with rfl | rfl | rfl | rfl
  · rw [show j = 0 by omega]; decide
  · rcases (show j = 0 ∨ j = 1 by omega) with rfl | rfl <;> decide
  · rcases (show j = 0 ∨ j = 1 ∨ j = 2 by omega) with rfl | rfl | rfl <;> decide
  · rcases (show j = 0 ∨ j = 1 ∨ j = 2 ∨ j = 3 by omega) with rfl | rfl | rfl | rfl <;> decide
def jspread (J : Nat → Nat → Int) (E : Nat → Int) (b k : Nat) : Nat → Nat → Int := fun a q => if a = 65 ∧ b ≤ q ∧ q < b + k then E (triI (q - b)) else J a q
theorem jspread_step {J : Nat → Nat → Int} {E : Nat → Int} {b k : Nat} : zup (jspread J E b k) 65 (b + k) (E (triI k)) = jspread J E b (k + 1) := by
  funext a q
  by_cases ha : a = 65
  · subst ha
    by_cases hq : q = b + k
    · subst hq; rw [zz]; unfold jspread; rw [if_pos ⟨rfl, by omega, by omega⟩, Nat.add_sub_cancel_left]
    · rw [zzi hq]; unfold jspread; exact ifc (by omega)
  · rw [zzr ha]; unfold jspread; exact ifc (by omega)
theorem jspread_0 {J : Nat → Nat → Int} {E : Nat → Int} {b : Nat} : jspread J E b 0 = J := by funext a q; unfold jspread; rw [if_neg (by omega)]
section Answers5
variable (J : Nat → Nat → Int)
noncomputable def aForm (s sh f k : Int) : Int × (Nat → Nat → Int) :=
  cif ((0 ≤ s ∧ s < 6) ∧ (0 ≤ sh ∧ sh < 4) ∧ (1 ≤ k ∧ k ≤ 4)) (cif (J 63 sh.toNat < 0) (-11, J) (cif (0 ≤ f ∧ f ≤ J 64 sh.toNat - tr k) (cif (∀ x : Nat, (x : Int) < tr k → -99 ≤ J 65 ((40 * sh + f).toNat + x) ∧ J 65 ((40 * sh + f).toNat + x) ≤ 99) (aComes J s k (formE (fun x => J 65 ((40 * sh + f).toNat + x)) k.toNat) k) (-1, J)) (-12, J))) (-1, J)
noncomputable def aSpread (s sh f : Int) : Int × (Nat → Nat → Int) :=
  cif ((0 ≤ s ∧ s < 6 ∧ 0 < J 44 s.toNat) ∧ (0 ≤ sh ∧ sh < 4)) (cif (J 63 sh.toNat < 0) (-11, J) (cif (0 ≤ f ∧ f ≤ J 64 sh.toNat - tr (J 44 s.toNat)) (tr (J 44 s.toNat), jspread J (eE J s) (40 * sh + f).toNat (tr (J 44 s.toNat)).toNat) (-12, J))) (-1, J)
end Answers5
