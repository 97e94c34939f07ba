/-! ELIMINATION from the last letter down -/
section Elim
variable {U : Nat → Nat → Int} {nl tp : Int} {E : Nat → Int}
def SW (U : Nat → Nat → Int) (k i j : Nat) : Int := if k = 4 then U (3 - i) (3 - j) else if k = 3 then t2 (U 0 0) (U 0 (3 - i)) (U 0 (3 - j)) (U (3 - i) (3 - j)) else if k = 2 then t3 (U 0 0) (U 0 1) (U 0 (3 - j)) (U 0 1) (U 1 1) (U 1 (3 - j)) (U 0 (3 - i)) (U 1 (3 - i)) (U (3 - i) (3 - j)) else P4 U
theorem SW_row {k j : Nat} (hk : k < 4) (hj : j ≤ k) : SW U (k + 1) k j = sW U k j := by
  rcases (show k = 0 ∧ j = 0 ∨ k = 1 ∧ j = 0 ∨ k = 1 ∧ j = 1 ∨ k = 2 ∧ j = 0 ∨ k = 2 ∧ j = 1 ∨ k = 2 ∧ j = 2 ∨ k = 3 ∧ j = 0 ∨ k = 3 ∧ j = 1 ∨ k = 3 ∧ j = 2 ∨ k = 3 ∧ j = 3 by omega) with ⟨rfl, rfl⟩ | ⟨rfl, rfl⟩ | ⟨rfl, rfl⟩ | ⟨rfl, rfl⟩ | ⟨rfl, rfl⟩ | ⟨rfl, rfl⟩ | ⟨rfl, rfl⟩ | ⟨rfl, rfl⟩ | ⟨rfl, rfl⟩ | ⟨rfl, rfl⟩ <;> rfl
theorem SW_step {k i j : Nat} (hk : k < 4) (hi : i < k) (hj : j ≤ i) : SW U (k + 1) k k * SW U (k + 1) i j - SW U (k + 1) k i * SW U (k + 1) k j = dW U (k + 1) * SW U k i j := by
  rcases (show k = 1 ∨ k = 2 ∨ k = 3 by omega) with rfl | rfl | rfl
  · have e1 : i = 0 := by omega
    have e2 : j = 0 := by omega
    subst e1; subst e2
    exact ex_4 (U 0 0) (U 0 1) (U 0 2) (U 0 3) (U 1 1) (U 1 2) (U 1 3) (U 2 2) (U 2 3) (U 3 3)
  · show t2 (U 0 0) (U 0 1) (U 0 1) (U 1 1) * t2 (U 0 0) (U 0 (3 - i)) (U 0 (3 - j)) (U (3 - i) (3 - j)) - t2 (U 0 0) (U 0 1) (U 0 (3 - i)) (U 1 (3 - i)) * t2 (U 0 0) (U 0 1) (U 0 (3 - j)) (U 1 (3 - j)) = U 0 0 * t3 (U 0 0) (U 0 1) (U 0 (3 - j)) (U 0 1) (U 1 1) (U 1 (3 - j)) (U 0 (3 - i)) (U 1 (3 - i)) (U (3 - i) (3 - j))
    generalize U 0 (3 - i) = c; generalize U 0 (3 - j) = d; generalize U 1 (3 - i) = f; generalize U 1 (3 - j) = g; generalize U (3 - i) (3 - j) = h; generalize U 0 0 = a; generalize U 0 1 = b; generalize U 1 1 = e
    unfold t2 t3; grind
  · show U 0 0 * U (3 - i) (3 - j) - U 0 (3 - i) * U 0 (3 - j) = 1 * t2 (U 0 0) (U 0 (3 - i)) (U 0 (3 - j)) (U (3 - i) (3 - j))
    unfold t2; omega
theorem SW_bd (h1 : 1 ≤ nl) (h : okF nl E) {k i j : Nat} (hk : 1 ≤ k ∧ k ≤ 4) (hi : i < 4) (hj : j < 4) : -100000000 ≤ SW (UW nl E) k i j ∧ SW (UW nl E) k i j ≤ 100000000 := by
  have u : ∀ i j, i < 4 → j < 4 → -99 ≤ UW nl E i j ∧ UW nl E i j ≤ 99 := fun i j hi hj => UW_ent h1 h hi hj
  rcases (show k = 1 ∨ k = 2 ∨ k = 3 ∨ k = 4 by omega) with rfl | rfl | rfl | rfl
  · have d := dW_bd h1 h (k := 0) (by omega)
    have e : SW (UW nl E) 1 i j = dW (UW nl E) 0 := rfl
    rw [e]; omega
  · have := t3_bd (u 0 0 (by omega) (by omega)) (u 0 1 (by omega) (by omega)) (u 0 (3 - j) (by omega) (by omega)) (u 0 1 (by omega) (by omega)) (u 1 1 (by omega) (by omega)) (u 1 (3 - j) (by omega) (by omega)) (u 0 (3 - i) (by omega) (by omega)) (u 1 (3 - i) (by omega) (by omega)) (u (3 - i) (3 - j) (by omega) (by omega))
    show -100000000 ≤ t3 _ _ _ _ _ _ _ _ _ ∧ t3 _ _ _ _ _ _ _ _ _ ≤ 100000000
    omega
  · have := t2_bd (u 0 0 (by omega) (by omega)) (u 0 (3 - i) (by omega) (by omega)) (u 0 (3 - j) (by omega) (by omega)) (u (3 - i) (3 - j) (by omega) (by omega))
    show -100000000 ≤ t2 _ _ _ _ ∧ t2 _ _ _ _ ≤ 100000000
    omega
  · have := u (3 - i) (3 - j) (by omega) (by omega)
    show -100000000 ≤ UW nl E (3 - i) (3 - j) ∧ UW nl E (3 - i) (3 - j) ≤ 100000000
    omega
theorem od0_sub {i : Nat} (hi : i < 4) : od0 (3 - i) = i := by
  rcases (show i = 0 ∨ i = 1 ∨ i = 2 ∨ i = 3 by omega) with rfl | rfl | rfl | rfl <;> rfl
theorem UW_sub {i j : Nat} (hi : i < 4) (hj : j < 4) : UW nl E (3 - i) (3 - j) = padT nl E i j := by
  show padT nl E (od0 (3 - i)) (od0 (3 - j)) = _
  rw [od0_sub hi, od0_sub hj]
/-- beyond the letters all is 1 or 0 -/
theorem UW_pad (h : okF nl E) {i j : Nat} (hi : i < 4) (hj : j < 4) (hh : nl ≤ (i : Int) ∨ nl ≤ (j : Int)) : UW nl E (3 - i) (3 - j) = if i = j then 1 else 0 := by
  rw [UW_sub hi hj]; unfold padT
  by_cases e : i = j
  · rw [if_pos ⟨e, by omega⟩, if_pos e]
  · rw [if_neg (fun z => e z.1), if_neg e]; exact h.2.2.2 i j hi hj hh
theorem SW_start (h1 : 1 ≤ nl) (h : okF nl E) {i j : Nat} (hi : (i : Int) < nl) (hj : (j : Int) < nl) : SW (UW nl E) nl.toNat i j = E (4 * i + j) := by
  have h4 := h.1
  have p : ∀ i j : Nat, i < 4 → j < 4 → (nl ≤ (i : Int) ∨ nl ≤ (j : Int)) → UW nl E (3 - i) (3 - j) = if i = j then 1 else 0 := fun i j hi hj hh => UW_pad h hi hj hh
  have ij : UW nl E (3 - i) (3 - j) = E (4 * i + j) := by rw [UW_sub (by omega) (by omega)]; exact padT_in hi
  rcases (show nl = 1 ∨ nl = 2 ∨ nl = 3 ∨ nl = 4 by omega) with e | e | e | e
  · have e1 : i = 0 := by omega
    have e2 : j = 0 := by omega
    subst e1; subst e2; subst e
    have d := (okF_PD h1 h).2
    show P4 (UW 1 E) = E 0
    rw [show P4 (UW 1 E) = P4 (padT 1 E) from od0_P4 (symT_pad h.2.2.1), d]
    have dp := h.2.1.2.1
    unfold detS at dp ⊢
    rw [show skn (-1) 1 = 1 from rfl, detB_1] at dp ⊢
    have e0 : E (4 * sk (-1) 0 + sk (-1) 0) = E 0 := rfl
    rw [e0] at dp ⊢
    split at dp
    · omega
    · rename_i hh; rw [if_neg hh]
  · subst e
    show t3 (UW 2 E 0 0) (UW 2 E 0 1) (UW 2 E 0 (3 - j)) (UW 2 E 0 1) (UW 2 E 1 1) (UW 2 E 1 (3 - j)) (UW 2 E 0 (3 - i)) (UW 2 E 1 (3 - i)) (UW 2 E (3 - i) (3 - j)) = _
    have a1 : UW 2 E 0 0 = 1 := p 3 3 (by omega) (by omega) (by omega)
    have a2 : UW 2 E 0 1 = 0 := p 3 2 (by omega) (by omega) (by omega)
    have a3 : UW 2 E 1 1 = 1 := p 2 2 (by omega) (by omega) (by omega)
    have a4 : UW 2 E 0 (3 - j) = 0 := by have := p 3 j (by omega) (by omega) (by omega); rw [if_neg (by omega)] at this; exact this
    have a5 : UW 2 E 1 (3 - j) = 0 := by have := p 2 j (by omega) (by omega) (by omega); rw [if_neg (by omega)] at this; exact this
    have a6 : UW 2 E 0 (3 - i) = 0 := by have := p 3 i (by omega) (by omega) (by omega); rw [if_neg (by omega)] at this; exact this
    have a7 : UW 2 E 1 (3 - i) = 0 := by have := p 2 i (by omega) (by omega) (by omega); rw [if_neg (by omega)] at this; exact this
    rw [a1, a2, a3, a4, a5, a6, a7, ij]; unfold t3; omega
  · subst e
    show t2 (UW 3 E 0 0) (UW 3 E 0 (3 - i)) (UW 3 E 0 (3 - j)) (UW 3 E (3 - i) (3 - j)) = _
    have a1 : UW 3 E 0 0 = 1 := p 3 3 (by omega) (by omega) (by omega)
    have a4 : UW 3 E 0 (3 - j) = 0 := by have := p 3 j (by omega) (by omega) (by omega); rw [if_neg (by omega)] at this; exact this
    have a6 : UW 3 E 0 (3 - i) = 0 := by have := p 3 i (by omega) (by omega) (by omega); rw [if_neg (by omega)] at this; exact this
    rw [a1, a4, a6, ij]; unfold t2; omega
  · subst e; exact ij
theorem dW_pad (h1 : 1 ≤ nl) (h : okF nl E) {k : Nat} (hk : nl ≤ (k : Int)) (hk4 : k ≤ 4) : dW (UW nl E) k = 1 := by
  have p : ∀ i j : Nat, i < 4 → j < 4 → (nl ≤ (i : Int) ∨ nl ≤ (j : Int)) → UW nl E (3 - i) (3 - j) = if i = j then 1 else 0 := fun i j hi hj hh => UW_pad h hi hj hh
  rcases (show k = 1 ∨ k = 2 ∨ k = 3 ∨ k = 4 by omega) with rfl | rfl | rfl | rfl
  · have a1 : UW nl E 0 0 = 1 := p 3 3 (by omega) (by omega) (by omega)
    have a2 : UW nl E 0 1 = 0 := p 3 2 (by omega) (by omega) (by omega)
    have a3 : UW nl E 0 2 = 0 := p 3 1 (by omega) (by omega) (by omega)
    have a4 : UW nl E 1 1 = 1 := p 2 2 (by omega) (by omega) (by omega)
    have a5 : UW nl E 1 2 = 0 := p 2 1 (by omega) (by omega) (by omega)
    have a6 : UW nl E 2 2 = 1 := p 1 1 (by omega) (by omega) (by omega)
    show P3 (UW nl E) = 1
    unfold P3; rw [a1, a2, a3, a4, a5, a6]; rfl
  · have a1 : UW nl E 0 0 = 1 := p 3 3 (by omega) (by omega) (by omega)
    have a2 : UW nl E 0 1 = 0 := p 3 2 (by omega) (by omega) (by omega)
    have a4 : UW nl E 1 1 = 1 := p 2 2 (by omega) (by omega) (by omega)
    show P2 (UW nl E) = 1
    unfold P2; rw [a1, a2, a4]; rfl
  · exact p 3 3 (by omega) (by omega) (by omega)
  · rfl
theorem sW_pad (h : okF nl E) {k j : Nat} (hk : nl ≤ (k : Int)) (hk4 : k < 4) (hj : j < k) : sW (UW nl E) k j = 0 := by
  have p : ∀ i j : Nat, i < 4 → j < 4 → (nl ≤ (i : Int) ∨ nl ≤ (j : Int)) → UW nl E (3 - i) (3 - j) = if i = j then 1 else 0 := fun i j hi hj hh => UW_pad h hi hj hh
  rcases (show k = 1 ∧ j = 0 ∨ k = 2 ∧ j = 0 ∨ k = 2 ∧ j = 1 ∨ k = 3 ∧ j = 0 ∨ k = 3 ∧ j = 1 ∨ k = 3 ∧ j = 2 by omega) with ⟨rfl, rfl⟩ | ⟨rfl, rfl⟩ | ⟨rfl, rfl⟩ | ⟨rfl, rfl⟩ | ⟨rfl, rfl⟩ | ⟨rfl, rfl⟩
  · have a1 : UW nl E 0 0 = 1 := p 3 3 (by omega) (by omega) (by omega)
    have a2 : UW nl E 0 1 = 0 := p 3 2 (by omega) (by omega) (by omega)
    have a3 : UW nl E 0 2 = 0 := p 3 1 (by omega) (by omega) (by omega)
    have a4 : UW nl E 1 1 = 1 := p 2 2 (by omega) (by omega) (by omega)
    have a5 : UW nl E 1 2 = 0 := p 2 1 (by omega) (by omega) (by omega)
    have a6 : UW nl E 0 3 = 0 := p 3 0 (by omega) (by omega) (by omega)
    have a7 : UW nl E 1 3 = 0 := p 2 0 (by omega) (by omega) (by omega)
    have a8 : UW nl E 2 3 = 0 := p 1 0 (by omega) (by omega) (by omega)
    show U23 (UW nl E) = 0
    unfold U23; rw [a1, a2, a3, a4, a5, a6, a7, a8]; rfl
  · have a2 : UW nl E 0 1 = 0 := p 3 2 (by omega) (by omega) (by omega)
    have a7 : UW nl E 1 3 = 0 := p 2 0 (by omega) (by omega) (by omega)
    show t2 (UW nl E 0 0) (UW nl E 0 1) (UW nl E 0 3) (UW nl E 1 3) = 0
    rw [a2, a7]; unfold t2; omega
  · have a2 : UW nl E 0 1 = 0 := p 3 2 (by omega) (by omega) (by omega)
    have a7 : UW nl E 1 2 = 0 := p 2 1 (by omega) (by omega) (by omega)
    show t2 (UW nl E 0 0) (UW nl E 0 1) (UW nl E 0 2) (UW nl E 1 2) = 0
    rw [a2, a7]; unfold t2; omega
  · exact p 3 0 (by omega) (by omega) (by omega)
  · exact p 3 1 (by omega) (by omega) (by omega)
  · exact p 3 2 (by omega) (by omega) (by omega)
/-- what is left at the end is the top less the worth -/
theorem lW_end (h1 : 1 ≤ nl) (h : okF nl E) (x : Nat → Int) : lW (UW nl E) tp nl.toNat x = tp - wv E (tupN nl.toNat x) := by
  have h4 := h.1
  have hs := symT_pad (nl := nl) h.2.2.1
  generalize hy : (fun j => if (j : Int) < nl then x j else 0 : Nat → Int) = y
  have e0 : lW (UW nl E) tp nl.toNat x = lW (UW nl E) tp nl.toNat y := lW_cg (by omega) (fun j hj => by rw [← hy]; dsimp only; rw [if_pos (by omega)])
  have up : ∀ d : Nat, nl.toNat + d ≤ 4 → lW (UW nl E) tp (nl.toNat + d) y = lW (UW nl E) tp nl.toNat y := by
    intro d
    induction d with
    | zero => intro _; rfl
    | succ d ih =>
      intro hd
      have st := lW_step (U := UW nl E) (tp := tp) (k := nl.toNat + d) (by omega) y
      have z1 := dW_pad h1 h (k := nl.toNat + d) (by omega) (by omega)
      have z2 := dW_pad h1 h (k := nl.toNat + d + 1) (by omega) (by omega)
      have z3 : y (nl.toNat + d) = 0 := by rw [← hy]; dsimp only; rw [if_neg (by omega)]
      have z4 : ∀ j : Nat, j ≤ nl.toNat + d → smS (sW (UW nl E)) y (nl.toNat + d) j = 0 := by
        intro j
        induction j with
        | zero => intro _; rfl
        | succ j ihj => intro hj; unfold smS; rw [ihj (by omega), sW_pad h (by omega) (by omega) (by omega)]; omega
      rw [z1, z2, z3, z4 _ (Nat.le_refl _)] at st
      rw [← Nat.add_assoc, ← ih (by omega)]; omega
  have u4 := up (4 - nl.toNat) (by omega)
  rw [show nl.toNat + (4 - nl.toNat) = 4 by omega] at u4
  rw [e0, ← u4]
  show tp - QT (UW nl E) (y 3, y 2, y 1, y 0) = _
  rw [show QT (UW nl E) (y 3, y 2, y 1, y 0) = QT (padT nl E) (y 0, y 1, y 2, y 3) from od0_Q hs _ _ _ _, wv_cut h1 h]
  congr 2
  unfold cutV tupN
  have g : ∀ i : Nat, y i = if (i : Int) < nl then x i else 0 := fun i => by rw [← hy]
  rw [g, g, g, g]
  dsimp only
  rcases (show nl = 1 ∨ nl = 2 ∨ nl = 3 ∨ nl = 4 by omega) with e | e | e | e <;> subst e <;> rfl
/-- a start at the first letter -/
theorem EI_first {e : EP} {J P : Nat → Nat → Int} (h : e.ok) {x : Nat → Int} (hx0 : x = J 35) (hJ : J 30 0 = (e.n : Int) ∧ J 30 3 = e.hf ∧ J 30 4 = e.st) (hS : ∀ i j, i < e.n → j ≤ i → P 31 (4 * i + j) = e.sl i j) (hO : ∀ i, i < e.n → P 32 i = e.ou i) (hl : e.st ≤ e.lf 0 x) (hp : P 33 0 = e.lf 0 x) :
    EI e (zup (zup (zup J 30 1 0) 35 0 (e.hi 0 x + 1)) 36 0 (e.lo 0 x)) (zup P 34 0 (e.sm 0 x)) 0 := by
  subst hx0
  have hn := h.1
  have bd := lv_bd (x := J 35) h (k := 0) (by omega) hl
  have r35 : zup (zup (zup J 30 1 0) 35 0 (e.hi 0 (J 35) + 1)) 36 0 (e.lo 0 (J 35)) 35 = upx (J 35) 0 (e.hi 0 (J 35) + 1) := by rw [zup_ne (by decide), zup_row, zup_ne (by decide)]
  have r36 : zup (zup (zup J 30 1 0) 35 0 (e.hi 0 (J 35) + 1)) 36 0 (e.lo 0 (J 35)) 36 = upx (J 36) 0 (e.lo 0 (J 35)) := by rw [zup_row, zup_ne (by decide), zup_ne (by decide)]
  refine ⟨⟨?_, ?_, ?_, ?_⟩, fun i j hi hj => by rw [zzr (by decide)]; exact hS i j hi hj, fun i hi => by rw [zzr (by decide)]; exact hO i hi, by omega, fun j hj => ?_⟩
  · rw [zzr (by decide), zzr (by decide), zzi (by decide)]; exact hJ.1
  · rw [zzr (by decide), zzr (by decide), zz]
  · rw [zzr (by decide), zzr (by decide), zzi (by decide)]; exact hJ.2.1
  · rw [zzr (by decide), zzr (by decide), zzi (by decide)]; exact hJ.2.2
  · have e2 : j = 0 := by omega
    subst e2
    have l := EI_lv h (x := upx (J 35) 0 (e.hi 0 (J 35) + 1)) (y := J 35) (j := 0) (by omega) (fun i hi => absurd hi (by omega))
    rw [r35, r36, l.1, l.2.1, l.2.2.1, l.2.2.2, zzr (by decide), upx_eq, upx_eq, zz]
    exact ⟨hp, hl, rfl, rfl, by omega, by omega⟩
end Elim
