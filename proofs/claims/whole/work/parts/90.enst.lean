/-! THE ENUMERATOR'S STATE: where it stands, what is still to come -/
def EI (e : EP) (J P : Nat → Nat → Int) (k : Int) : Prop := (J 30 0 = (e.n : Int) ∧ J 30 1 = k ∧ J 30 3 = e.hf ∧ J 30 4 = e.st) ∧ (∀ i j, i < e.n → j ≤ i → P 31 (4 * i + j) = e.sl i j) ∧ (∀ i, i < e.n → P 32 i = e.ou i) ∧ (-1 ≤ k ∧ k < (e.n : Int)) ∧ (∀ j : Nat, (j : Int) ≤ k → P 33 j = e.lf j (J 35) ∧ e.st ≤ e.lf j (J 35) ∧ P 34 j = e.sm j (J 35) ∧ J 36 j = e.lo j (J 35) ∧ J 35 j ≤ e.hi j (J 35) + 1 ∧ -(e.mx j) ≤ J 35 j)
/-- what may change -/
def offE (J J' P P' : Nat → Nat → Int) : Prop := (∀ a, a ≠ 30 → a ≠ 35 → a ≠ 36 → J' a = J a) ∧ (∀ q, q ≠ 1 → J' 30 q = J 30 q) ∧ ∀ a, a ≠ 33 → a ≠ 34 → P' a = P a
section EnSt
variable {e : EP} {J J' J2 P P' P2 : Nat → Nat → Int} {k : Nat}
theorem zup_row {a i : Nat} {v : Int} : zup J a i v a = upx (J a) i v := by funext j; unfold zup upx; rw [if_pos rfl]
theorem offE_refl : offE J J P P := ⟨fun _ _ _ _ => rfl, fun _ _ => rfl, fun _ _ _ => rfl⟩
theorem offE_trans (h : offE J J' P P') (h2 : offE J' J2 P' P2) : offE J J2 P P2 := ⟨fun a a1 a2 a3 => (h2.1 a a1 a2 a3).trans (h.1 a a1 a2 a3), fun q hq => (h2.2.1 q hq).trans (h.2.1 q hq), fun a a1 a2 => (h2.2.2 a a1 a2).trans (h.2.2 a a1 a2)⟩
/-- a level's facts look at the letters ahead of it alone -/
theorem EI_lv (h : e.ok) {x y : Nat → Int} {j : Nat} (hj : j < e.n) (hxy : ∀ i, i < j → x i = y i) : e.lf j x = e.lf j y ∧ e.sm j x = e.sm j y ∧ e.lo j x = e.lo j y ∧ e.hi j x = e.hi j y := by
  have a := en_hi h hj hxy
  exact ⟨h.2.2.2.2.2.2.1 j x y (by omega) hxy, a.2.2.1, a.2.1, a.1⟩
theorem EI_diff (h : e.ok) {q : Int} (hE : EI e J P q) {j : Nat} (hj : (j : Int) ≤ q) : J 35 j - J 36 j ≤ 2 * e.mx j + 1 ∧ J 35 j ≤ e.mx j + 1 ∧ -(e.mx j) ≤ J 35 j ∧ -(e.mx j) ≤ J 36 j ∧ J 36 j ≤ e.mx j + 1 ∧ e.mx j ≤ 1000000 := by
  have a := hE.2.2.2.2 j hj
  have b := lv_bd (x := J 35) h (k := j) (by have := hE.2.2.2.1; omega) a.2.1
  have m := h.2.2.2.1 j (by have := hE.2.2.2.1; omega)
  omega
/-- one level up -/
theorem EI_up (hE : EI e J P (k : Int)) : EI e (zup J 30 1 ((k : Int) - 1)) P ((k : Int) - 1) := by
  obtain ⟨a, b, c, d, f⟩ := hE
  refine ⟨⟨by rw [zzi (by decide)]; exact a.1, by rw [zz], by rw [zzi (by decide)]; exact a.2.2.1, by rw [zzi (by decide)]; exact a.2.2.2⟩, b, c, by omega, fun j hj => ?_⟩
  rw [zup_ne (show (35 : Nat) ≠ 30 by decide), zup_ne (show (36 : Nat) ≠ 30 by decide)]
  exact f j (by omega)
/-- a number less at a level: it is one that the level may have -/
theorem EI_ok (h : e.ok) (hE : EI e J P (k : Int)) (hx : J 36 k < J 35 k) : e.st ≤ e.lf (k + 1) (upx (J 35) k (J 35 k - 1)) ∧ (0 ≤ J 36 k ∨ True) := by
  have a := hE.2.2.2.2 k (by omega)
  have hk : k < e.n := by have := hE.2.2.2.1; omega
  have b := lv_bd (x := J 35) h hk a.2.1
  refine ⟨(lv_in h hk a.2.1 _).mp ⟨?_, by omega⟩, Or.inr trivial⟩
  have l : -((e.rt k (J 35) + e.sm k (J 35)) / e.sl k k) ≤ J 36 k := by
    rw [a.2.2.2.1]
    unfold EP.lo
    split
    · rename_i hz
      have s0 : e.sm k (J 35) = 0 := by
        have z : ∀ j : Nat, j ≤ k → smS e.sl (J 35) k j = 0 := by
          intro j
          induction j with
          | zero => intro _; rfl
          | succ j ih => intro hj; unfold smS; rw [ih (by omega), hz.2 j (by omega), Int.mul_zero]; rfl
        exact z k (Nat.le_refl _)
      have := Int.ediv_nonneg (a := e.rt k (J 35) + e.sm k (J 35)) (b := e.sl k k) (by omega) (by have := (h.2.2.2.1 k hk).1; omega)
      omega
    · exact Int.le_refl _
  omega
theorem EI_dec (h : e.ok) (hE : EI e J P (k : Int)) (hx : J 36 k < J 35 k) (v : Int) : EI e (zup J 35 k (J 35 k - 1)) (zup P 33 (k + 1) v) (k : Int) := by
  have hE' := hE
  have hk : k < e.n := by have := hE.2.2.2.1; omega
  obtain ⟨a, b, c, d, f⟩ := hE
  refine ⟨by rw [zup_ne (show (30 : Nat) ≠ 35 by decide)]; exact a, fun i j hi hj => by rw [zzr (by decide)]; exact b i j hi hj, fun i hi => by rw [zzr (by decide)]; exact c i hi, d, fun j hj => ?_⟩
  have l := EI_lv h (x := upx (J 35) k (J 35 k - 1)) (y := J 35) (j := j) (by omega) (fun i hi => upx_ne (by omega))
  have g := f j hj
  have r35 : zup J 35 k (J 35 k - 1) 35 = upx (J 35) k (J 35 k - 1) := zup_row
  rw [r35, zup_ne (show (36 : Nat) ≠ 35 by decide), l.1, l.2.1, l.2.2.1, l.2.2.2, zzi (by omega), zzr (by decide)]
  refine ⟨g.1, g.2.1, g.2.2.1, g.2.2.2.1, ?_⟩
  by_cases e2 : j = k
  · subst e2
    rw [upx_eq]
    have := EI_diff h hE' (j := j) (by omega)
    omega
  · rw [upx_ne e2]; exact g.2.2.2.2
/-- the last level: a vector has come -/
theorem EI_last (h : e.ok) (hE : EI e J P (k : Int)) (hx : J 36 k < J 35 k) (hk : k + 1 = e.n) {L : List V4} (hL : L = e.rs (J 35) (J 36) (k + 1)) : L = tupN e.n (upx (J 35) k (J 35 k - 1)) :: e.rs (upx (J 35) k (J 35 k - 1)) (J 36) (k + 1) := by
  rw [hL, rs_dec h (by omega) hx, show e.n - 1 - k = 0 by omega, en_zero]; rfl
/-- the next level is entered -/
theorem EI_enter (h : e.ok) {x : Nat → Int} (hx0 : x = J 35) (hE : EI e J P (k : Int)) (hk : k + 1 < e.n) (hl : e.st ≤ e.lf (k + 1) x) (hp : P 33 (k + 1) = e.lf (k + 1) x) :
    EI e (zup (zup (zup J 30 1 ((k : Int) + 1)) 35 (k + 1) (e.hi (k + 1) x + 1)) 36 (k + 1) (e.lo (k + 1) x)) (zup P 34 (k + 1) (e.sm (k + 1) x)) ((k : Int) + 1) := by
  subst hx0
  obtain ⟨a, b, c, d, f⟩ := hE
  have bd := lv_bd (x := J 35) h hk hl
  have r35 : zup (zup (zup J 30 1 ((k : Int) + 1)) 35 (k + 1) (e.hi (k + 1) (J 35) + 1)) 36 (k + 1) (e.lo (k + 1) (J 35)) 35 = upx (J 35) (k + 1) (e.hi (k + 1) (J 35) + 1) := by rw [zup_ne (by decide), zup_row, zup_ne (by decide)]
  have r36 : zup (zup (zup J 30 1 ((k : Int) + 1)) 35 (k + 1) (e.hi (k + 1) (J 35) + 1)) 36 (k + 1) (e.lo (k + 1) (J 35)) 36 = upx (J 36) (k + 1) (e.lo (k + 1) (J 35)) := by rw [zup_row, zup_ne (by decide), zup_ne (by decide)]
  refine ⟨⟨?_, ?_, ?_, ?_⟩, fun i j hi hj => by rw [zzr (by decide)]; exact b i j hi hj, fun i hi => by rw [zzr (by decide)]; exact c i hi, by omega, fun j hj => ?_⟩
  · rw [zzr (by decide), zzr (by decide), zzi (by decide)]; exact a.1
  · rw [zzr (by decide), zzr (by decide), zz]
  · rw [zzr (by decide), zzr (by decide), zzi (by decide)]; exact a.2.2.1
  · rw [zzr (by decide), zzr (by decide), zzi (by decide)]; exact a.2.2.2
  · have l := EI_lv h (x := upx (J 35) (k + 1) (e.hi (k + 1) (J 35) + 1)) (y := J 35) (j := j) (by omega) (fun i hi => upx_ne (by omega))
    rw [r35, r36, l.1, l.2.1, l.2.2.1, l.2.2.2, zzr (by decide)]
    by_cases e2 : j = k + 1
    · subst e2
      rw [upx_eq, upx_eq, zz]
      exact ⟨hp, hl, rfl, rfl, by omega, by omega⟩
    · rw [upx_ne e2, upx_ne e2, zzi e2]
      exact f j (by omega)
/-- steps that are left -/
theorem pt_up {x low : Nat → Int} (h : x k ≤ low k) : e.pt x low (k + 1) = e.pt x low k := by
  show e.pt x low k + max 0 (x k - low k) * e.wt (e.n - 1 - k) = _
  rw [show max 0 (x k - low k) = 0 by omega]; omega
theorem pt_dec (h : e.ok) {x low : Nat → Int} (hk : k + 1 < e.n) (hx : low k < x k) (hl : e.st ≤ e.lf (k + 1) (upx x k (x k - 1))) : e.pt (upx (upx x k (x k - 1)) (k + 1) (e.hi (k + 1) (upx x k (x k - 1)) + 1)) (upx low (k + 1) (e.lo (k + 1) (upx x k (x k - 1)))) (k + 2) + 2 ≤ e.pt x low (k + 1) := by
  have bd := lv_bd (x := upx x k (x k - 1)) h hk hl
  have w := wt_nn h (e.n - 1 - (k + 1)) (by omega)
  have we : e.wt (e.n - 1 - k) = 2 + (2 * e.mx (k + 1) + 1) * e.wt (e.n - 1 - (k + 1)) := by
    rw [show e.n - 1 - k = (e.n - 1 - (k + 1)) + 1 by omega, EP.wt, show e.n - 1 - (e.n - 1 - (k + 1)) = k + 1 by omega]
  show e.pt _ _ k + max 0 (upx (upx x k (x k - 1)) (k + 1) (e.hi (k + 1) (upx x k (x k - 1)) + 1) k - upx low (k + 1) (e.lo (k + 1) (upx x k (x k - 1))) k) * e.wt (e.n - 1 - k) + max 0 (upx (upx x k (x k - 1)) (k + 1) (e.hi (k + 1) (upx x k (x k - 1)) + 1) (k + 1) - upx low (k + 1) (e.lo (k + 1) (upx x k (x k - 1))) (k + 1)) * e.wt (e.n - 1 - (k + 1)) + 2 ≤ e.pt x low k + max 0 (x k - low k) * e.wt (e.n - 1 - k)
  rw [upx_eq, upx_eq, upx_ne (show k ≠ k + 1 by omega), upx_eq, upx_ne (show k ≠ k + 1 by omega)]
  rw [pt_cg (x := upx (upx x k (x k - 1)) (k + 1) (e.hi (k + 1) (upx x k (x k - 1)) + 1)) (y := x) (low' := low) k (fun j hj => ⟨by rw [upx_ne (by omega), upx_ne (by omega)], upx_ne (by omega)⟩)]
  have m1 := Int.mul_le_mul_of_nonneg_right (show max 0 (e.hi (k + 1) (upx x k (x k - 1)) + 1 - e.lo (k + 1) (upx x k (x k - 1))) ≤ 2 * e.mx (k + 1) + 1 by have := h.2.2.2.1 (k + 1) hk; omega) w
  have e1 : max 0 (x k - low k) * e.wt (e.n - 1 - k) = max 0 (x k - 1 - low k) * e.wt (e.n - 1 - k) + e.wt (e.n - 1 - k) := by
    rw [show max 0 (x k - low k) = max 0 (x k - 1 - low k) + 1 by omega, Int.add_mul, Int.one_mul]
  omega
end EnSt
