/-! THE DRAFT: letters at 26 0, entries at 27 -/
def dput (J : Nat → Nat → Int) (nl : Int) (E : Nat → Int) : Nat → Nat → Int := fun a q => if a = 26 ∧ q = 0 then nl else if a = 27 ∧ q < 16 then E q else J a q
section Draft
variable {J : Nat → Nat → Int} {nl m : Int} {E F : Nat → Int}
theorem dput_let : dput J nl E 26 0 = nl := by simp [dput]
theorem dput_26 {q : Nat} (h : q ≠ 0) : dput J nl E 26 q = J 26 q := by simp [dput, h]
theorem dput_off {a : Nat} (h1 : a ≠ 26) (h2 : a ≠ 27) : dput J nl E a = J a := by funext q; simp [dput, h1, h2]
theorem dput_in {k : Nat} (h : k < 16) : dput J nl E 27 k = E k := by simp [dput, h]
theorem dput_at {i j : Int} (hi : 0 ≤ i ∧ i < 4) (hj : 0 ≤ j ∧ j < 4) : dput J nl E 27 (4 * i + j).toNat = E (4 * i.toNat + j.toNat) := by
  rw [show (4 * i + j).toNat = 4 * i.toNat + j.toNat by omega]; exact dput_in (by omega)
theorem dput_setl : zup (dput J nl E) 26 0 m = dput J m E := by
  funext a q; simp only [zup, dput]; by_cases ha : a = 26
  · subst ha; by_cases hq : q = 0 <;> simp [hq]
  · simp [ha]
theorem dput_set {k : Nat} {x : Int} (hk : k < 16) : zup (dput J nl E) 27 k x = dput J nl (fun q => if q = k then x else E q) := by
  funext a q; simp only [zup, dput]
  by_cases ha : a = 27
  · subst ha; by_cases hq : q = k
    · subst hq; simp [hk]
    · simp [hq]
  · simp [ha]
theorem dput_lay {i j : Nat} {a : Int} (hi : i < 4) (hj : j < 4) : zup (zup (dput J nl E) 27 (4 * i + j) a) 27 (4 * j + i) a = dput J nl (setE E i j a) := by
  rw [dput_set (by omega), dput_set (by omega)]; rfl
theorem dput_ext (h : ∀ k, k < 16 → E k = F k) : dput J nl E = dput J nl F := by
  funext a q; simp only [dput]; split
  · rfl
  · split
    · rename_i hx; exact h _ hx.2
    · rfl
theorem dput_dput : dput (dput J nl E) m F = dput J m F := by
  funext a q; simp only [dput]; split
  · rfl
  · split <;> rfl
theorem dput_self : dput J (J 26 0) (J 27) = J := by
  funext a q; simp only [dput]; split
  · rename_i hx; rw [hx.1, hx.2]
  · split
    · rename_i hx; rw [hx.1]
    · rfl
theorem dput_up {a k : Nat} {x : Int} (h1 : a ≠ 26) (h2 : a ≠ 27) : zup (dput J nl E) a k x = dput (zup J a k x) nl E := by
  funext b q; simp only [zup, dput]
  by_cases hb : b = a
  · subst hb; simp [h1, h2]
  · simp [hb]
theorem dput_up26 {k : Nat} {x : Int} (h : k ≠ 0) : zup (dput J nl E) 26 k x = dput (zup J 26 k x) nl E := by
  funext b q; simp only [zup, dput]
  by_cases hb : b = 26
  · subst hb; by_cases hq : q = k
    · subst hq; simp [h]
    · simp [hq]
  · simp [hb]
end Draft
/-- the bits of the first k letters but one -/
def bt (k but : Int) : Int := ((2 ^ k.toNat : Nat) : Int) - 1 - (if 0 ≤ but then ((2 ^ but.toNat : Nat) : Int) else 0)
theorem bt_bit0 : ∀ (k b : Fin 5) (i : Fin 4), (b.val : Int) - 1 < (k.val : Int) → (iZ (bt (k.val : Int) ((b.val : Int) - 1)) >>> (iZ (i.val : Int) &&& 31)) &&& iZ 1 = iZ (if (i.val : Int) < (k.val : Int) ∧ (i.val : Int) ≠ (b.val : Int) - 1 then 1 else 0) := by decide +kernel
theorem bt_bit {k but i : Int} (hk : 0 ≤ k ∧ k ≤ 4) (hb : -1 ≤ but ∧ but < k) (hi : 0 ≤ i ∧ i < 4) : (iZ (bt k but) >>> (iZ i &&& 31)) &&& iZ 1 = iZ (if i < k ∧ i ≠ but then 1 else 0) := by
  have h := bt_bit0 ⟨k.toNat, by omega⟩ ⟨(but + 1).toNat, by omega⟩ ⟨i.toNat, by omega⟩
  simp only at h
  rw [show ((k.toNat : Nat) : Int) = k by omega, show (((but + 1).toNat : Nat) : Int) - 1 = but by omega, show ((i.toNat : Nat) : Int) = i by omega] at h
  exact h (by omega)
theorem bt_all0 : ∀ k : Fin 5, iZ 1 <<< (iZ (k.val : Int) &&& 31) = iZ ((2 ^ k.val : Nat) : Int) := by decide +kernel
theorem bt_all {k : Int} (hk : 0 ≤ k ∧ k ≤ 4) : iZ 1 <<< (iZ k &&& 31) = iZ ((2 ^ k.toNat : Nat) : Int) := by
  have h := bt_all0 ⟨k.toNat, by omega⟩
  simp only at h
  rw [show ((k.toNat : Nat) : Int) = k by omega] at h
  exact h
theorem bt_but0 : ∀ (k : Fin 5) (i : Fin 4), (i.val : Int) < (k.val : Int) → iZ (((2 ^ k.val : Nat) : Int) - 1) &&& ((iZ 1 <<< (iZ (i.val : Int) &&& 31)) ^^^ iZ (-1)) = iZ (bt (k.val : Int) (i.val : Int)) := by decide +kernel
theorem bt_but {k i : Int} (hk : 0 ≤ k ∧ k ≤ 4) (hi : 0 ≤ i ∧ i < k) : iZ (((2 ^ k.toNat : Nat) : Int) - 1) &&& ((iZ 1 <<< (iZ i &&& 31)) ^^^ iZ (-1)) = iZ (bt k i) := by
  have h := bt_but0 ⟨k.toNat, by omega⟩ ⟨i.toNat, by omega⟩
  simp only at h
  rw [show ((k.toNat : Nat) : Int) = k by omega, show ((i.toNat : Nat) : Int) = i by omega] at h
  exact h (by omega)
theorem bt_no (k : Int) : bt k (-1) = ((2 ^ k.toNat : Nat) : Int) - 1 := by unfold bt; rw [if_neg (by omega)]; omega
/-- a form's block is laid into another's -/
theorem paste_step {F E : Nat → Int} {nf a i j : Int} {q : Nat} (hsy : symS F) (hn : 0 ≤ a ∧ a + nf ≤ 4) (hi : 0 ≤ i ∧ i < nf) (hj : 0 ≤ j ∧ j ≤ i) (hq : q < 16) :
    setE (fun q : Nat => if a.toNat ≤ q / 4 ∧ q / 4 < a.toNat + nf.toNat ∧ a.toNat ≤ q % 4 ∧ q % 4 < a.toNat + nf.toNat ∧ ((((q / 4 : Nat) : Int) < a + i ∧ ((q % 4 : Nat) : Int) < a + i) ∨ (((q / 4 : Nat) : Int) = a + i ∧ ((q % 4 : Nat) : Int) < a + j) ∨ (((q % 4 : Nat) : Int) = a + i ∧ ((q / 4 : Nat) : Int) < a + j)) then F (4 * (q / 4 - a.toNat) + (q % 4 - a.toNat)) else E q) (a + i).toNat (a + j).toNat (F (4 * i.toNat + j.toNat)) q
    = (if a.toNat ≤ q / 4 ∧ q / 4 < a.toNat + nf.toNat ∧ a.toNat ≤ q % 4 ∧ q % 4 < a.toNat + nf.toNat ∧ ((((q / 4 : Nat) : Int) < a + i ∧ ((q % 4 : Nat) : Int) < a + i) ∨ (((q / 4 : Nat) : Int) = a + i ∧ ((q % 4 : Nat) : Int) < a + (j + 1)) ∨ (((q % 4 : Nat) : Int) = a + i ∧ ((q / 4 : Nat) : Int) < a + (j + 1))) then F (4 * (q / 4 - a.toNat) + (q % 4 - a.toNat)) else E q) := by
  unfold setE
  by_cases h1 : q = 4 * (a + j).toNat + (a + i).toNat
  · rw [if_pos h1, if_pos (by omega), show q / 4 - a.toNat = j.toNat by omega, show q % 4 - a.toNat = i.toNat by omega]
    exact hsy _ _ (by omega) (by omega)
  · rw [if_neg h1]
    by_cases h2 : q = 4 * (a + i).toNat + (a + j).toNat
    · rw [if_pos h2, if_pos (by omega), show q / 4 - a.toNat = i.toNat by omega, show q % 4 - a.toNat = j.toNat by omega]
    · rw [if_neg h2]
      exact ifc (by omega)
theorem exch_step {F : Nat → Int} {nl i j k m : Int} {a b : Int} {q : Nat} (hsy : symS F) (hn : 1 ≤ nl ∧ nl ≤ 4) (hi : 0 ≤ i ∧ i < nl) (hj : 0 ≤ j ∧ j < nl) (hk : 0 ≤ k ∧ k < nl) (hm : 0 ≤ m ∧ m ≤ k) (ha : a.toNat = swi i.toNat j.toNat k.toNat) (hb : b.toNat = swi i.toNat j.toNat m.toNat) (hq : q < 16) :
    setE (fun q : Nat => if q / 4 < nl.toNat ∧ q % 4 < nl.toNat ∧ ((((q / 4 : Nat) : Int) < k ∧ ((q % 4 : Nat) : Int) < k) ∨ (((q / 4 : Nat) : Int) = k ∧ ((q % 4 : Nat) : Int) < m) ∨ (((q % 4 : Nat) : Int) = k ∧ ((q / 4 : Nat) : Int) < m)) then F (4 * swi i.toNat j.toNat (q / 4) + swi i.toNat j.toNat (q % 4)) else F q) k.toNat m.toNat (F (4 * a.toNat + b.toNat)) q
    = (if q / 4 < nl.toNat ∧ q % 4 < nl.toNat ∧ ((((q / 4 : Nat) : Int) < k ∧ ((q % 4 : Nat) : Int) < k) ∨ (((q / 4 : Nat) : Int) = k ∧ ((q % 4 : Nat) : Int) < m + 1) ∨ (((q % 4 : Nat) : Int) = k ∧ ((q / 4 : Nat) : Int) < m + 1)) then F (4 * swi i.toNat j.toNat (q / 4) + swi i.toNat j.toNat (q % 4)) else F q) := by
  have b1 := swi_lt (i := i.toNat) (j := j.toNat) (k := k.toNat) (m := 4) (by omega) (by omega) (by omega)
  have b2 := swi_lt (i := i.toNat) (j := j.toNat) (k := m.toNat) (m := 4) (by omega) (by omega) (by omega)
  unfold setE
  by_cases h1 : q = 4 * m.toNat + k.toNat
  · rw [if_pos h1, if_pos (by omega), show q / 4 = m.toNat by omega, show q % 4 = k.toNat by omega, ha, hb]
    exact hsy _ _ b1 b2
  · rw [if_neg h1]
    by_cases h2 : q = 4 * k.toNat + m.toNat
    · rw [if_pos h2, if_pos (by omega), show q / 4 = k.toNat by omega, show q % 4 = m.toNat by omega, ha, hb]
    · rw [if_neg h2]
      exact ifc (by omega)
