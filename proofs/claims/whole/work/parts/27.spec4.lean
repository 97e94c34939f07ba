/-! ANSWERS: what a call answers, and the memory that lasts behind it. -/
section Answers
variable (J : Nat → Nat → Int)
noncomputable def aSingle (s a : Int) : Int × (Nat → Nat → Int) := cif (0 ≤ s ∧ s < 6 ∧ 1 ≤ a ∧ a ≤ 99) (a, jput J s.toNat 1 (fun k => if k = 0 then a else 0)) (-1, J)
noncomputable def aClear (s : Int) : Int × (Nat → Nat → Int) := cif (0 ≤ s ∧ s < 6) (J 44 s.toNat, jput J s.toNat 0 (fun _ => 0)) (-1, J)
/-- what stands ready comes to a slot, if it is lawful -/
noncomputable def aComes (s nl : Int) (E : Nat → Int) (r : Int) : Int × (Nat → Nat → Int) := cif (lawS nl E) (r, jput J s.toNat nl E) (-5, J)
noncomputable def aEntry (s i j a : Int) : Int × (Nat → Nat → Int) :=
  cif ((0 ≤ s ∧ s < 6 ∧ 0 < J 44 s.toNat) ∧ (0 ≤ i ∧ i < J 44 s.toNat) ∧ (0 ≤ j ∧ j < J 44 s.toNat) ∧ -99 ≤ a ∧ a ≤ 99) (aComes J s (J 44 s.toNat) (setE (eE J s) i.toNat j.toNat a) (detS (setE (eE J s) i.toNat j.toNat a) (J 44 s.toNat) (-1))) (-1, J)
noncomputable def aAt (s i j : Int) : Int := cif ((0 ≤ s ∧ s < 6 ∧ 0 < J 44 s.toNat) ∧ (0 ≤ i ∧ i < J 44 s.toNat) ∧ (0 ≤ j ∧ j < J 44 s.toNat)) (eE J s (4 * i.toNat + j.toNat)) (-2147483648)
noncomputable def aMinor (s k : Int) : Int := cif ((0 ≤ s ∧ s < 6 ∧ 0 < J 44 s.toNat) ∧ (0 ≤ k ∧ k ≤ J 44 s.toNat)) (detS (eE J s) k (-1)) (-1)
/-- the greatest of the first k squares -/
def mostS (E : Nat → Int) : Nat → Int
  | 0 => 0
  | k + 1 => if mostS E k < E (5 * k) then E (5 * k) else mostS E k
noncomputable def aOf (s w : Int) : Int := cif (0 ≤ s ∧ s < 6 ∧ 0 ≤ w ∧ w ≤ 3) (if J 44 s.toNat = 0 then (if w = 0 then 0 else -2) else if w = 0 then J 44 s.toNat else if w = 1 then detS (eE J s) (J 44 s.toNat) (-1) else if w = 2 then boxP (J 44 s.toNat) (eE J s) 4 else mostS (eE J s) (J 44 s.toNat).toNat) (-1)
noncomputable def aScale (s c : Int) : Int × (Nat → Nat → Int) := cif ((0 ≤ s ∧ s < 6 ∧ 0 < J 44 s.toNat) ∧ 1 ≤ c ∧ c ≤ 99) (aComes J s (J 44 s.toNat) (fun k => eE J s k * c) (detS (fun k => eE J s k * c) (J 44 s.toNat) (-1))) (-1, J)
noncomputable def aSame (s t : Int) : Int := cif ((0 ≤ s ∧ s < 6 ∧ 0 < J 44 s.toNat) ∧ (0 ≤ t ∧ t < 6 ∧ 0 < J 44 t.toNat)) (cif (J 44 s.toNat = J 44 t.toNat ∧ ∀ k, k < 16 → eE J s k = eE J t k) 1 0) (-1)
end Answers
theorem mostS_bd {E : Nat → Int} (hE : entS E) : ∀ k, k ≤ 4 → 0 ≤ mostS E k ∧ mostS E k ≤ 99
  | 0, _ => by simp [mostS]
  | k + 1, h => by
    have h1 := mostS_bd hE k (by omega)
    have h2 := hE (5 * k) (by omega)
    unfold mostS
    split <;> omega
theorem lawS_rng {nl : Int} {E : Nat → Int} (h : lawS nl E) : ∀ k, k < 16 → -2147483647 ≤ E k ∧ E k ≤ 2147483647 := fun k hk => by have := h.1 k hk; omega
theorem setE_rng {E : Nat → Int} {i j : Nat} {a : Int} (h : entS E) (ha : -99 ≤ a ∧ a ≤ 99) : entS (setE E i j a) := fun k hk => by
  have := h k hk
  unfold setE; split; exact ha; split; exact ha; exact this
theorem entS_rng {E : Nat → Int} (h : entS E) : ∀ k, k < 16 → -2147483647 ≤ E k ∧ E k ≤ 2147483647 := fun k hk => by have := h k hk; omega
/-- out of comes(), at what stands ready beside a memory -/
theorem aComes_of {J J' : Nat → Nat → Int} {s nl d r : Int} {E : Nat → Int} (hr : (lawS nl E ∧ d = detS E nl (-1) ∧ J' = jput (jput J 72 nl E) s.toNat nl E) ∨ (¬ lawS nl E ∧ d = -5 ∧ J' = jput J 72 nl E)) (h1 : lawS nl E → r = detS E nl (-1)) : d = (aComes J s nl E r).1 ∧ pq (aComes J s nl E r).2 J' := by
  rcases hr with ⟨hl, rfl, rfl⟩ | ⟨hl, rfl, rfl⟩
  · unfold aComes; rw [cif_pos hl]; exact ⟨(h1 hl).symm, pq_jput pq_new⟩
  · unfold aComes; rw [cif_neg hl]; exact ⟨rfl, pq_new⟩
