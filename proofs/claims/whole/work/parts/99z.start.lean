/-! THE START: the pure layer's world at the law's entry -/
section Start
theorem st_inst : ∀ ci, ci < 10 → Cond.instantiable (zRR ci) (zN ci) ∈ gw
  | 0, _ => w_162 | 1, _ => w_72 | 2, _ => w_106 | 3, _ => w_262 | 4, _ => w_148 | 5, _ => w_54 | 6, _ => w_447 | 7, _ => w_25 | 8, _ => w_15 | 9, _ => w_771
  | n + 10, h => absurd h (by omega)
theorem st_no {k : Nat} (h : ¬ k < 10) : vwCl[k]? = none := List.getElem?_eq_none (by show 10 ≤ k; omega)
theorem st_classes {s : State} {args : Array Value} (hgw : ∀ w ∈ gw, w.before args s = true) : ∃ (dC : Nat → ClassId) (dI : Nat → Nat → Nat), ∀ (k : Nat) (q : vw_C), vwCl[k]? = some q → u_Kn s q.1 q.2.1 q.2.2 (dC k) (dI k) := by
  have hkn : ∀ ci, ci < 10 → ∃ (cC : ClassId) (iS : Nat → Nat), u_Kn s (zRR ci) (zTT ci) (zN ci) cC iS := fun ci hc => u_known hgw (zuw hc) (hgw _ (st_inst ci hc))
  have h : ∀ k : Nat, ∃ (c : ClassId) (i : Nat → Nat), ∀ q : vw_C, vwCl[k]? = some q → u_Kn s q.1 q.2.1 q.2.2 c i := by
    intro k
    by_cases hk : k < 10
    · obtain ⟨c, i, h⟩ := hkn k hk
      exact ⟨c, i, fun q hq => by rw [zcl k hk] at hq; cases hq; exact h⟩
    · obtain ⟨c, i, _⟩ := hkn 0 (by omega)
      exact ⟨c, i, fun q hq => by rw [st_no hk] at hq; cases hq⟩
  exact ⟨fun k => Classical.choose (h k), fun k => Classical.choose (Classical.choose_spec (h k)), fun k q hq => Classical.choose_spec (Classical.choose_spec (h k)) q hq⟩
theorem st_arr {s : State} {args : Array Value} {ty : FieldType} (hno : ∀ C, ty ≠ .object C) (h : (Cond.arrayClass ty).before args s = true) : ∃ cA : ClassId, ArrOfT s cA ty ∧ va_RA s cA ty := by
  obtain ⟨cA, kA, comp, hfind, hk, hkind⟩ := Cond.arrayClass_spec h
  refine ⟨cA, fun N z => ⟨(fun k h => by cases h), kA, hk, comp, hkind⟩, ?_⟩
  cases ty with
  | object C => exact absurd rfl (hno C)
  | _ => exact hfind
theorem st_obj {s : State} {args : Array Value} {C : String} (h : (Cond.arrayOver (.object C)).before args s = true) : ∃ cA : ClassId, ArrOfT s cA (.object C) ∧ va_RA s cA (.object C) := by
  obtain ⟨comp, c, k, h1, h2, h3, h4, h5⟩ := Cond.arrayOver_spec h
  exact ⟨c, fun N z => ⟨(fun k h => by cases h), k, h3, comp, h4⟩, k, comp, h3, h4, h1, h5⟩
def tR (nm : String) : Term := Term.static "EscalatedForms" nm "[I"
theorem st_rule {s : State} {args : Array Value} {nm : String} {N : Nat} {r : Int} {A : Nat → Prop} (hN : N < 2 ^ 31) (harr : (Cond.arrayOf (tR nm) .int).before args s = true) (hlen : (Cond.eq (.length (tR nm)) (.int (Int32.ofNat N))).before args s = true) (hel : ∀ j : Nat, j < N → (Cond.eq (.elem (tR nm) (.int (Int32.ofNat j))) (.int (iZ (ruleA r (j : Int))))).before args s = true) (hl : (Cond.laysStatic "EscalatedForms" nm "[I").before args s = true) (hini : (Cond.initialized "EscalatedForms").before args s = true) (hA : ∀ a : Nat, a < s.heap.size → ¬ A a) : ∃ t : Nat, va_Z "EscalatedForms" nm "[I" (.ref t) A s s.heap ∧ va_T .int t N (fun j => .int (iZ (ruleA r (j : Int)))) A s s.heap := by
  obtain ⟨t, ht, hT⟩ := va_Tof (A := A) (f := fun j => .int (iZ (ruleA r (j : Int)))) hN harr (va_eqt hlen) (fun j hj => va_eqt (hel j hj)) hA
  exact ⟨t, va_Zof hl hini ht hA, hT⟩
end Start
