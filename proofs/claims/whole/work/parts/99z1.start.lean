/-! THE START: what the Statement gives of the rules' arrays -/
section Start1
variable {s : State} {args : Array Value}
set_option maxRecDepth 100000 in
theorem st_rule0 {A : Nat → Prop} (hgv : (Jvm.Cond.and given_1 narrow_1).before args s = true) (hts : ∀ w ∈ lw_tbl, w.before args s = true) (hA : ∀ a : Nat, a < s.heap.size → ¬ A a) : ∃ t : Nat, va_Z RX8 "RULE_ALL" "[I" (.ref t) A s s.heap ∧ va_T .int t 9 (fun j => .int (iZ (ruleA 0 (j : Int)))) A s s.heap := by
  have hs := flat_of_before _ hgv
  refine st_rule (nm := "RULE_ALL") (N := 9) (r := 0) (by decide) (hs _ (by decide +kernel)) (hs _ (by decide +kernel)) (fun j hj => ?_) (hts _ (List.mem_append_right _ (List.mem_of_getElem? (i := 567) (by decide +kernel)))) (hts _ (List.mem_filter.mp w_1).1) hA
  rcases (show j = 0 ∨ j = 1 ∨ j = 2 ∨ j = 3 ∨ j = 4 ∨ j = 5 ∨ j = 6 ∨ j = 7 ∨ j = 8 by omega) with rfl | rfl | rfl | rfl | rfl | rfl | rfl | rfl | rfl <;> exact hs _ (by decide +kernel)
set_option maxRecDepth 100000 in
theorem st_rule1 {A : Nat → Prop} (hgv : (Jvm.Cond.and given_1 narrow_1).before args s = true) (hts : ∀ w ∈ lw_tbl, w.before args s = true) (hA : ∀ a : Nat, a < s.heap.size → ¬ A a) : ∃ t : Nat, va_Z RX8 "RULE_ODD" "[I" (.ref t) A s s.heap ∧ va_T .int t 7 (fun j => .int (iZ (ruleA 1 (j : Int)))) A s s.heap := by
  have hs := flat_of_before _ hgv
  refine st_rule (nm := "RULE_ODD") (N := 7) (r := 1) (by decide) (hs _ (by decide +kernel)) (hs _ (by decide +kernel)) (fun j hj => ?_) (hts _ (List.mem_append_right _ (List.mem_of_getElem? (i := 569) (by decide +kernel)))) (hts _ (List.mem_filter.mp w_1).1) hA
  rcases (show j = 0 ∨ j = 1 ∨ j = 2 ∨ j = 3 ∨ j = 4 ∨ j = 5 ∨ j = 6 by omega) with rfl | rfl | rfl | rfl | rfl | rfl | rfl <;> exact hs _ (by decide +kernel)
set_option maxRecDepth 100000 in
theorem st_rule2 {A : Nat → Prop} (hgv : (Jvm.Cond.and given_1 narrow_1).before args s = true) (hts : ∀ w ∈ lw_tbl, w.before args s = true) (hA : ∀ a : Nat, a < s.heap.size → ¬ A a) : ∃ t : Nat, va_Z RX8 "RULE_PRIME" "[I" (.ref t) A s s.heap ∧ va_T .int t 17 (fun j => .int (iZ (ruleA 2 (j : Int)))) A s s.heap := by
  have hs := flat_of_before _ hgv
  refine st_rule (nm := "RULE_PRIME") (N := 17) (r := 2) (by decide) (hs _ (by decide +kernel)) (hs _ (by decide +kernel)) (fun j hj => ?_) (hts _ (List.mem_append_right _ (List.mem_of_getElem? (i := 571) (by decide +kernel)))) (hts _ (List.mem_filter.mp w_1).1) hA
  rcases (show j = 0 ∨ j = 1 ∨ j = 2 ∨ j = 3 ∨ j = 4 ∨ j = 5 ∨ j = 6 ∨ j = 7 ∨ j = 8 ∨ j = 9 ∨ j = 10 ∨ j = 11 ∨ j = 12 ∨ j = 13 ∨ j = 14 ∨ j = 15 ∨ j = 16 by omega) with rfl | rfl | rfl | rfl | rfl | rfl | rfl | rfl | rfl | rfl | rfl | rfl | rfl | rfl | rfl | rfl | rfl <;> exact hs _ (by decide +kernel)
end Start1
