/-! WORTHS: the half that is enumerated, and the counts of all -/
section Enw
variable {nl tp : Int} {E x : Nat → Int}
theorem dn01 : dnF 0 (2 * (0 : Int) + 1).toNat = [0] := by decide
theorem reach_out {k : Nat} (h : nl ≤ (k : Int)) : reachS nl E k = 0 := by unfold reachS; rw [if_neg (by omega)]
theorem vecF_bx (h1 : 1 ≤ nl) (h4 : nl ≤ 4) (x : Nat → Int) : vecF nl E = (eW nl E tp).bx nl.toNat x := by
  rcases (show nl = 1 ∨ nl = 2 ∨ nl = 3 ∨ nl = 4 by omega) with rfl | rfl | rfl | rfl
  · unfold vecF vec0 vec1 vec2 vec3
    rw [reach_out (k := 1) (by decide), reach_out (k := 2) (by decide), reach_out (k := 3) (by decide), dn01]
    show _ = (dnF (reachS 1 E 0) (rN 1 E 0)).flatMap (fun t => [tupN 1 (upx x 0 t)])
    exact flat_cg (fun t _ => rfl)
  · unfold vecF vec0 vec1 vec2 vec3
    rw [reach_out (k := 2) (by decide), reach_out (k := 3) (by decide), dn01]
    show _ = (dnF (reachS 2 E 0) (rN 2 E 0)).flatMap (fun t => (dnF (reachS 2 E 1) (rN 2 E 1)).flatMap (fun t1 => [tupN 2 (upx (upx x 0 t) 1 t1)]))
    exact flat_cg (fun t _ => flat_cg (fun t1 _ => rfl))
  · unfold vecF vec0 vec1 vec2 vec3
    rw [reach_out (k := 3) (by decide), dn01]
    show _ = (dnF (reachS 3 E 0) (rN 3 E 0)).flatMap (fun t => (dnF (reachS 3 E 1) (rN 3 E 1)).flatMap (fun t1 => (dnF (reachS 3 E 2) (rN 3 E 2)).flatMap (fun t2 => [tupN 3 (upx (upx (upx x 0 t) 1 t1) 2 t2)])))
    exact flat_cg (fun t _ => flat_cg (fun t1 _ => flat_cg (fun t2 _ => rfl)))
  · unfold vecF vec0 vec1 vec2 vec3
    show _ = (dnF (reachS 4 E 0) (rN 4 E 0)).flatMap (fun t => (dnF (reachS 4 E 1) (rN 4 E 1)).flatMap (fun t1 => (dnF (reachS 4 E 2) (rN 4 E 2)).flatMap (fun t2 => (dnF (reachS 4 E 3) (rN 4 E 3)).flatMap (fun t3 => [tupN 4 (upx (upx (upx (upx x 0 t) 1 t1) 2 t2) 3 t3)]))))
    exact flat_cg (fun t _ => flat_cg (fun t1 _ => flat_cg (fun t2 _ => List.map_eq_flatMap)))
theorem vecF_tup (h1 : 1 ≤ nl) (h4 : nl ≤ 4) {v : V4} (hv : v ∈ vecF nl E) : ∃ x : Nat → Int, v = tupN nl.toNat x := by
  rw [vecF_bx (tp := 0) h1 h4 (fun _ => 0)] at hv
  have : ∀ (d : Nat) (x : Nat → Int), v ∈ (eW nl E 0).bx d x → ∃ x : Nat → Int, v = tupN nl.toNat x := by
    intro d
    induction d with
    | zero => intro x hx; exact ⟨x, List.mem_singleton.mp hx⟩
    | succ d ih => intro x hx; unfold EP.bx at hx; obtain ⟨t, _, ht⟩ := List.mem_flatMap.mp hx; exact ih _ ht
  exact this _ _ hv
theorem tup_fv {n : Nat} (h1 : 1 ≤ n) (h4 : n ≤ 4) (x : Nat → Int) : tupN n (fv (tupN n x)) = tupN n x := tupN_cg h1 (fun _ hj => fv_tup h4 hj)
/-- a worth of 0: only 0 -/
theorem wv_zero (h1 : 1 ≤ nl) (h : okF nl E) {v : V4} (hv : v ∈ vecF nl E) (hw : wv E v = 0) : ∀ j, j < nl.toNat → fv v j = 0 := by
  have h4 := h.1
  obtain ⟨y, rfl⟩ := vecF_tup h1 h4 hv
  have hok := eW_ok (tp := 0) h1 h (by omega)
  have le := lW_end (tp := 0) h1 h (fv (tupN nl.toNat y))
  rw [tup_fv (by omega) (by omega), hw] at le
  exact (lf_zero (x := fv (tupN nl.toNat y)) hok rfl (Int.zero_mul _) nl.toNat (Nat.le_refl _) (by show 0 ≤ lW (UW nl E) 0 nl.toNat _; rw [le]; decide)).2
/-- the half that is enumerated -/
def hlf (nl : Int) (E : Nat → Int) (tp : Int) : List V4 := (eW nl E tp).en nl.toNat (fun _ => 0)
theorem hlf_any (h1 : 1 ≤ nl) (h : okF nl E) (ht : 0 ≤ tp ∧ tp ≤ 100) (x : Nat → Int) : (eW nl E tp).en nl.toNat x = hlf nl E tp :=
  en_cg (eW_ok h1 h ht) _ _ _ (Nat.le_refl _) (fun j hj => absurd hj (by show ¬ j < nl.toNat - nl.toNat; omega))
theorem hlf_eq (h1 : 1 ≤ nl) (h : okF nl E) (ht : 0 ≤ tp ∧ tp ≤ 100) : hlf nl E tp = (vecF nl E).filter (fun v => decide (wv E v ≤ tp) && nnB nl.toNat (fv v)) := by
  have h4 := h.1
  have hok := eW_ok h1 h ht
  have d := dW_bd h1 h (k := 0) (by omega)
  unfold hlf
  rw [en_fil hok nl.toNat _ (Nat.le_refl _) (by
      rw [show (eW nl E tp).n - nl.toNat = 0 by show nl.toNat - nl.toNat = 0; omega]
      exact Int.mul_nonneg ht.1 (show 0 ≤ dW (UW nl E) 0 by omega)) (Or.inr (fun j hj => absurd hj (by show ¬ j < nl.toNat - nl.toNat; omega))), ← vecF_bx h1 h4]
  refine List.filter_congr (fun v hv => ?_)
  obtain ⟨y, rfl⟩ := vecF_tup h1 h4 hv
  have le := lW_end (tp := tp) h1 h (fv (tupN nl.toNat y))
  rw [tup_fv (by omega) (by omega)] at le
  unfold qE
  show (decide (0 ≤ lW (UW nl E) tp nl.toNat (fv (tupN nl.toNat y))) && (decide ((1 : Int) = 0) || nnB nl.toNat (fv (tupN nl.toNat y)))) = _
  rw [le, show decide ((1 : Int) = 0) = false from rfl, Bool.false_or]
  congr 1
  exact decide_eq_decide.mpr (by omega)
theorem hlf_len (h1 : 1 ≤ nl) (h : okF nl E) (ht : 0 ≤ tp ∧ tp ≤ 100) : (hlf nl E tp).length ≤ 1000000 := by
  rw [hlf_eq h1 h ht]
  exact Nat.le_trans (List.length_filter_le _ _) (vecF_len h.2.1.2.2)
theorem cntL_P (E : Nat → Int) (L : List V4) (v : Int) : cntL E L v = ((L.countP (fun x => decide (wv E x = v)) : Nat) : Int) := by unfold cntL; rw [List.countP_eq_length_filter]
/-- the half ahead, the half behind -/
theorem halves (h1 : 1 ≤ nl) (h : okF nl E) : ∃ A B : List V4, vecF nl E = A ++ B ∧ (∀ tp, 0 ≤ tp ∧ tp ≤ 100 → hlf nl E tp = A.filter (fun v => decide (wv E v ≤ tp))) ∧ ∀ m : Int, cntL E B m = if m = 0 then 0 else cntL E A m := by
  have h4 := h.1
  have hok := eW_ok (tp := 0) h1 h (by omega)
  obtain ⟨A, B, e, hA, hB⟩ := bx_pre hok nl.toNat (fun _ => 0) (Nat.le_refl _) (fun _ _ => rfl)
  have pm := bx_neg hok nl.toNat (fun _ => 0) (fun _ => 0) (Nat.le_refl _) (fun _ => rfl)
  have mem : ∀ v, v ∈ A ++ B → v ∈ vecF nl E := fun v hv => by rw [vecF_bx (tp := 0) h1 h4 (fun _ => 0), e]; exact hv
  rw [e] at pm
  rw [← vecF_bx h1 h4] at e
  have hA' : ∀ v, v ∈ A → nnX nl.toNat (fv v) := hA
  have hB' : ∀ v, v ∈ B → ¬ nnX nl.toNat (fv v) := hB
  refine ⟨A, B, e, fun tp ht => ?_, fun m => ?_⟩
  · rw [hlf_eq h1 h ht, e, List.filter_append]
    have z : B.filter (fun v => decide (wv E v ≤ tp) && nnB nl.toNat (fv v)) = [] := List.filter_eq_nil_iff.mpr (fun v hv => by rw [nnB_f.mpr (hB' v hv)]; simp)
    rw [z, List.append_nil]
    exact List.filter_congr (fun v hv => by rw [nnB_t.mpr (hA' v hv), Bool.and_true])
  · have key : (A ++ B).countP (fun v => decide (wv E v = m) && !nnB nl.toNat (fv v)) = B.countP (fun v => decide (wv E v = m)) := by
      rw [List.countP_append]
      have z : A.countP (fun v => decide (wv E v = m) && !nnB nl.toNat (fv v)) = 0 := List.countP_eq_zero.mpr (fun v hv => by rw [nnB_t.mpr (hA' v hv)]; simp)
      rw [z, Nat.zero_add]
      exact List.countP_congr (fun v hv => by rw [nnB_f.mpr (hB' v hv)]; simp)
    have k2 := List.Perm.countP_eq (fun v => decide (wv E v = m) && !nnB nl.toNat (fv v)) pm
    rw [key, List.countP_map] at k2
    have step : ∀ v, v ∈ A ++ B → (((fun v => decide (wv E v = m) && !nnB nl.toNat (fv v)) ∘ neg4) v = true ↔ (decide (wv E v = m) && (nnB nl.toNat (fv v) && decide (m ≠ 0))) = true) := fun v hv => by
      show (decide (wv E (neg4 v) = m) && !nnB nl.toNat (fv (neg4 v))) = true ↔ _
      rw [wv_neg, show fv (neg4 v) = fun j => -fv v j from funext (fv_neg v)]
      have nx := nnX_neg (x := fv v) (n := nl.toNat)
      simp only [Bool.and_eq_true, decide_eq_true_eq, Bool.not_eq_true']
      rw [nnB_f, nx, nnB_t]
      constructor
      · exact fun ⟨a, b, c⟩ => ⟨a, b, fun m0 => c (wv_zero h1 h (mem v hv) (by omega))⟩
      · refine fun ⟨a, b, c⟩ => ⟨a, b, fun z => c ?_⟩
        rw [← a]
        obtain ⟨y, hy⟩ := vecF_tup h1 h4 (mem v hv)
        have zy : ∀ j, j < nl.toNat → y j = 0 := fun j hj => by rw [← z j hj, hy, fv_tup (by omega) hj]
        rw [hy, tupN_cg (y := fun _ => 0) (by omega) zy]
        unfold tupN wv; simp
    rw [List.countP_congr step, List.countP_append] at k2
    have z : B.countP (fun v => decide (wv E v = m) && (nnB nl.toNat (fv v) && decide (m ≠ 0))) = 0 := List.countP_eq_zero.mpr (fun v hv => by rw [nnB_f.mpr (hB' v hv)]; simp)
    rw [z, Nat.add_zero] at k2
    rw [cntL_P, cntL_P, ← k2]
    by_cases m0 : m = 0
    · rw [if_pos m0, List.countP_eq_zero.mpr (fun v _ => by simp [m0])]; rfl
    · rw [if_neg m0]
      congr 1
      exact List.countP_congr (fun v hv => by rw [nnB_t.mpr (hA' v hv)]; simp [m0])
/-- counts and firsts from the half -/
theorem hlf_cnt (h1 : 1 ≤ nl) (h : okF nl E) (ht : 0 ≤ tp ∧ tp ≤ 100) {m : Nat} (hm : (m : Int) ≤ tp) : cF nl E m = (if m = 0 then 1 else 2) * cntL E (hlf nl E tp) m ∧ fF nl E m = fstL E (hlf nl E tp) m := by
  obtain ⟨A, B, e, hl, hc⟩ := halves h1 h
  have ca : cntL E (hlf nl E tp) m = cntL E A m := by
    rw [hl tp ht]
    unfold cntL
    rw [List.filter_filter]
    congr 2
    exact List.filter_congr (fun v _ => by by_cases q : wv E v = m <;> simp [q] <;> omega)
  constructor
  · unfold cF
    rw [e, ca]
    have : cntL E (A ++ B) m = cntL E A m + cntL E B m := by
      unfold cntL; rw [List.filter_append, List.length_append]; omega
    rw [this, hc]
    by_cases m0 : m = 0
    · rw [if_pos m0, if_pos (by omega)]; omega
    · rw [if_neg m0, if_neg (by omega)]; omega
  · unfold fF
    rw [hl tp ht, e]
    unfold fstL
    rw [List.find?_append]
    have fa : (A.filter (fun v => decide (wv E v ≤ tp))).find? (fun x => decide (wv E x = (m : Int))) = A.find? (fun x => decide (wv E x = (m : Int))) := by
      rw [List.find?_filter]
      congr 1
      funext v
      by_cases q : wv E v = m <;> simp [q] <;> omega
    rw [fa]
    cases c : A.find? (fun x => decide (wv E x = (m : Int))) with
    | some v => rfl
    | none =>
      have za : cntL E A m = 0 := by
        unfold cntL
        rw [List.filter_eq_nil_iff.mpr (fun v hv => List.find?_eq_none.mp c v hv)]; rfl
      have zb : cntL E B m = 0 := by rw [hc m, za]; split <;> rfl
      rw [cntL_zero zb]; rfl
theorem hlf_mem (h1 : 1 ≤ nl) (h : okF nl E) (ht : 0 ≤ tp ∧ tp ≤ 100) {v : V4} (hv : v ∈ hlf nl E tp) : 0 ≤ wv E v ∧ wv E v ≤ tp := by
  rw [hlf_eq h1 h ht] at hv
  have := (List.mem_filter.mp hv).2
  simp only [Bool.and_eq_true, decide_eq_true_eq] at this
  exact ⟨okF_pos h1 h v, this.1⟩
end Enw
