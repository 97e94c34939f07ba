/-! WHAT AN ENUMERATION GIVES: the vectors of a box that pass -/
section Enfil
variable {e : EP} {x y : Nat → Int} {k d : Nat} {nl tp : Int} {E : Nat → Int}
def fv (v : V4) : Nat → Int := fun j => if j = 0 then v.1 else if j = 1 then v.2.1 else if j = 2 then v.2.2.1 else v.2.2.2
theorem fv_tup {n : Nat} (h4 : n ≤ 4) {j : Nat} (hj : j < n) : fv (tupN n x) j = x j := by
  rcases (show j = 0 ∨ j = 1 ∨ j = 2 ∨ j = 3 by omega) with rfl | rfl | rfl | rfl
  · rfl
  · show (if 1 < n then x 1 else 0) = x 1; rw [if_pos hj]
  · show (if 2 < n then x 2 else 0) = x 2; rw [if_pos hj]
  · show (if 3 < n then x 3 else 0) = x 3; rw [if_pos hj]
def nnX (k : Nat) (x : Nat → Int) : Prop := ∀ j, j < k → (∀ i, i < j → x i = 0) → 0 ≤ x j
def nnB (k : Nat) (x : Nat → Int) : Bool := decide (∀ j, j < k → (∀ i, i < j → x i = 0) → 0 ≤ x j)
theorem nnB_t : nnB k x = true ↔ nnX k x := by unfold nnB nnX; exact decide_eq_true_iff
theorem nnB_f : nnB k x = false ↔ ¬ nnX k x := by unfold nnB nnX; exact decide_eq_false_iff_not
theorem nnX_cg (h : ∀ j, j < k → x j = y j) : nnX k x ↔ nnX k y := by
  constructor
  · intro z j hj hi; rw [← h j hj]; exact z j hj (fun i hi2 => by rw [h i (by omega)]; exact hi i hi2)
  · intro z j hj hi; rw [h j hj]; exact z j hj (fun i hi2 => by rw [← h i (by omega)]; exact hi i hi2)
def EP.bx (e : EP) : Nat → (Nat → Int) → List V4
  | 0, x => [tupN e.n x]
  | d + 1, x => (dnF (e.mx (e.n - 1 - d)) (2 * e.mx (e.n - 1 - d) + 1).toNat).flatMap (fun t => e.bx d (upx x (e.n - 1 - d) t))
def qE (e : EP) (v : V4) : Bool := decide (e.st ≤ e.lf e.n (fv v)) && (decide (e.hf = 0) || nnB e.n (fv v))
theorem flat_cg {α β : Type} {f g : α → List β} : ∀ {l : List α}, (∀ t, t ∈ l → f t = g t) → l.flatMap f = l.flatMap g
  | [], _ => rfl
  | a :: l, h => by rw [List.flatMap_cons, List.flatMap_cons, h a (by simp), flat_cg (fun t ht => h t (by simp [ht]))]
theorem flat_perm {α β : Type} {f g : α → List β} : ∀ {l : List α}, (∀ t, t ∈ l → (f t).Perm (g t)) → (l.flatMap f).Perm (l.flatMap g)
  | [], _ => List.Perm.refl _
  | a :: l, h => by rw [List.flatMap_cons, List.flatMap_cons]; exact List.Perm.append (h a (by simp)) (flat_perm (fun t ht => h t (by simp [ht])))
theorem dnF_mem {a t : Int} : ∀ {k : Nat}, t ∈ dnF a k → a - k < t ∧ t ≤ a
  | 0, h => by simp [dnF] at h
  | k + 1, h => by
    unfold dnF at h
    rcases List.mem_append.mp h with z | z
    · have := dnF_mem z; omega
    · have : t = a - k := by simpa using z
      omega
theorem dnF_add (a : Int) (p : Nat) : ∀ q : Nat, dnF a (p + q) = dnF a p ++ dnF (a - p) q
  | 0 => by simp [dnF]
  | q + 1 => by
    rw [← Nat.add_assoc]
    show dnF a (p + q) ++ [a - ((p + q : Nat) : Int)] = dnF a p ++ (dnF (a - p) q ++ [a - p - q])
    rw [dnF_add a p q, List.append_assoc, show a - ((p + q : Nat) : Int) = a - p - q by omega]
theorem dnF_neg (a : Int) : ∀ k : Nat, (dnF a k).map (fun t => -t) = (dnF (k - 1 - a) k).reverse
  | 0 => rfl
  | k + 1 => by
    have i := dnF_neg a k
    rw [dnF_cons (((k + 1 : Nat) : Int) - 1 - a), List.reverse_cons]
    show (dnF a k ++ [a - k]).map (fun t => -t) = _
    rw [List.map_append, i, show ((k + 1 : Nat) : Int) - 1 - a - 1 = k - 1 - a by omega]
    congr 1
    show [-(a - k)] = _
    rw [show -(a - (k : Int)) = ((k + 1 : Nat) : Int) - 1 - a by omega]
theorem flat_rng {α : Type} {f g : Int → List α} {m lo hi : Int} (h0 : 0 ≤ m) (hlo : -m ≤ lo) (hhi : hi ≤ m) (hin : ∀ t, lo ≤ t → t ≤ hi → f t = g t) (hout : ∀ t, ¬ (lo ≤ t ∧ t ≤ hi) → g t = []) : (dnF hi (hi - lo + 1).toNat).flatMap f = (dnF m (2 * m + 1).toNat).flatMap g := by
  by_cases c : lo ≤ hi
  · rw [show (2 * m + 1).toNat = (m - hi).toNat + ((hi - lo + 1).toNat + (lo + m).toNat) by omega, dnF_add, dnF_add, List.flatMap_append, List.flatMap_append]
    have e1 : (dnF m (m - hi).toNat).flatMap g = [] := List.flatMap_eq_nil_iff.mpr (fun t ht => hout t (by have := dnF_mem ht; omega))
    rw [e1, show m - ((m - hi).toNat : Int) = hi by omega]
    have e2 : (dnF (hi - ((hi - lo + 1).toNat : Int)) (lo + m).toNat).flatMap g = [] := List.flatMap_eq_nil_iff.mpr (fun t ht => hout t (by have := dnF_mem ht; omega))
    rw [e2, List.append_nil, List.nil_append]
    exact flat_cg (fun t ht => by have := dnF_mem ht; exact hin t (by omega) (by omega))
  · rw [show (hi - lo + 1).toNat = 0 by omega]
    exact (List.flatMap_eq_nil_iff.mpr (fun t ht => hout t (by omega))).symm
theorem lf_back (h : e.ok) (hk : k < e.n) (hl : e.st ≤ e.lf (k + 1) x) : e.st ≤ e.lf k x := by
  have s := h.2.2.2.2.2.1 k x hk
  have b := h.2.2.2.1 k hk
  have q := sq_nn (e.sl k k * x k + e.sm k x)
  generalize e.lf k x = f at *
  generalize e.lf (k + 1) x = f1 at *
  rcases h.2.1 with z | z
  · rw [z] at hl ⊢
    have m := Int.mul_nonneg (show 0 ≤ e.sl k k by omega) hl
    by_cases c : 0 ≤ f
    · exact c
    · have := Int.mul_le_mul_of_nonneg_left (show f ≤ -1 by omega) (show 0 ≤ e.ou k by omega); omega
  · rw [z] at hl ⊢
    have m := Int.mul_le_mul (show 1 ≤ e.sl k k by omega) hl (by omega) (by omega)
    by_cases c : 1 ≤ f
    · exact c
    · have := Int.mul_le_mul_of_nonneg_left (show f ≤ 0 by omega) (show 0 ≤ e.ou k by omega); omega
theorem lf_tup (h : e.ok) : e.lf e.n (fv (tupN e.n x)) = e.lf e.n x := h.2.2.2.2.2.2.1 e.n _ _ (Nat.le_refl _) (fun _ hj => fv_tup h.1.2 hj)
theorem nnX_tup (h : e.ok) : nnX e.n (fv (tupN e.n x)) ↔ nnX e.n x := nnX_cg (fun _ hj => fv_tup h.1.2 hj)
theorem bx_dead (h : e.ok) : ∀ (d : Nat) (x : Nat → Int), d ≤ e.n → (¬ e.st ≤ e.lf (e.n - d) x ∨ (¬ e.hf = 0 ∧ ¬ nnX (e.n - d) x)) → (e.bx d x).filter (qE e) = []
  | 0, x, _, hh => by
    have : qE e (tupN e.n x) = false := by
      unfold qE
      rw [lf_tup h]
      rcases hh with z | z
      · rw [decide_eq_false (show ¬ e.st ≤ e.lf e.n x from z)]; rfl
      · rw [nnB_f.mpr (fun w => z.2 ((nnX_tup h).mp w)), decide_eq_false z.1]; simp
    show List.filter (qE e) [tupN e.n x] = []
    simp [this]
  | d + 1, x, hd, hh => by
    unfold EP.bx
    rw [List.filter_flatMap]
    refine List.flatMap_eq_nil_iff.mpr (fun t _ => bx_dead h d _ (by omega) ?_)
    have ek : e.n - d = (e.n - 1 - d) + 1 := by omega
    have ek2 : e.n - (d + 1) = e.n - 1 - d := by omega
    rw [ek2] at hh
    rw [ek]
    have cg : ∀ j, j < e.n - 1 - d → upx x (e.n - 1 - d) t j = x j := fun j hj => upx_ne (by omega)
    rcases hh with z | z
    · refine Or.inl (fun w => z ?_)
      have := lf_back h (k := e.n - 1 - d) (by omega) w
      rw [h.2.2.2.2.2.2.1 (e.n - 1 - d) _ x (by omega) cg] at this; exact this
    · exact Or.inr ⟨z.1, fun w => z.2 ((nnX_cg cg).mp (fun j hj hi => w j (by omega) hi))⟩
theorem smS_zero {sl : Nat → Nat → Int} : ∀ j : Nat, (∀ i, i < j → x i = 0) → smS sl x k j = 0
  | 0, _ => rfl
  | j + 1, h => by unfold smS; rw [smS_zero j (fun i hi => h i (by omega)), h j (by omega)]; simp
theorem en_fil (h : e.ok) : ∀ (d : Nat) (x : Nat → Int), d ≤ e.n → e.st ≤ e.lf (e.n - d) x → (e.hf = 0 ∨ nnX (e.n - d) x) → e.en d x = (e.bx d x).filter (qE e)
  | 0, x, _, hl, hn => by
    have : qE e (tupN e.n x) = true := by
      unfold qE
      rw [lf_tup h, decide_eq_true (show e.st ≤ e.lf e.n x from hl)]
      rcases hn with z | z
      · rw [decide_eq_true z]; rfl
      · rw [nnB_t.mpr ((nnX_tup h).mpr z)]; simp
    show [tupN e.n x] = List.filter (qE e) [tupN e.n x]
    simp [this]
  | d + 1, x, hd, hl, hn => by
    have ek : e.n - d = (e.n - 1 - d) + 1 := by omega
    have ek2 : e.n - (d + 1) = e.n - 1 - d := by omega
    rw [ek2] at hl hn
    unfold EP.en EP.bx
    rw [List.filter_flatMap]
    have hk : e.n - 1 - d < e.n := by omega
    have b := lv_bd h hk hl
    have m0 := (h.2.2.2.1 _ hk).2.2.1
    have s0 := (h.2.2.2.1 _ hk).1
    have cg : ∀ t j, j < e.n - 1 - d → upx x (e.n - 1 - d) t j = x j := fun t j hj => upx_ne (by omega)
    have hlo : ∀ t, e.lo (e.n - 1 - d) x ≤ t → -((e.rt (e.n - 1 - d) x + e.sm (e.n - 1 - d) x) / e.sl (e.n - 1 - d) (e.n - 1 - d)) ≤ t := by
      intro t ht
      unfold EP.lo at ht
      split at ht
      · rename_i c
        have : e.sm (e.n - 1 - d) x = 0 := smS_zero _ c.2
        rw [this]
        have q : 0 ≤ (e.rt (e.n - 1 - d) x + 0) / e.sl (e.n - 1 - d) (e.n - 1 - d) := Int.ediv_nonneg (by omega) (by omega)
        omega
      · exact ht
    refine flat_rng m0 b.2.2.2.2.1 b.2.2.2.1.2 (fun t t1 t2 => ?_) (fun t tn => ?_)
    · refine en_fil h d _ (by omega) ?_ ?_
      · rw [ek]; exact (lv_in h hk hl t).mp ⟨hlo t t1, t2⟩
      · rcases h.2.2.1 with z0 | z1
        · exact Or.inl z0
        · have z : nnX (e.n - 1 - d) x := by rcases hn with w | w; (omega); (exact w)
          refine Or.inr ?_
          rw [ek]
          intro j hj hi
          by_cases ej : j = e.n - 1 - d
          · subst ej
            rw [upx_eq]
            unfold EP.lo at t1
            rw [if_pos ⟨z1, fun j hj => by rw [← cg t j hj]; exact hi j hj⟩] at t1; exact t1
          · rw [cg t j (by omega)]
            exact z j (by omega) (fun i hi2 => by rw [← cg t i (by omega)]; exact hi i hi2)
    · refine bx_dead h d _ (by omega) ?_
      rw [ek]
      by_cases c : e.st ≤ e.lf (e.n - 1 - d + 1) (upx x (e.n - 1 - d) t)
      · have i := (lv_in h hk hl t).mpr c
        unfold EP.lo at tn
        split at tn
        · rename_i cc
          refine Or.inr ⟨by omega, fun w => ?_⟩
          have := w (e.n - 1 - d) (by omega) (fun i hi => by rw [cg t i hi]; exact cc.2 i hi)
          rw [upx_eq] at this
          omega
        · exact absurd i tn
      · exact Or.inl c
/-- the mirrored box -/
def neg4 (v : V4) : V4 := (-v.1, -v.2.1, -v.2.2.1, -v.2.2.2)
theorem neg4_tup (n : Nat) (x : Nat → Int) : neg4 (tupN n x) = tupN n (fun j => -x j) := by
  unfold neg4 tupN
  refine Prod.ext rfl (Prod.ext ?_ (Prod.ext ?_ ?_))
  · show -(if 1 < n then x 1 else 0) = if 1 < n then -x 1 else 0; split <;> simp
  · show -(if 2 < n then x 2 else 0) = if 2 < n then -x 2 else 0; split <;> simp
  · show -(if 3 < n then x 3 else 0) = if 3 < n then -x 3 else 0; split <;> simp
theorem fv_neg (v : V4) (j : Nat) : fv (neg4 v) j = -fv v j := by
  unfold fv neg4; split
  · rfl
  · split
    · rfl
    · split <;> rfl
theorem wv_neg (E : Nat → Int) (v : V4) : wv E (neg4 v) = wv E v := by
  unfold wv neg4; grind
theorem bx_neg (h : e.ok) : ∀ (d : Nat) (x y : Nat → Int), d ≤ e.n → (∀ j, y j = -x j) → ((e.bx d x).map neg4).Perm (e.bx d y)
  | 0, x, y, _, hy => by
    show List.Perm [neg4 (tupN e.n x)] [tupN e.n y]
    rw [neg4_tup, show (fun j => -x j) = y from funext (fun j => (hy j).symm)]
  | d + 1, x, y, hd, hy => by
    unfold EP.bx
    rw [List.map_flatMap]
    have m0 := (h.2.2.2.1 (e.n - 1 - d) (by omega)).2.2.1
    generalize hm : e.mx (e.n - 1 - d) = m at *
    refine List.Perm.trans (flat_perm (g := fun t => e.bx d (upx y (e.n - 1 - d) (-t))) (fun t _ => bx_neg h d _ _ (by omega) (fun j => ?_))) ?_
    · unfold upx; split
      · rfl
      · exact hy j
    · rw [← List.flatMap_map (fun t : Int => -t) (fun t => e.bx d (upx y (e.n - 1 - d) t)), dnF_neg, show (((2 * m + 1).toNat : Nat) : Int) - 1 - m = m by omega]
      exact List.Perm.flatMap_right _ (List.reverse_perm _)
theorem bx_mem (h : e.ok) {v : V4} : ∀ (d : Nat) (x : Nat → Int), d ≤ e.n → v ∈ e.bx d x → ∀ j, j < e.n - d → fv v j = x j
  | 0, x, _, hv, j, hj => by
    have : v = tupN e.n x := by simpa [EP.bx] using hv
    rw [this]; exact fv_tup h.1.2 (by omega)
  | d + 1, x, hd, hv, j, hj => by
    unfold EP.bx at hv
    obtain ⟨t, _, ht⟩ := List.mem_flatMap.mp hv
    rw [bx_mem h d _ (by omega) ht j (by omega), upx_ne (by omega)]
/-- first those above 0, then those below -/
theorem bx_pre (h : e.ok) : ∀ (d : Nat) (x : Nat → Int), d ≤ e.n → (∀ j, j < e.n - d → x j = 0) → ∃ A B : List V4, e.bx d x = A ++ B ∧ (∀ v, v ∈ A → nnX e.n (fv v)) ∧ ∀ v, v ∈ B → ¬ nnX e.n (fv v)
  | 0, x, _, hx => ⟨[tupN e.n x], [], rfl, fun v hv => by
      have : v = tupN e.n x := by simpa using hv
      rw [this]; refine (nnX_tup h).mpr (fun j hj _ => by rw [hx j (by omega)]; exact Int.le_refl 0), fun v hv => absurd hv (by simp)⟩
  | d + 1, x, hd, hx => by
    have hk : e.n - 1 - d < e.n := by omega
    have ek : e.n - d = (e.n - 1 - d) + 1 := by omega
    have m0 := (h.2.2.2.1 (e.n - 1 - d) hk).2.2.1
    obtain ⟨A, B, hAB, hA, hB⟩ := bx_pre h d (upx x (e.n - 1 - d) 0) (by omega) (fun j hj => by
      by_cases ej : j = e.n - 1 - d
      · subst ej; exact upx_eq _ _ _
      · rw [upx_ne ej]; exact hx j (by omega))
    have cell : ∀ t v, v ∈ e.bx d (upx x (e.n - 1 - d) t) → (∀ j, j < e.n - 1 - d → fv v j = 0) ∧ fv v (e.n - 1 - d) = t := fun t v hv =>
      ⟨fun j hj => by rw [bx_mem h d _ (by omega) hv j (by omega), upx_ne (by omega)]; exact hx j (by omega), by rw [bx_mem h d _ (by omega) hv _ (by omega), upx_eq]⟩
    refine ⟨(dnF (e.mx (e.n - 1 - d)) (e.mx (e.n - 1 - d)).toNat).flatMap (fun t => e.bx d (upx x (e.n - 1 - d) t)) ++ A, B ++ (dnF (-1) (e.mx (e.n - 1 - d)).toNat).flatMap (fun t => e.bx d (upx x (e.n - 1 - d) t)), ?_, ?_, ?_⟩
    · rw [show e.bx (d + 1) x = (dnF (e.mx (e.n - 1 - d)) (2 * e.mx (e.n - 1 - d) + 1).toNat).flatMap (fun t => e.bx d (upx x (e.n - 1 - d) t)) from rfl]
      rw [show (2 * e.mx (e.n - 1 - d) + 1).toNat = (e.mx (e.n - 1 - d)).toNat + ((e.mx (e.n - 1 - d)).toNat + 1) by omega, dnF_add, dnF_cons, List.flatMap_append, List.flatMap_cons]
      rw [show e.mx (e.n - 1 - d) - ((e.mx (e.n - 1 - d)).toNat : Int) = 0 by omega, hAB, show (0 : Int) - 1 = -1 from rfl]
      simp only [List.append_assoc]
    · intro v hv
      rcases List.mem_append.mp hv with z | z
      · obtain ⟨t, ht, hv⟩ := List.mem_flatMap.mp z
        have r := dnF_mem ht
        have c := cell t v hv
        intro j hj hi
        rcases (show j < e.n - 1 - d ∨ j = e.n - 1 - d ∨ e.n - 1 - d < j by omega) with q | q | q
        · rw [c.1 j q]; exact Int.le_refl 0
        · rw [q, c.2]; omega
        · have := hi _ q; rw [c.2] at this; omega
      · exact hA v z
    · intro v hv
      rcases List.mem_append.mp hv with z | z
      · exact hB v z
      · obtain ⟨t, ht, hv⟩ := List.mem_flatMap.mp z
        have r := dnF_mem ht
        have c := cell t v hv
        intro w
        have := w _ hk c.1
        rw [c.2] at this; omega
theorem fst_nz : ∀ n : Nat, (∀ j, j < n → x j = 0) ∨ ∃ j, j < n ∧ x j ≠ 0 ∧ ∀ i, i < j → x i = 0
  | 0 => Or.inl (fun j hj => absurd hj (by omega))
  | n + 1 => by
    rcases fst_nz n with z | ⟨j, a, b, c⟩
    · by_cases q : x n = 0
      · exact Or.inl (fun j hj => by by_cases ej : j = n; (rw [ej]; exact q); (exact z j (by omega)))
      · exact Or.inr ⟨n, by omega, q, z⟩
    · exact Or.inr ⟨j, by omega, b, c⟩
theorem nnX_neg {n : Nat} : ¬ nnX n (fun j => -x j) ↔ (nnX n x ∧ ¬ ∀ j, j < n → x j = 0) := by
  constructor
  · intro w
    rcases fst_nz (x := x) n with z | ⟨j, a, b, c⟩
    · exact absurd (fun j hj _ => by show 0 ≤ -x j; rw [z j hj]; exact Int.le_refl 0) w
    · refine ⟨?_, fun q => b (q j a)⟩
      intro i hi hz
      rcases (show i < j ∨ i = j ∨ j < i by omega) with q | q | q
      · rw [c i q]; exact Int.le_refl 0
      · subst q
        by_cases p : 0 ≤ x i
        · exact p
        · exfalso; apply w
          intro i2 hi2 hz2
          show 0 ≤ -x i2
          rcases (show i2 < i ∨ i2 = i ∨ i < i2 by omega) with q | q | q
          · rw [c i2 q]; exact Int.le_refl 0
          · rw [q]; omega
          · have : -x i = 0 := hz2 i q
            omega
      · exact absurd (hz j q) b
  · intro ⟨a, b⟩ w
    rcases fst_nz (x := x) n with z | ⟨j, p, q, c⟩
    · exact b z
    · have w1 := a j p c
      have w2 : 0 ≤ -x j := w j p (fun i hi => by show -x i = 0; rw [c i hi]; rfl)
      omega
/-- nothing left: nothing but 0 -/
theorem lf_zero (h : e.ok) (hs : e.st = 0) (h0 : e.lf 0 x = 0) : ∀ k : Nat, k ≤ e.n → 0 ≤ e.lf k x → e.lf k x = 0 ∧ ∀ j, j < k → x j = 0
  | 0, _, _ => ⟨h0, fun j hj => absurd hj (by omega)⟩
  | k + 1, hk, hl => by
    have bk := lf_back h (k := k) (x := x) (by omega) (by rw [hs]; exact hl)
    rw [hs] at bk
    obtain ⟨i1, i2⟩ := lf_zero h hs h0 k (by omega) bk
    have s := h.2.2.2.2.2.1 k x (by omega)
    have b := (h.2.2.2.1 k (by omega)).1
    have sm : e.sm k x = 0 := smS_zero k i2
    rw [i1, sm, Int.add_zero, Int.mul_zero] at s
    have q := sq_nn (e.sl k k * x k)
    have m := Int.mul_nonneg (show 0 ≤ e.sl k k by omega) hl
    have z1 : e.sl k k * x k * (e.sl k k * x k) = 0 := by omega
    have z2 : e.sl k k * x k = 0 := by
      rcases Int.mul_eq_zero.mp z1 with z | z <;> exact z
    have z3 : x k = 0 := by
      rcases Int.mul_eq_zero.mp z2 with z | z
      · omega
      · exact z
    have z4 : e.lf (k + 1) x = 0 := by
      rcases Int.mul_eq_zero.mp (show e.sl k k * e.lf (k + 1) x = 0 by omega) with z | z
      · omega
      · exact z
    exact ⟨z4, fun j hj => by by_cases ej : j = k; (rw [ej]; exact z3); (exact i2 j (by omega))⟩
end Enfil
