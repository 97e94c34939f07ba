/-! WORTHS: how often a number is one, by which vector first; the vectors of the box in turn -/
abbrev V4 : Type := Int × Int × Int × Int
def wv (E : Nat → Int) (x : V4) : Int := E 0 * x.1 * x.1 + E 5 * x.2.1 * x.2.1 + E 10 * x.2.2.1 * x.2.2.1 + (2 * E 1 * x.1 * x.2.1 + 2 * E 2 * x.1 * x.2.2.1 + 2 * E 6 * x.2.1 * x.2.2.1) + (2 * E 3 * x.1 + 2 * E 7 * x.2.1 + 2 * E 11 * x.2.2.1) * x.2.2.2 + E 15 * x.2.2.2 * x.2.2.2
def cntL (E : Nat → Int) (L : List V4) (v : Int) : Int := ((L.filter (fun x => decide (wv E x = v))).length : Int)
def fstL (E : Nat → Int) (L : List V4) (v : Int) : V4 := (L.find? (fun x => decide (wv E x = v))).getD (0, 0, 0, 0)
def CntOK (E : Nat → Int) (L : List V4) (J : Nat → Nat → Int) : Prop := ∀ v : Nat, v ≤ 100 → J 52 v = cntL E L v ∧ (0 < cntL E L v → (J 54 (4 * v), J 54 (4 * v + 1), J 54 (4 * v + 2), J 54 (4 * v + 3)) = fstL E L v)
theorem cntL_bd (E : Nat → Int) (L : List V4) (v : Int) : 0 ≤ cntL E L v ∧ cntL E L v ≤ L.length := by
  unfold cntL
  have := List.length_filter_le (fun x => decide (wv E x = v)) L
  omega
theorem cntL_app (E : Nat → Int) (L : List V4) (x : V4) (v : Int) : cntL E (L ++ [x]) v = cntL E L v + (if wv E x = v then 1 else 0) := by
  unfold cntL
  rw [List.filter_append, List.length_append]
  by_cases h : wv E x = v
  · simp [h]
  · simp [h]
theorem cntL_zero {E : Nat → Int} {L : List V4} {v : Int} (h : cntL E L v = 0) : L.find? (fun x => decide (wv E x = v)) = none := by
  unfold cntL at h
  have h1 : L.filter (fun x => decide (wv E x = v)) = [] := List.eq_nil_of_length_eq_zero (by omega)
  rw [List.find?_eq_none]
  intro x hx hp
  have : x ∈ L.filter (fun x => decide (wv E x = v)) := List.mem_filter.mpr ⟨hx, hp⟩
  rw [h1] at this
  cases this
theorem fstL_app_old {E : Nat → Int} {L : List V4} {x : V4} {v : Int} (h : 0 < cntL E L v) : fstL E (L ++ [x]) v = fstL E L v := by
  unfold fstL
  rw [List.find?_append]
  cases hf : L.find? (fun x => decide (wv E x = v)) with
  | some y => rfl
  | none =>
    exfalso
    unfold cntL at h
    have h1 : L.filter (fun x => decide (wv E x = v)) = [] := by
      rw [List.filter_eq_nil_iff]
      exact fun a ha hp => by rw [List.find?_eq_none] at hf; exact hf a ha hp
    rw [h1] at h
    simp at h
theorem fstL_app_new {E : Nat → Int} {L : List V4} {x : V4} (h : cntL E L (wv E x) = 0) : fstL E (L ++ [x]) (wv E x) = x := by
  unfold fstL
  rw [List.find?_append, cntL_zero h]
  simp
/-- a vector whose worth is at most 100 is seen -/
theorem CntOK_see {E : Nat → Int} {L : List V4} {J J' : Nat → Nat → Int} {x : V4} (h : CntOK E L J) (hv : 0 ≤ wv E x ∧ wv E x ≤ 100) (h1 : J' 52 = (fun q => if q = (wv E x).toNat then J 52 q + 1 else J 52 q)) (h2 : J 52 (wv E x).toNat ≠ 0 → J' 54 = J 54)
    (h3 : J 52 (wv E x).toNat = 0 → J' 54 = (fun q => if q = 4 * (wv E x).toNat + 3 then x.2.2.2 else if q = 4 * (wv E x).toNat + 2 then x.2.2.1 else if q = 4 * (wv E x).toNat + 1 then x.2.1 else if q = 4 * (wv E x).toNat then x.1 else J 54 q)) : CntOK E (L ++ [x]) J' := by
  intro v hvv
  have h0 := h v hvv
  rw [h1, cntL_app]
  dsimp only
  by_cases hx : wv E x = v
  · have e1 : v = (wv E x).toNat := by omega
    rw [if_pos e1, if_pos hx]
    refine ⟨by rw [h0.1], fun _ => ?_⟩
    by_cases hz : J 52 (wv E x).toNat = 0
    · have hc : cntL E L (wv E x) = 0 := by rw [hx, ← h0.1, e1]; exact hz
      have hF : fstL E (L ++ [x]) (v : Int) = x := by rw [← hx]; exact fstL_app_new hc
      rw [hF, h3 hz]
      dsimp only
      rw [← e1]
      rw [if_neg (by omega), if_neg (by omega), if_neg (by omega), if_pos rfl, if_neg (by omega), if_neg (by omega), if_pos rfl, if_neg (by omega), if_pos rfl, if_pos rfl]
    · have hc : 0 < cntL E L v := by have := cntL_bd E L v; rw [← e1, h0.1] at hz; omega
      rw [h2 hz, fstL_app_old hc]
      exact h0.2 hc
  · have e1 : v ≠ (wv E x).toNat := by omega
    rw [if_neg e1, if_neg hx, Int.add_zero]
    refine ⟨h0.1, fun hc => ?_⟩
    rw [fstL_app_old hc]
    by_cases hz : J 52 (wv E x).toNat = 0
    · rw [h3 hz]
      dsimp only
      rw [if_neg (by omega), if_neg (by omega), if_neg (by omega), if_neg (by omega), if_neg (by omega), if_neg (by omega), if_neg (by omega), if_neg (by omega), if_neg (by omega), if_neg (by omega), if_neg (by omega), if_neg (by omega), if_neg (by omega), if_neg (by omega), if_neg (by omega), if_neg (by omega)]
      exact h0.2 hc
    · rw [h2 hz]; exact h0.2 hc
theorem CntOK_skip {E : Nat → Int} {L : List V4} {J : Nat → Nat → Int} {x : V4} (h : CntOK E L J) (hv : 100 < wv E x) : CntOK E (L ++ [x]) J := by
  intro v hvv
  have h0 := h v hvv
  rw [cntL_app, if_neg (by omega), Int.add_zero]
  exact ⟨h0.1, fun hc => by rw [fstL_app_old hc]; exact h0.2 hc⟩
/-- from a down, k numbers -/
def dnF (a : Int) : Nat → List Int
  | 0 => []
  | k + 1 => dnF a k ++ [a - k]
theorem dnF_len (a : Int) : ∀ k, (dnF a k).length = k
  | 0 => rfl
  | k + 1 => by unfold dnF; rw [List.length_append, dnF_len a k]; rfl
def vec3 (x0 x1 x2 m3 : Int) (k : Nat) : List V4 := (dnF m3 k).map (fun t => (x0, x1, x2, t))
def vec2 (x0 x1 m2 m3 : Int) (k : Nat) : List V4 := (dnF m2 k).flatMap (fun t => vec3 x0 x1 t m3 (2 * m3 + 1).toNat)
def vec1 (x0 m1 m2 m3 : Int) (k : Nat) : List V4 := (dnF m1 k).flatMap (fun t => vec2 x0 t m2 m3 (2 * m2 + 1).toNat)
def vec0 (m0 m1 m2 m3 : Int) (k : Nat) : List V4 := (dnF m0 k).flatMap (fun t => vec1 t m1 m2 m3 (2 * m1 + 1).toNat)
theorem vec3_succ (x0 x1 x2 m3 : Int) (k : Nat) : vec3 x0 x1 x2 m3 (k + 1) = vec3 x0 x1 x2 m3 k ++ [(x0, x1, x2, m3 - k)] := by unfold vec3; rw [dnF, List.map_append]; rfl
theorem vec2_succ (x0 x1 m2 m3 : Int) (k : Nat) : vec2 x0 x1 m2 m3 (k + 1) = vec2 x0 x1 m2 m3 k ++ vec3 x0 x1 (m2 - k) m3 (2 * m3 + 1).toNat := by unfold vec2; rw [dnF, List.flatMap_append]; simp
theorem vec1_succ (x0 m1 m2 m3 : Int) (k : Nat) : vec1 x0 m1 m2 m3 (k + 1) = vec1 x0 m1 m2 m3 k ++ vec2 x0 (m1 - k) m2 m3 (2 * m2 + 1).toNat := by unfold vec1; rw [dnF, List.flatMap_append]; simp
theorem vec0_succ (m0 m1 m2 m3 : Int) (k : Nat) : vec0 m0 m1 m2 m3 (k + 1) = vec0 m0 m1 m2 m3 k ++ vec1 (m0 - k) m1 m2 m3 (2 * m1 + 1).toNat := by unfold vec0; rw [dnF, List.flatMap_append]; simp
theorem vec3_len (x0 x1 x2 m3 : Int) (k : Nat) : (vec3 x0 x1 x2 m3 k).length = k := by unfold vec3; rw [List.length_map, dnF_len]
theorem vec2_len (x0 x1 m2 m3 : Int) : ∀ k, (vec2 x0 x1 m2 m3 k).length = k * (2 * m3 + 1).toNat
  | 0 => by simp [vec2, dnF]
  | k + 1 => by rw [vec2_succ, List.length_append, vec2_len x0 x1 m2 m3 k, vec3_len, Nat.succ_mul]
theorem vec1_len (x0 m1 m2 m3 : Int) : ∀ k, (vec1 x0 m1 m2 m3 k).length = k * ((2 * m2 + 1).toNat * (2 * m3 + 1).toNat)
  | 0 => by simp [vec1, dnF]
  | k + 1 => by rw [vec1_succ, List.length_append, vec1_len x0 m1 m2 m3 k, vec2_len, Nat.succ_mul]
theorem vec0_len (m0 m1 m2 m3 : Int) : ∀ k, (vec0 m0 m1 m2 m3 k).length = k * ((2 * m1 + 1).toNat * ((2 * m2 + 1).toNat * (2 * m3 + 1).toNat))
  | 0 => by simp [vec0, dnF]
  | k + 1 => by rw [vec0_succ, List.length_append, vec0_len m0 m1 m2 m3 k, vec1_len, Nat.succ_mul]
theorem wv_rL {E : Nat → Int} {x : V4} (hE : entS E) (h0 : -2097152 ≤ x.1 ∧ x.1 ≤ 2097152) (h1 : -2097152 ≤ x.2.1 ∧ x.2.1 ≤ 2097152) (h2 : -2097152 ≤ x.2.2.1 ∧ x.2.2.1 ≤ 2097152) (h3 : -2097152 ≤ x.2.2.2 ∧ x.2.2.2 ≤ 2097152) : rL (wv E x) := by
  have key : ∀ (e a b : Int), (-198 ≤ e ∧ e ≤ 198) → (-2097152 ≤ a ∧ a ≤ 2097152) → (-2097152 ≤ b ∧ b ≤ 2097152) → -870813209198592 ≤ e * a * b ∧ e * a * b ≤ 870813209198592 := by
    intro e a b he ha hb
    have m1 := mul_bd (a := e) (b := a) (A := 198) (B := 2097152) he.1 he.2 ha.1 ha.2
    exact mul_bd (a := e * a) (b := b) (A := 415236096) (B := 2097152) (by omega) (by omega) hb.1 hb.2
  have q0 := hE 0 (by omega)
  have q1 := hE 1 (by omega)
  have q2 := hE 2 (by omega)
  have q3 := hE 3 (by omega)
  have q5 := hE 5 (by omega)
  have q6 := hE 6 (by omega)
  have q7 := hE 7 (by omega)
  have q10 := hE 10 (by omega)
  have q11 := hE 11 (by omega)
  have q15 := hE 15 (by omega)
  have a1 := key (E 0) x.1 x.1 (by omega) h0 h0
  have a2 := key (E 5) x.2.1 x.2.1 (by omega) h1 h1
  have a3 := key (E 10) x.2.2.1 x.2.2.1 (by omega) h2 h2
  have a4 := key (2 * E 1) x.1 x.2.1 (by omega) h0 h1
  have a5 := key (2 * E 2) x.1 x.2.2.1 (by omega) h0 h2
  have a6 := key (2 * E 6) x.2.1 x.2.2.1 (by omega) h1 h2
  have a7 := key (2 * E 3) x.1 x.2.2.2 (by omega) h0 h3
  have a8 := key (2 * E 7) x.2.1 x.2.2.2 (by omega) h1 h3
  have a9 := key (2 * E 11) x.2.2.1 x.2.2.2 (by omega) h2 h3
  have a10 := key (E 15) x.2.2.2 x.2.2.2 (by omega) h3 h3
  have e : (2 * E 3 * x.1 + 2 * E 7 * x.2.1 + 2 * E 11 * x.2.2.1) * x.2.2.2 = 2 * E 3 * x.1 * x.2.2.2 + 2 * E 7 * x.2.1 * x.2.2.2 + 2 * E 11 * x.2.2.1 * x.2.2.2 := by rw [Int.add_mul, Int.add_mul]
  unfold wv
  rw [e]
  omega
