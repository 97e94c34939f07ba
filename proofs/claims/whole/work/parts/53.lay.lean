/-- what heights, leaves, directs are ahead of node k -/
def HI (nd : Int) (un : Nat → Int) (k : Int) (A B C : Nat → Int) : Prop :=
  (∀ q : Nat, (q : Int) < nd → A q = htS nd un (nd - 1 - k).toNat q) ∧ (∀ q : Nat, (q : Int) < nd → C q + dirF un q (k + 1).toNat = dirF un q nd.toNat) ∧ (∀ q : Nat, (q : Int) ≤ k → B q = cnt (plf nd un k q) nd.toNat - cnt (plf nd un k q) (k + 1).toNat) ∧ (∀ q : Nat, k < (q : Int) → (q : Int) < nd → B q = lvC nd un q)
section HI
variable {nd k : Int} {un A B C A' B' C' : Nat → Int}
theorem dirF_own (hU : okU nd un) (hk : 0 ≤ k ∧ k < nd) : dirF un k (k + 1).toNat = 0 := by
  unfold dirF
  refine cnt_none (fun i hi => ?_)
  by_cases e : i = 0
  · subst e; have := hU.2.2.1 (by omega); simp [this]; omega
  · have := hU.2.2.2 i (by omega) (by omega); simp; omega
theorem HI_own (hU : okU nd un) (hk : 0 ≤ k ∧ k < nd) (h : HI nd un k A B C) : B k.toNat + (if C k.toNat = 0 then 1 else 0) = lvC nd un k := by
  have h2 := h.2.1 k.toNat (by omega)
  have h3 := h.2.2.1 k.toNat (by omega)
  rw [Int.toNat_of_nonneg hk.1] at h2 h3
  have h0 := dirF_own hU hk
  have e1 : (k + 1).toNat = k.toNat + 1 := by omega
  rw [h3, e1, show cnt (plf nd un k k) (k.toNat + 1) = cnt (plf nd un k k) k.toNat + (if plf nd un k k k.toNat then 1 else 0) from rfl]
  have z : cnt (plf nd un k k) k.toNat = 0 := cnt_none (fun i hi => by unfold plf; rw [climb_stop (by omega)]; simp; omega)
  rw [z]
  have pe : plf nd un k k k.toNat = decide (C k.toNat = 0) := by
    unfold plf
    rw [Int.toNat_of_nonneg hk.1, climb_stop (Int.le_refl _), ← h2, h0]
    simp
  rw [pe]
  unfold lvC
  by_cases hc : C k.toNat = 0 <;> simp [hc]
theorem HI_zero (hU : okU nd un) (hn : 0 < nd) (h : HI nd un 0 A B C) (hB : ∀ q, B' q = if q = 0 then lvC nd un 0 else B q) : HI nd un (0 + -1) A B' C := by
  refine ⟨fun q hq => ?_, fun q hq => ?_, fun q hq => by omega, fun q h1 h2 => ?_⟩
  · rw [h.1 q hq, show (nd - 1 - (0 + -1)).toNat = (nd - 1 - 0).toNat + 1 by omega]
    have e : htS nd un ((nd - 1 - 0).toNat + 1) q = if 0 < nd - 1 - (((nd - 1 - 0).toNat : Nat) : Int) ∧ (q : Int) = un (nd - 1 - (((nd - 1 - 0).toNat : Nat) : Int)).toNat ∧ htS nd un (nd - 1 - 0).toNat q < htS nd un (nd - 1 - 0).toNat (nd - 1 - (((nd - 1 - 0).toNat : Nat) : Int)).toNat + 1 then htS nd un (nd - 1 - 0).toNat (nd - 1 - (((nd - 1 - 0).toNat : Nat) : Int)).toNat + 1 else htS nd un (nd - 1 - 0).toNat q := rfl
    rw [e, if_neg (by omega)]
  · have h1 := h.2.1 q hq
    rw [show ((0 : Int) + 1).toNat = 0 + 1 from rfl] at h1
    rw [show ((0 : Int) + -1 + 1).toNat = 0 from rfl]
    have h0 := hU.2.2.1 hn
    have e : dirF un q (0 + 1) = dirF un q 0 + (if decide (un 0 = (q : Int)) then 1 else 0) := rfl
    rw [e, h0] at h1
    have : decide ((-2 : Int) = (q : Int)) = false := decide_eq_false (by omega)
    rw [this] at h1
    simp at h1
    exact h1
  · rw [hB]
    by_cases e : q = 0
    · subst e; rw [if_pos rfl]; rfl
    · rw [if_neg e]; exact h.2.2.2 q (by omega) h2
theorem HI_step (hU : okU nd un) (hk : 0 < k ∧ k < nd) (h : HI nd un k A B C) {u : Int} (hu : u = un k.toNat)
    (hA : ∀ q, A' q = if q = u.toNat then (if A u.toNat < A k.toNat + 1 then A k.toNat + 1 else A u.toNat) else A q)
    (hB : ∀ q, B' q = if q = u.toNat then B u.toNat + lvC nd un k else if q = k.toNat then lvC nd un k else B q)
    (hC : ∀ q, C' q = if q = u.toNat then C u.toNat + 1 else C q) : HI nd un (k + -1) A' B' C' := by
  have hun := hU.2.2.2 k.toNat (by omega) (by omega)
  have ek : (k + 1).toNat = k.toNat + 1 := by omega
  have ek2 : (k + -1 + 1).toNat = k.toNat := by omega
  refine ⟨fun q hq => ?_, fun q hq => ?_, fun q hq => ?_, fun q h1 h2 => ?_⟩
  · rw [hA, show (nd - 1 - (k + -1)).toNat = (nd - 1 - k).toNat + 1 by omega]
    have e : htS nd un ((nd - 1 - k).toNat + 1) q = if 0 < nd - 1 - (((nd - 1 - k).toNat : Nat) : Int) ∧ (q : Int) = un (nd - 1 - (((nd - 1 - k).toNat : Nat) : Int)).toNat ∧ htS nd un (nd - 1 - k).toNat q < htS nd un (nd - 1 - k).toNat (nd - 1 - (((nd - 1 - k).toNat : Nat) : Int)).toNat + 1 then htS nd un (nd - 1 - k).toNat (nd - 1 - (((nd - 1 - k).toNat : Nat) : Int)).toNat + 1 else htS nd un (nd - 1 - k).toNat q := rfl
    rw [e, show nd - 1 - (((nd - 1 - k).toNat : Nat) : Int) = k by omega, ← h.1 q hq, ← h.1 k.toNat (by omega), ← hu]
    by_cases e2 : q = u.toNat
    · rw [if_pos e2, ← e2]
      by_cases e3 : A q < A k.toNat + 1
      · rw [if_pos e3, if_pos ⟨hk.1, by omega, e3⟩]
      · rw [if_neg e3, if_neg (fun z => e3 z.2.2)]
    · rw [if_neg e2, if_neg (by omega)]
  · have h1 := h.2.1 q hq
    rw [hC, ek2]
    rw [ek, show dirF un q (k.toNat + 1) = dirF un q k.toNat + (if decide (un k.toNat = (q : Int)) then 1 else 0) from rfl] at h1
    by_cases e2 : q = u.toNat
    · rw [if_pos e2, ← e2]
      rw [decide_eq_true (by omega)] at h1
      simp at h1
      omega
    · rw [if_neg e2]
      rw [decide_eq_false (by omega)] at h1
      simp at h1
      exact h1
  · have h1 := h.2.2.1 q (by omega)
    have key := cnt_from (p := plf nd un (k + -1) q) (q := plf nd un k q) (r := plf nd un k k) (c := decide (un k.toNat = (q : Int))) (a := k.toNat) (k := nd.toNat) (by omega) (fun i i1 i2 => by
      have hp := climb_pred hU hk.1 hk.2 i (i : Int) (by omega) (by omega) (by omega)
      rw [show k - 1 = k + -1 by omega] at hp
      unfold plf
      rw [hp]
      by_cases hl : dirF un i nd.toNat = 0
      · rw [decide_eq_true hl]
        simp only [Bool.true_and]
        by_cases hc : climb 30 un k i = k
        · rw [if_pos hc, hc, decide_eq_false (show ¬ k = (q : Int) by omega), decide_eq_true (show k = k from rfl)]
          by_cases hq2 : un k.toNat = (q : Int) <;> simp [hq2]
        · rw [if_neg hc, decide_eq_false hc]
          by_cases hq2 : un k.toNat = (q : Int) <;> simp [hq2]
      · rw [decide_eq_false hl]; simp)
    rw [ek2, key, hB]
    have e3 : cnt (plf nd un k q) (k + 1).toNat = cnt (plf nd un k q) k.toNat := by
      rw [ek]
      show cnt (plf nd un k q) k.toNat + (if plf nd un k q k.toNat then 1 else 0) = _
      have : plf nd un k q k.toNat = false := by
        unfold plf; rw [Int.toNat_of_nonneg (by omega), climb_stop (Int.le_refl _), decide_eq_false (show ¬ k = (q : Int) by omega), Bool.and_false]
      rw [this]; simp
    have e4 : cnt (plf nd un k k) k.toNat = 0 := cnt_none (fun i hi => by unfold plf; rw [climb_stop (by omega)]; simp; omega)
    rw [e3] at h1
    rw [e4, Int.sub_zero]
    by_cases e2 : q = u.toNat
    · rw [if_pos e2, ← e2, decide_eq_true (by omega), h1]; rfl
    · rw [if_neg e2, if_neg (by omega), decide_eq_false (by omega), h1]; simp
  · rw [hB]
    rw [if_neg (by omega)]
    by_cases e2 : q = k.toNat
    · rw [if_pos e2, e2, Int.toNat_of_nonneg (by omega)]
    · rw [if_neg e2]; exact h.2.2.2 q (by omega) h2
theorem HI_first (hn : 0 ≤ nd) (hA : ∀ q : Nat, (q : Int) < nd → A q = 0 ∧ B q = 0 ∧ C q = 0) : HI nd un (nd - 1) A B C := by
  refine ⟨fun q hq => ?_, fun q hq => ?_, fun q hq => ?_, fun q h1 h2 => by omega⟩
  · rw [(hA q hq).1, show (nd - 1 - (nd - 1)).toNat = 0 by omega]; rfl
  · rw [(hA q hq).2.2, show (nd - 1 + 1).toNat = nd.toNat by omega]; omega
  · rw [(hA q (by omega)).2.1, show (nd - 1 + 1).toNat = nd.toNat by omega]; omega
theorem HI_bd (hU : okU nd un) (hk : 0 ≤ k ∧ k < nd) (h : HI nd un k A B C) (q : Nat) (hq : (q : Int) < nd) : (0 ≤ A q ∧ A q ≤ 30) ∧ (-30 ≤ C q ∧ C q ≤ 30) ∧ ((q : Int) ≤ k → -30 ≤ B q ∧ B q ≤ 30) := by
  have hn := hU.2.1
  have h1 := h.1 q hq
  have h2 := htS_bd nd un (nd - 1 - k).toNat q
  have h3 := h.2.1 q hq
  have h4 : 0 ≤ dirF un q (k + 1).toNat ∧ dirF un q (k + 1).toNat ≤ (k + 1).toNat := cnt_bd _ _
  have h5 : 0 ≤ dirF un q nd.toNat ∧ dirF un q nd.toNat ≤ nd.toNat := cnt_bd _ _
  refine ⟨by omega, by omega, fun hqk => ?_⟩
  have h6 := h.2.2.1 q hqk
  have h7 := cnt_bd (plf nd un k q) nd.toNat
  have h8 := cnt_bd (plf nd un k q) (k + 1).toNat
  omega
theorem lvC_bd (hU : okU nd un) (x : Int) : 0 ≤ lvC nd un x ∧ lvC nd un x ≤ 30 := by
  have hn := hU.2.1
  have h0 := hU.1
  have := cnt_bd (plf nd un x x) nd.toNat
  unfold lvC; omega
theorem HI_end (hU : okU nd un) (h : HI nd un (-1) A B C) {q : Nat} (hq : (q : Int) < nd) : A q = htS nd un nd.toNat q ∧ B q = lvC nd un q ∧ C q = dirF un q nd.toNat := by
  refine ⟨by rw [h.1 q hq, show (nd - 1 - -1).toNat = nd.toNat by omega], h.2.2.2 q (by omega) hq, ?_⟩
  have h1 := h.2.1 q hq
  rw [show ((-1 : Int) + 1).toNat = 0 from rfl] at h1
  rw [← h1, show dirF un q 0 = 0 from rfl, Int.add_zero]
end HI
