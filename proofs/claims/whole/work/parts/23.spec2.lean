theorem zz {α : Type} {f : Nat → Nat → α} {r i : Nat} {x : α} : zup f r i x r i = x := by simp [zup]
theorem zzr {α : Type} {f : Nat → Nat → α} {r i a j : Nat} {x : α} (h : a ≠ r) : zup f r i x a j = f a j := by simp [zup, h]
theorem zzi {α : Type} {f : Nat → Nat → α} {r i a j : Nat} {x : α} (h : j ≠ i) : zup f r i x a j = f a j := by simp [zup, h]
theorem eE_at1 {J : Nat → Nat → Int} {p k : Int} (hp : 0 ≤ p) (hk : 0 ≤ k) : J 43 (16 * p + k).toNat = eE J p k.toNat := by
  unfold eE; congr 1; omega
theorem bq_mono {a b : Int} (h : a ≤ b) : bq a ≤ bq b := by
  unfold bq; repeat' split
  all_goals omega
theorem bq_pos (a : Int) : 1 ≤ bq a := by unfold bq; repeat' split
                                          all_goals omega
theorem detB_bd : ∀ (m : Nat) (T : Nat → Nat → Int) (q : Nat) (last : Int), q + m ≤ 4 → 1 ≤ m → (∀ i j, q ≤ i → i < q + m → q ≤ j → j < q + m → -(bq q) ≤ T i j ∧ T i j ≤ bq q) → detB m T q last ≤ bq ((q : Int) + m - 1)
  | 0, _, _, _, _, h, _ => absurd h (by omega)
  | 1, T, q, last, _, _, hB => by
    unfold detB
    have h1 := hB q q (by omega) (by omega) (by omega) (by omega)
    have h2 := bq_pos ((q : Int) + (1 : Nat) - 1)
    split
    · omega
    · unfold detB
      rw [show (q : Int) + (1 : Nat) - 1 = q by omega]
      exact h1.2
  | m + 2, T, q, last, h4, _, hB => by
    unfold detB
    have h2 := bq_pos ((q : Int) + ((m + 2 : Nat) : Int) - 1)
    split
    · omega
    · have h3 := detB_bd (m + 1) (bstep T q last) (q + 1) (T q q) (by omega) (by omega) (fun i j a1 a2 a3 a4 => by
        unfold bstep
        have := bq_step (q := (q : Int)) (last := last) (by omega) (hB i j (by omega) (by omega) (by omega) (by omega)) (hB q q (by omega) (by omega) (by omega) (by omega)) (hB i q (by omega) (by omega) (by omega) (by omega)) (hB q j (by omega) (by omega) (by omega) (by omega))
        rw [show (((q + 1 : Nat) : Int)) = (q : Int) + 1 by omega]
        exact this)
      rw [show (q : Int) + ((m + 2 : Nat) : Int) - 1 = ((q + 1 : Nat) : Int) + ((m + 1 : Nat) : Int) - 1 by omega]
      exact h3
theorem sk_le {but : Int} {i : Nat} (k : Int) (hk : k ≤ 4) (hi : i < skn but k) : sk but i ≤ 3 := by
  unfold skn at hi; unfold sk; split at hi <;> split <;> omega
theorem detS_bd {E : Nat → Int} {k but : Int} (hE : entS E) (hk : k ≤ 4) (h1 : 1 ≤ skn but k) : detS E k but ≤ bq ((skn but k : Int) - 1) := by
  unfold detS
  have h4 : skn but k ≤ 4 := by unfold skn; split <;> omega
  have := detB_bd (skn but k) (fun i j => E (4 * sk but i + sk but j)) 0 1 (by omega) h1 (fun i j a1 a2 a3 a4 => by
    have b1 := sk_le (but := but) (i := i) k hk (by omega)
    have b2 := sk_le (but := but) (i := j) k hk (by omega)
    exact hE _ (by omega))
  rw [show ((0 : Nat) : Int) + (skn but k : Int) - 1 = (skn but k : Int) - 1 by omega] at this
  exact this
theorem detS_bd3 {E : Nat → Int} {k but : Int} (hE : entS E) (hk : k ≤ 4) (hb : 0 ≤ but ∧ but < k) : detS E k but ≤ 768476808 := by
  by_cases h1 : 1 ≤ skn but k
  · have h2 := detS_bd hE hk h1
    have h3 : (skn but k : Int) - 1 ≤ 2 := by unfold skn; split <;> omega
    have h4 := bq_mono h3
    have h5 : bq 2 = 768476808 := by decide
    omega
  · unfold detS
    rw [show skn but k = 0 by omega]
    show (1 : Int) ≤ _
    omega
theorem detS_bd4 {E : Nat → Int} {k but : Int} (hE : entS E) (hk : k ≤ 4) : detS E k but ≤ 1200000000000000000 := by
  by_cases h1 : 1 ≤ skn but k
  · have h2 := detS_bd hE hk h1
    have h3 : (skn but k : Int) - 1 ≤ 3 := by unfold skn; split <;> omega
    have h4 := bq_mono h3
    have h5 : bq 3 = 1200000000000000000 := by decide
    omega
  · unfold detS
    rw [show skn but k = 0 by omega]
    show (1 : Int) ≤ _
    omega
theorem tdiv_nn {a b : Int} (ha : 0 ≤ a) (hb : 0 ≤ b) : 0 ≤ a.tdiv b := Int.tdiv_nonneg ha hb
theorem bv_pos {k : Nat} (h : k ≠ 0) : 1 ≤ bv k := by
  unfold bv; rw [if_neg h]
  have : 1 ≤ 2 ^ (k - 1) := Nat.one_le_two_pow
  omega
theorem rootB_succ (k : Nat) (r v : Int) : rootB (k + 1) r v = rootB k (if (r + (2 ^ k : Nat)) * (r + (2 ^ k : Nat)) ≤ v then r + (2 ^ k : Nat) else r) v := rfl
theorem bv_rL {k : Nat} (h : k ≤ 21) : rL (bv k) := by
  unfold bv
  split
  · omega
  · have hb2 : 2 ^ (k - 1) ≤ 2 ^ 20 := Nat.pow_le_pow_right (by omega) (by omega)
    have h3 : (2 ^ 20 : Nat) = 1048576 := by decide
    rw [h3] at hb2
    generalize 2 ^ (k - 1) = w at *
    omega
