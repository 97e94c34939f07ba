/-! THE CUT: which nodes stay, what stands where -/
section CutW
variable {A : Nat → Nat → Int} {nd x : Int} {un : Nat → Int}
def cN (un : Nat → Int) (x : Int) (k : Nat) : Int := cnt (fun o => !goes un x o) k
theorem goes_self (h : 0 ≤ x) : goes un x x.toNat = true := by unfold goes; rw [Int.toNat_of_nonneg h, climb_stop (Int.le_refl _)]; simp
theorem goes_low {k : Nat} (h : (k : Int) < x) : goes un x k = false := by unfold goes; rw [climb_stop (by omega)]; exact decide_eq_false (by omega)
theorem goes_up (hU : okU nd un) {k : Nat} (h0 : 0 ≤ x) (h : x < (k : Int)) (hk : (k : Int) < nd) : goes un x k = goes un x (un k).toNat := by
  have h1 := hU.2.2.2 k (by omega) hk
  unfold goes
  rw [climb_step hU h0 h hk, show ((k : Int)).toNat = k by omega, show (((un k).toNat : Nat) : Int) = un k by omega]
theorem cN_succ (k : Nat) : cN un x (k + 1) = cN un x k + (if goes un x k then 0 else 1) := by
  show cnt (fun o => !goes un x o) k + (if !goes un x k then 1 else 0) = _
  cases goes un x k <;> rfl
theorem cN_bd (k : Nat) : 0 ≤ cN un x k ∧ cN un x k ≤ k := cnt_bd _ k
theorem cN_low : ∀ k : Nat, (k : Int) ≤ x → cN un x k = k
  | 0, _ => rfl
  | k + 1, h => by rw [cN_succ, cN_low k (by omega), goes_low (by omega)]; rfl
theorem cN_lt {i : Nat} (hg : goes un x i = false) : ∀ d : Nat, cN un x i + 1 ≤ cN un x (i + 1 + d)
  | 0 => by rw [Nat.add_zero, cN_succ, hg]; simp
  | d + 1 => by
    have h := cN_lt hg d
    rw [show i + 1 + (d + 1) = (i + 1 + d) + 1 by omega, cN_succ]
    split <;> omega
theorem nuC_eq (k : Nat) : nuC un x k = if goes un x k then -2 else cN un x k := rfl
/-- above a node that stays one that stays -/
theorem stay_up (hU : okU nd un) (hx : 0 ≤ x) {k : Nat} (h1 : 1 ≤ k) (hk : (k : Int) < nd) (hg : goes un x k = false) : 0 ≤ un k ∧ un k < k ∧ goes un x (un k).toNat = false ∧ nuC un x (un k).toNat = cN un x (un k).toNat ∧ cN un x (un k).toNat < cN un x k := by
  have hu := hU.2.2.2 k h1 hk
  have g : goes un x (un k).toNat = false := by
    rcases (show (k : Int) < x ∨ (k : Int) = x ∨ x < (k : Int) by omega) with h | h | h
    · exact goes_low (by omega)
    · exfalso
      have := goes_self (un := un) hx
      rw [show x.toNat = k by omega, hg] at this; cases this
    · rw [← goes_up hU hx h hk]; exact hg
  have l := cN_lt g (k - ((un k).toNat + 1))
  rw [show (un k).toNat + 1 + (k - ((un k).toNat + 1)) = k by omega] at l
  exact ⟨hu.1, hu.2, g, by rw [nuC_eq, g]; rfl, by omega⟩
theorem jcut_gone {k : Nat} (h : goes (A 45) x k = true) : jcut A x (k + 1) = jcut A x k := by rw [jcut, if_pos h]
theorem jcut_stay {k : Nat} (h : goes (A 45) x k = false) : jcut A x (k + 1) = zup (zup (jput (jcut A x k) (6 + nuC (A 45) x k).toNat (jcut A x k 44 (6 + k)) (eE (jcut A x k) (6 + k))) 45 (nuC (A 45) x k).toNat (jcU (jcut A x k) (A 45) x k)) 46 (nuC (A 45) x k).toNat (jcut A x k 46 k) := by rw [jcut, if_neg (by rw [h]; decide)]
/-- what holds while the nodes are gone through -/
def JC (A B : Nat → Nat → Int) (x : Int) (k : Nat) : Prop :=
  (∀ a, a ≠ 43 → a ≠ 44 → a ≠ 45 → a ≠ 46 → B a = A a) ∧ (∀ q, q < 6 ∨ 36 ≤ q → B 44 q = A 44 q) ∧ (∀ q, q < 96 ∨ 576 ≤ q → B 43 q = A 43 q) ∧ (∀ q : Nat, cN (A 45) x k ≤ (q : Int) → B 45 q = A 45 q ∧ B 46 q = A 46 q) ∧ okJ B ∧ (∀ q : Nat, (q : Int) < A 42 2 → 0 < B 44 (6 + q)) ∧
  (∀ q : Nat, (q : Int) < cN (A 45) x k → (q = 0 → B 45 q = -2) ∧ (1 ≤ q → 0 ≤ B 45 q ∧ B 45 q < q)) ∧ ∀ q, q < 30 → rI (B 45 q) ∧ rI (B 46 q)
theorem JC_of (hO : OKA A) (hx : 0 ≤ x ∧ x < A 42 2) : ∀ k : Nat, (k : Int) ≤ A 42 2 → JC A (jcut A x k) x k
  | 0, _ => ⟨fun _ _ _ _ _ => rfl, fun _ _ => rfl, fun _ _ => rfl, fun _ _ => ⟨rfl, rfl⟩, hO.1, hO.2.1.2.2.2.1, fun q hq => absurd hq (by show ¬ (q : Int) < 0; omega), hO.2.1.1.2.2.2.2⟩
  | k + 1, hk => by
    have hU := okT_U hO.2.1
    have n30 := hU.2.1
    obtain ⟨c1, c2, c3, c4, c5, c6, c7, c8⟩ := JC_of hO hx k (by omega)
    have cb := cN_bd (un := A 45) (x := x) k
    cases hg : goes (A 45) x k with
    | true =>
      have e : cN (A 45) x (k + 1) = cN (A 45) x k := by rw [cN_succ, hg]; simp
      unfold JC
      rw [jcut_gone hg, e]; exact ⟨c1, c2, c3, c4, c5, c6, c7, c8⟩
    | false =>
      have e : cN (A 45) x (k + 1) = cN (A 45) x k + 1 := by rw [cN_succ, hg]; simp
      have en : nuC (A 45) x k = cN (A 45) x k := by rw [nuC_eq, hg]; rfl
      have f45 : jcut A x k 45 k = A 45 k := (c4 k (by omega)).1
      have f46 : jcut A x k 46 k = A 46 k := (c4 k (by omega)).2
      have hv : (k = 0 → jcU (jcut A x k) (A 45) x k = -2) ∧ (1 ≤ k → 0 ≤ jcU (jcut A x k) (A 45) x k ∧ jcU (jcut A x k) (A 45) x k < cN (A 45) x k) := by
        unfold jcU
        rw [f45]
        refine ⟨fun h0 => ?_, fun h1 => ?_⟩
        · subst h0; have := hU.2.2.1 (by omega); rw [if_pos (by omega)]
        · have s := stay_up hU hx.1 h1 (by omega) hg
          have b := cN_bd (un := A 45) (x := x) (A 45 k).toNat
          rw [if_neg (by omega), s.2.2.2.1]; omega
      generalize jcU (jcut A x k) (A 45) x k = v at hv
      unfold JC
      rw [jcut_stay hg, en, e, f46]
      have hwv : jcU (jcut A x k) (A 45) x k = jcU (jcut A x k) (A 45) x k := rfl
      have hB : okF (jcut A x k 44 (6 + k)) (fun q => jcut A x k 43 (16 * (6 + k) + q)) := by
        rcases c5 (6 + k) (by omega) with g | g
        · have := c6 k (by omega); omega
        · exact g.2
      have hv2 : (k = 0 → jcU (jcut A x k) (A 45) x k = -2) ∧ (1 ≤ k → 0 ≤ jcU (jcut A x k) (A 45) x k ∧ jcU (jcut A x k) (A 45) x k < cN (A 45) x k) := by
        unfold jcU
        rw [f45]
        refine ⟨fun h0 => ?_, fun h1 => ?_⟩
        · subst h0; have := hU.2.2.1 (by omega); rw [if_pos (by omega)]
        · have s := stay_up hU hx.1 h1 (by omega) hg
          have b := cN_bd (un := A 45) (x := x) (A 45 k).toNat
          rw [if_neg (by omega), s.2.2.2.1]; omega
      generalize jcU (jcut A x k) (A 45) x k = w at hv2
      have p44 : ∀ q, zup (zup (jput (jcut A x k) (6 + cN (A 45) x k).toNat (jcut A x k 44 (6 + k)) (eE (jcut A x k) (6 + k))) 45 (cN (A 45) x k).toNat w) 46 (cN (A 45) x k).toNat (A 46 k) 44 q = if q = (6 + cN (A 45) x k).toNat then jcut A x k 44 (6 + k) else jcut A x k 44 q := fun q => by
        rw [zzr (by decide), zzr (by decide)]
        by_cases z : q = (6 + cN (A 45) x k).toNat
        · subst z; rw [jput_let, if_pos rfl]
        · rw [jput_let_ne z, if_neg z]
      refine ⟨fun a a1 a2 a3 a4 => by rw [zup_ne a4, zup_ne a3, jput_off a1 a2]; exact c1 a a1 a2 a3 a4, fun q hq => by rw [p44, if_neg (by omega)]; exact c2 q hq, fun q hq => by rw [zzr (by decide), zzr (by decide), jput_43 (by omega)]; exact c3 q hq, fun q hq => ?_, ?_, fun q hq => ?_, fun q hq => ?_, fun q hq => ?_⟩
      · have z : q ≠ (cN (A 45) x k).toNat := by omega
        rw [zzr (by decide), zzi z, zzi z, zzr (by decide), jput_off (a := 45) (by decide) (by decide), jput_off (a := 46) (by decide) (by decide)]
        exact c4 q (by omega)
      · have oj := okJ_jput (p := (6 + cN (A 45) x k).toNat) (nl := jcut A x k 44 (6 + k)) (E := eE (jcut A x k) (6 + k)) c5 (Or.inr ⟨by have := c6 k (by omega); omega, okF_cg (fun q _ => by unfold eE; rw [show (6 + (k : Int)).toNat = 6 + k by omega]) hB⟩)
        unfold okJ at oj ⊢
        rw [zup_ne (show (44 : Nat) ≠ 46 by decide), zup_ne (show (44 : Nat) ≠ 45 by decide), zup_ne (show (43 : Nat) ≠ 46 by decide), zup_ne (show (43 : Nat) ≠ 45 by decide)]
        exact oj
      · rw [p44]; split
        · exact c6 k (by omega)
        · exact c6 q hq
      · rw [zzr (by decide)]
        by_cases z : q = (cN (A 45) x k).toNat
        · subst z; rw [zz]
          by_cases k0 : k = 0
          · subst k0; exact ⟨fun _ => hv2.1 rfl, fun z => by rw [show cN (A 45) x 0 = 0 from rfl] at z; exact absurd z (by decide)⟩
          · have := hv2.2 (by omega)
            exact ⟨fun z => by omega, fun z => by omega⟩
        · rw [zzi z, jput_off (by decide) (by decide)]; exact c7 q (by omega)
      · have b := c8 q hq
        have d := hO.2.1.1.2.2.2.2 k (by omega)
        have n0 := hU.1
        constructor
        · rw [zzr (by decide)]
          by_cases z : q = (cN (A 45) x k).toNat
          · subst z; rw [zz]
            by_cases k0 : k = 0
            · rw [hv2.1 k0]; omega
            · have := hv2.2 (by omega); omega
          · rw [zzi z, jput_off (by decide) (by decide)]; exact b.1
        · by_cases z : q = (cN (A 45) x k).toNat
          · subst z; rw [zz]; exact d.2
          · rw [zzi z, zzr (by decide), jput_off (by decide) (by decide)]; exact b.2
/-- the nodes ahead of the cut stay as they are -/
theorem jcut_pre (hU : okU nd (A 45)) (hx : x < nd) : ∀ k : Nat, (k : Int) ≤ x → jcut A x k = A
  | 0, _ => rfl
  | k + 1, h => by
    have hg := goes_low (un := A 45) (x := x) (k := k) (by omega)
    have en : nuC (A 45) x k = k := by rw [nuC_eq, hg]; exact cN_low k (by omega)
    rw [jcut_stay hg, jcut_pre hU hx k (by omega), en]
    have e1 : jput A (6 + (k : Int)).toNat (A 44 (6 + k)) (eE A (6 + k)) = A := jput_self (by rw [show (6 + (k : Int)).toNat = 6 + k by omega]) (fun q _ => rfl)
    have e2 : jcU A (A 45) x k = A 45 k := by
      unfold jcU
      by_cases k0 : k = 0
      · subst k0; have := hU.2.2.1 (by omega); rw [if_pos (by omega)]; omega
      · have hu := hU.2.2.2 k (by omega) (by omega)
        rw [if_neg (by omega), nuC_eq, goes_low (by omega)]
        show cN (A 45) x (A 45 k).toNat = _
        rw [cN_low _ (by omega)]; omega
    rw [e1, e2, show ((k : Int)).toNat = k by omega]
    funext a q
    simp only [zup]
    split
    · rename_i ha; split
      · rename_i hq; rw [ha, hq]
      · split
        · rename_i hb; exact absurd (ha.symm.trans hb) (by decide)
        · rfl
    · split
      · rename_i ha; split
        · rename_i hq; rw [ha, hq]
        · rfl
      · rfl
end CutW
