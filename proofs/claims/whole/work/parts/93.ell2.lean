/-! WORTHS AS AN ENUMERATION: it goes well -/
section Ell2
variable {T U : Nat → Nat → Int} {nl tp : Int} {E : Nat → Int}
/-- the determinant is at most a square times the minor without its letter -/
theorem det_le (hs : symT T) (h : PDQ T) {k : Nat} (hk : k < 4) : P4 T ≤ P3 (sub3 k T) * T k k := by
  rcases (show k = 0 ∨ k = 1 ∨ k = 2 ∨ k = 3 by omega) with rfl | rfl | rfl | rfl
  · have a := PD_last (PD_of (od0_PDQ hs h)) (0, 0, 0, 1)
    rw [od0_P4 hs, od0_P3 hs, od0_Q hs] at a
    have e : QT T (1, 0, 0, 0) = T 0 0 := by unfold QT; simp
    rw [e] at a; simpa using a
  · have a := PD_last (PD_of (od1_PDQ hs h)) (0, 0, 0, 1)
    rw [od1_P4 hs, od1_P3 hs, od1_Q hs] at a
    have e : QT T (0, 1, 0, 0) = T 1 1 := by unfold QT; simp
    rw [e] at a; simpa using a
  · have a := PD_last (PD_of (od2_PDQ hs h)) (0, 0, 0, 1)
    rw [od2_P4 hs, od2_P3 hs, od2_Q hs] at a
    have e : QT T (0, 0, 1, 0) = T 2 2 := by unfold QT; simp
    rw [e] at a; simpa using a
  · have a := PD_last (PD_of h) (0, 0, 0, 1)
    have e : QT T (0, 0, 0, 1) = T 3 3 := by unfold QT; simp
    rw [e] at a
    rw [sub3_P3]; simpa using a
theorem detS_small3 {k but : Int} (hE : entS E) (hs : symS E) (hk : 1 ≤ k ∧ k ≤ 4) (hb : 0 ≤ but ∧ but < k) : detS E k but ≤ 970299 := by
  have e0 : skn but k = (k - 1).toNat := by unfold skn; rw [if_pos hb]
  unfold detS
  rw [e0]
  have hl : ∀ i, i < (k - 1).toNat → sk but i ≤ 3 := fun i hi => sk_le k (by omega) (by rw [e0]; exact hi)
  have h := detB_small (k - 1).toNat (fun i j => E (4 * sk but i + sk but j)) 0 1 1 (by omega) (by omega) (fun i j a1 a2 a3 a4 => hs _ _ (by have := hl i (by omega); omega) (by have := hl j (by omega); omega)) (fun j a1 a2 => by
    have := hl j (by omega)
    have := hE (4 * sk but j + sk but j) (by omega)
    show E (4 * sk but j + sk but j) ≤ _
    omega)
  have h5 : (1 : Int) * 99 ^ (k - 1).toNat ≤ 970299 := by
    rcases (show k = 1 ∨ k = 2 ∨ k = 3 ∨ k = 4 by omega) with rfl | rfl | rfl | rfl <;> decide
  omega
/-- reaches: not 0, and what is beyond them is too far -/
theorem reach_facts (h1 : 1 ≤ nl) (h : okF nl E) {k : Nat} (hk : (k : Int) < nl) : 1 ≤ reachS nl E k ∧ reachS nl E k ≤ 500000 ∧ 100 * P3 (sub3 k (padT nl E)) < P4 (padT nl E) * ((reachS nl E k + 1) * (reachS nl E k + 1)) ∧ 0 < P3 (sub3 k (padT nl E)) ∧ P3 (sub3 k (padT nl E)) ≤ 970299 ∧ 0 < P4 (padT nl E) ∧ P4 (padT nl E) ≤ 96059601 := by
  have hq := okF_PDQ h1 h
  have h4 := h.1
  have hs := symT_pad (nl := nl) h.2.2.1
  have dr := detS_rest h1 h4 hk h.2.2.1 h.2.2.2 hq
  have dp := detS_PDQ h1 h4 h.2.2.1 h.2.2.2 hq
  have s3 := detS_small3 (k := nl) (but := k) h.2.1.1 h.2.2.1 ⟨h1, h4⟩ ⟨by omega, hk⟩
  have s4 := detS_small (k := nl) h.2.1.1 h.2.2.1 ⟨by omega, h4⟩
  rw [dr.1] at s3
  rw [dp.1] at s4
  have dl := det_le hs hq (k := k) (by omega)
  rw [padT_in (i := k) (j := k) hk] at dl
  have en := h.2.1.1 (4 * k + k) (by omega)
  have rr := reachS_PDQ h1 h4 hk h.2.2.1 h.2.2.2 hq
  have hh := reach_half h.2.1.2.2 k (by omega)
  generalize hR : P3 (sub3 k (padT nl E)) = R at *
  generalize hD : P4 (padT nl E) = D at *
  have m9 : R * E (4 * k + k) ≤ R * 99 := Int.mul_le_mul_of_nonneg_left en.2 (by omega)
  have q0 := tdiv_nn (a := 100 * R) (b := D) (by omega) (by omega)
  have q1 := tdiv_bd (a := 100 * R) (b := D) (B := 97029900) (by omega) (by omega)
  have sp := rootQ_spec (v := (100 * R).tdiv D) q0 (by omega)
  rw [← rr] at sp
  have te := Int.tdiv_eq_ediv_of_nonneg (a := 100 * R) (b := D) (by omega)
  have dm := Int.mul_ediv_add_emod (100 * R) D
  have dl2 := Int.emod_lt_of_pos (100 * R) (show 0 < D by omega)
  rw [← te] at dm
  have q2 : 1 ≤ (100 * R).tdiv D := by
    rw [te, Int.le_ediv_iff_mul_le (by omega)]; omega
  refine ⟨?_, hh, ?_, by omega, by omega, by omega, by omega⟩
  · by_cases g : 1 ≤ reachS nl E k
    · exact g
    · have : reachS nl E k = 0 := by omega
      rw [this] at sp; omega
  · have m2 := Int.mul_le_mul_of_nonneg_left (show (100 * R).tdiv D + 1 ≤ (reachS nl E k + 1) * (reachS nl E k + 1) by omega) (show 0 ≤ D by omega)
    rw [Int.mul_add, Int.mul_one] at m2
    omega
def UW (nl : Int) (E : Nat → Int) : Nat → Nat → Int := pmT od0 (padT nl E)
theorem UW_ent (h1 : 1 ≤ nl) (h : okF nl E) {i j : Nat} (hi : i < 4) (hj : j < 4) : -99 ≤ UW nl E i j ∧ UW nl E i j ≤ 99 := by
  have a : ∀ i, i < 4 → od0 i < 4 := by
    intro i hi; unfold od0; split <;> (try split) <;> (try split) <;> omega
  show -99 ≤ padT nl E (od0 i) (od0 j) ∧ padT nl E (od0 i) (od0 j) ≤ 99
  unfold padT
  split
  · omega
  · exact h.2.1.1 _ (by have := a i hi; have := a j hj; omega)
theorem UW_PD (h1 : 1 ≤ nl) (h : okF nl E) : PD (UW nl E) := PD_of (od0_PDQ (symT_pad h.2.2.1) (okF_PDQ h1 h))
theorem t2_bd {a b c d : Int} (ha : -99 ≤ a ∧ a ≤ 99) (hb : -99 ≤ b ∧ b ≤ 99) (hc : -99 ≤ c ∧ c ≤ 99) (hd : -99 ≤ d ∧ d ≤ 99) : -19602 ≤ t2 a b c d ∧ t2 a b c d ≤ 19602 := by
  have m1 := mul_bd (a := a) (b := d) (A := 99) (B := 99) ha.1 ha.2 hd.1 hd.2
  have m2 := mul_bd (a := b) (b := c) (A := 99) (B := 99) hb.1 hb.2 hc.1 hc.2
  unfold t2; omega
theorem t3_bd {a b c d e f g h i : Int} (ha : -99 ≤ a ∧ a ≤ 99) (hb : -99 ≤ b ∧ b ≤ 99) (hc : -99 ≤ c ∧ c ≤ 99) (hd : -99 ≤ d ∧ d ≤ 99) (he : -99 ≤ e ∧ e ≤ 99) (hf : -99 ≤ f ∧ f ≤ 99) (hg : -99 ≤ g ∧ g ≤ 99) (hh : -99 ≤ h ∧ h ≤ 99) (hi : -99 ≤ i ∧ i ≤ 99) : -5821794 ≤ t3 a b c d e f g h i ∧ t3 a b c d e f g h i ≤ 5821794 := by
  have m1 := t2_bd he hf hh hi
  have m2 := t2_bd hd hf hg hi
  have m3 := t2_bd hd he hg hh
  have n1 := mul_bd (a := a) (b := t2 e f h i) (A := 99) (B := 19602) ha.1 ha.2 m1.1 m1.2
  have n2 := mul_bd (a := b) (b := t2 d f g i) (A := 99) (B := 19602) hb.1 hb.2 m2.1 m2.2
  have n3 := mul_bd (a := c) (b := t2 d e g h) (A := 99) (B := 19602) hc.1 hc.2 m3.1 m3.2
  have e1 : t3 a b c d e f g h i = a * t2 e f h i - b * t2 d f g i + c * t2 d e g h := rfl
  rw [e1]; omega
theorem dW_bd (h1 : 1 ≤ nl) (h : okF nl E) {k : Nat} (hk : k ≤ 4) : 1 ≤ dW (UW nl E) k ∧ dW (UW nl E) k ≤ 96059601 ∧ (1 ≤ k → dW (UW nl E) k ≤ 970299) := by
  have p := UW_PD h1 h
  have hs := symT_pad (nl := nl) h.2.2.1
  have rf := reach_facts h1 h (k := 0) (by omega)
  have e4 : P4 (UW nl E) = P4 (padT nl E) := od0_P4 hs
  have e3 : P3 (UW nl E) = P3 (sub3 0 (padT nl E)) := od0_P3 hs
  have b0 := UW_ent h1 h (i := 0) (j := 0) (by omega) (by omega)
  have b2 := t2_bd b0 (UW_ent h1 h (i := 0) (j := 1) (by omega) (by omega)) (UW_ent h1 h (i := 0) (j := 1) (by omega) (by omega)) (UW_ent h1 h (i := 1) (j := 1) (by omega) (by omega))
  rcases (show k = 0 ∨ k = 1 ∨ k = 2 ∨ k = 3 ∨ k = 4 by omega) with rfl | rfl | rfl | rfl | rfl
  · show 1 ≤ P4 (UW nl E) ∧ P4 (UW nl E) ≤ 96059601 ∧ _; rw [e4]; exact ⟨by omega, by omega, fun z => absurd z (by decide)⟩
  · show 1 ≤ P3 (UW nl E) ∧ P3 (UW nl E) ≤ 96059601 ∧ (1 ≤ 1 → P3 (UW nl E) ≤ 970299); rw [e3]; exact ⟨by omega, by omega, fun _ => by omega⟩
  · have q := p.2.1
    show 1 ≤ P2 (UW nl E) ∧ P2 (UW nl E) ≤ 96059601 ∧ (1 ≤ 2 → P2 (UW nl E) ≤ 970299)
    have e2 : P2 (UW nl E) ≤ 19602 := b2.2
    exact ⟨by omega, by omega, fun _ => by omega⟩
  · have q := p.1
    show 1 ≤ UW nl E 0 0 ∧ UW nl E 0 0 ≤ 96059601 ∧ (1 ≤ 3 → UW nl E 0 0 ≤ 970299)
    exact ⟨by omega, by omega, fun _ => by omega⟩
  · show (1 : Int) ≤ 1 ∧ (1 : Int) ≤ 96059601 ∧ (1 ≤ 4 → (1 : Int) ≤ 970299)
    exact ⟨by decide, by decide, fun _ => by decide⟩
theorem sW_bd (h1 : 1 ≤ nl) (h : okF nl E) {k j : Nat} (hk : k < 4) (hj : j ≤ k) : -100000000 ≤ sW (UW nl E) k j ∧ sW (UW nl E) k j ≤ 100000000 := by
  by_cases e : j = k
  · subst e; rw [sW_diag hk]; have := dW_bd h1 h (k := j) (by omega); omega
  · have u : ∀ i j, i < 4 → j < 4 → -99 ≤ UW nl E i j ∧ UW nl E i j ≤ 99 := fun i j hi hj => UW_ent h1 h hi hj
    rcases (show k = 1 ∧ j = 0 ∨ k = 2 ∧ j = 0 ∨ k = 2 ∧ j = 1 ∨ k = 3 ∧ j = 0 ∨ k = 3 ∧ j = 1 ∨ k = 3 ∧ j = 2 by omega) with ⟨rfl, rfl⟩ | ⟨rfl, rfl⟩ | ⟨rfl, rfl⟩ | ⟨rfl, rfl⟩ | ⟨rfl, rfl⟩ | ⟨rfl, rfl⟩
    · show -100000000 ≤ U23 (UW nl E) ∧ U23 (UW nl E) ≤ 100000000
      have := t3_bd (u 0 0 (by omega) (by omega)) (u 0 1 (by omega) (by omega)) (u 0 3 (by omega) (by omega)) (u 0 1 (by omega) (by omega)) (u 1 1 (by omega) (by omega)) (u 1 3 (by omega) (by omega)) (u 0 2 (by omega) (by omega)) (u 1 2 (by omega) (by omega)) (u 2 3 (by omega) (by omega))
      unfold U23; omega
    · show -100000000 ≤ t2 (UW nl E 0 0) (UW nl E 0 1) (UW nl E 0 3) (UW nl E 1 3) ∧ t2 (UW nl E 0 0) (UW nl E 0 1) (UW nl E 0 3) (UW nl E 1 3) ≤ 100000000
      have := t2_bd (u 0 0 (by omega) (by omega)) (u 0 1 (by omega) (by omega)) (u 0 3 (by omega) (by omega)) (u 1 3 (by omega) (by omega)); omega
    · show -100000000 ≤ t2 (UW nl E 0 0) (UW nl E 0 1) (UW nl E 0 2) (UW nl E 1 2) ∧ t2 (UW nl E 0 0) (UW nl E 0 1) (UW nl E 0 2) (UW nl E 1 2) ≤ 100000000
      have := t2_bd (u 0 0 (by omega) (by omega)) (u 0 1 (by omega) (by omega)) (u 0 2 (by omega) (by omega)) (u 1 2 (by omega) (by omega)); omega
    · show -100000000 ≤ UW nl E 0 3 ∧ UW nl E 0 3 ≤ 100000000
      have := u 0 3 (by omega) (by omega); omega
    · show -100000000 ≤ UW nl E 0 2 ∧ UW nl E 0 2 ≤ 100000000
      have := u 0 2 (by omega) (by omega); omega
    · show -100000000 ≤ UW nl E 0 1 ∧ UW nl E 0 1 ≤ 100000000
      have := u 0 1 (by omega) (by omega); omega
def eW (nl : Int) (E : Nat → Int) (tp : Int) : EP := (nl.toNat, 0, 1, sW (UW nl E), fun k => dW (UW nl E) (k + 1), lW (UW nl E) tp, fun k => reachS nl E k)
theorem sq_lt {a b : Int} (hb : 0 ≤ b) (h : a * a < b * b) : -b < a ∧ a < b := by
  constructor
  · by_cases g : -b < a
    · exact g
    · have := Int.mul_le_mul (show b ≤ -a by omega) (show b ≤ -a by omega) hb (by omega)
      rw [Int.neg_mul_neg] at this; omega
  · by_cases g : a < b
    · exact g
    · have := Int.mul_le_mul (show b ≤ a by omega) (show b ≤ a by omega) hb (by omega); omega
/-- steps: far fewer than the guard -/
theorem guard_W (h1 : 1 ≤ nl) (h : okF nl E) : (eW nl E tp).pm nl.toNat + nl.toNat ≤ 3999998 := by
  have h4 := h.1
  have bl := (box_len h.2.1.2.2).1
  have rr : ∀ i : Nat, (i : Int) < nl → 3 ≤ rN nl E i ∧ ((rN nl E i : Nat) : Int) = 2 * reachS nl E i + 1 := fun i hi => by
    have := (reach_facts h1 h (k := i) hi).1
    unfold rN; omega
  have ro : ∀ i : Nat, nl ≤ (i : Int) → rN nl E i = 1 := fun i hi => by
    unfold rN reachS; rw [if_neg (by omega)]; rfl
  have mxe : ∀ i : Nat, (i : Int) < nl → 2 * (eW nl E tp).mx i + 1 = ((rN nl E i : Nat) : Int) := fun i hi => (rr i hi).2.symm
  have key : ∀ m : Nat, nl.toNat = m → (eW nl E tp).n = m := fun m hm => hm
  rcases (show nl = 1 ∨ nl = 2 ∨ nl = 3 ∨ nl = 4 by omega) with rfl | rfl | rfl | rfl
  · show (0 : Int) + (2 * (eW 1 E tp).mx 0 + 1) * 0 + ((1 : Nat) : Int) ≤ 3999998
    omega
  · have r0 := rr 0 (by decide)
    have r1 := rr 1 (by decide)
    rw [ro 2 (by decide), ro 3 (by decide)] at bl
    have m0 := mxe 0 (by decide)
    show (0 : Int) + (2 * (eW 2 E tp).mx 0 + 1) * (2 + (2 * (eW 2 E tp).mx 1 + 1) * 0) + (2 * (eW 2 E tp).mx 1 + 1) * 0 + ((2 : Nat) : Int) ≤ 3999998
    have b1 : rN 2 E 0 * 1 ≤ rN 2 E 0 * (rN 2 E 1 * (1 * 1)) := Nat.mul_le_mul_left _ (by omega)
    rw [m0]; omega
  · have r0 := rr 0 (by decide)
    have r1 := rr 1 (by decide)
    have r2 := rr 2 (by decide)
    rw [ro 3 (by decide)] at bl
    have m0 := mxe 0 (by decide)
    have m1 := mxe 1 (by decide)
    show (0 : Int) + (2 * (eW 3 E tp).mx 0 + 1) * (2 + (2 * (eW 3 E tp).mx 1 + 1) * (2 + (2 * (eW 3 E tp).mx 2 + 1) * 0)) + (2 * (eW 3 E tp).mx 1 + 1) * (2 + (2 * (eW 3 E tp).mx 2 + 1) * 0) + (2 * (eW 3 E tp).mx 2 + 1) * 0 + ((3 : Nat) : Int) ≤ 3999998
    rw [m0, m1, Int.mul_zero, Int.add_zero, Int.add_zero, Int.zero_add]
    have b1 : rN 3 E 0 * (rN 3 E 1 * 3) ≤ rN 3 E 0 * (rN 3 E 1 * (rN 3 E 2 * 1)) := Nat.mul_le_mul_left _ (Nat.mul_le_mul_left _ (by omega))
    have b2 : rN 3 E 0 * 1 ≤ rN 3 E 0 * rN 3 E 1 := Nat.mul_le_mul_left _ (by omega)
    have b3 : 1 * rN 3 E 1 ≤ rN 3 E 0 * rN 3 E 1 := Nat.mul_le_mul_right _ (by omega)
    have e1 : rN 3 E 0 * (rN 3 E 1 * 3) = 3 * (rN 3 E 0 * rN 3 E 1) := by rw [← Nat.mul_assoc, Nat.mul_comm]
    have e2 : ((rN 3 E 0 : Nat) : Int) * (2 + ((rN 3 E 1 : Nat) : Int) * 2) = 2 * (rN 3 E 0 : Int) + 2 * ((rN 3 E 0 * rN 3 E 1 : Nat) : Int) := by rw [Int.natCast_mul]; grind
    rw [e2]
    omega
  · have r0 := rr 0 (by decide)
    have r1 := rr 1 (by decide)
    have r2 := rr 2 (by decide)
    have r3 := rr 3 (by decide)
    have m0 := mxe 0 (by decide)
    have m1 := mxe 1 (by decide)
    have m2 := mxe 2 (by decide)
    show (0 : Int) + (2 * (eW 4 E tp).mx 0 + 1) * (2 + (2 * (eW 4 E tp).mx 1 + 1) * (2 + (2 * (eW 4 E tp).mx 2 + 1) * (2 + (2 * (eW 4 E tp).mx 3 + 1) * 0))) + (2 * (eW 4 E tp).mx 1 + 1) * (2 + (2 * (eW 4 E tp).mx 2 + 1) * (2 + (2 * (eW 4 E tp).mx 3 + 1) * 0)) + (2 * (eW 4 E tp).mx 2 + 1) * (2 + (2 * (eW 4 E tp).mx 3 + 1) * 0) + (2 * (eW 4 E tp).mx 3 + 1) * 0 + ((4 : Nat) : Int) ≤ 3999998
    rw [m0, m1, m2, Int.mul_zero, Int.add_zero, Int.add_zero, Int.zero_add]
    generalize hA : rN 4 E 0 = a at *
    generalize hB : rN 4 E 1 = b at *
    generalize hC : rN 4 E 2 = c at *
    generalize hD : rN 4 E 3 = d at *
    have b1 : a * (b * (c * 3)) ≤ a * (b * (c * d)) := Nat.mul_le_mul_left _ (Nat.mul_le_mul_left _ (Nat.mul_le_mul_left _ (by omega)))
    have e1 : a * (b * (c * 3)) = 3 * (a * b * c) := by grind
    have c1 : a * b * 3 ≤ a * b * c := Nat.mul_le_mul_left _ (by omega)
    have c2 : 3 * (b * c) ≤ a * (b * c) := Nat.mul_le_mul_right _ (by omega)
    have c3 : a * 3 ≤ a * b := Nat.mul_le_mul_left _ (by omega)
    have c4 : 3 * b ≤ a * b := Nat.mul_le_mul_right _ (by omega)
    have c5 : 3 * c ≤ b * c := Nat.mul_le_mul_right _ (by omega)
    have e2 : a * (b * c) = a * b * c := by rw [Nat.mul_assoc]
    have e3 : (a : Int) * (2 + (b : Int) * (2 + (c : Int) * 2)) + (b : Int) * (2 + (c : Int) * 2) + (c : Int) * 2 = 2 * (a : Int) + 2 * ((a * b : Nat) : Int) + 2 * ((a * b * c : Nat) : Int) + 2 * (b : Int) + 2 * ((b * c : Nat) : Int) + 2 * (c : Int) := by
      rw [Int.natCast_mul, Int.natCast_mul, Int.natCast_mul, Int.natCast_mul]; grind
    rw [e3]
    omega
theorem eW_ok (h1 : 1 ≤ nl) (h : okF nl E) (ht : 0 ≤ tp ∧ tp ≤ 100) : (eW nl E tp).ok := by
  have h4 := h.1
  have hs := symT_pad (nl := nl) h.2.2.1
  have hq := okF_PDQ h1 h
  have en : (eW nl E tp).n = nl.toNat := rfl
  refine ⟨by rw [en]; omega, Or.inl rfl, Or.inr rfl, fun k hk => ?_, fun k j hk hj => sW_bd h1 h (by rw [en] at hk; omega) hj, fun k x hk => ?_, fun k x y hk hxy => lW_cg (by rw [en] at hk; omega) hxy, fun k x hk => ?_, fun k x v hk hl hv => ?_, guard_W h1 h⟩
  · rw [en] at hk
    have d := dW_bd h1 h (k := k) (by omega)
    have d2 := dW_bd h1 h (k := k + 1) (by omega)
    have rf := reach_facts h1 h (k := k) (by omega)
    refine ⟨?_, ⟨d2.1, ?_⟩, ?_, ?_⟩
    · show 1 ≤ sW (UW nl E) k k; rw [sW_diag (by omega)]; exact d.1
    · show dW (UW nl E) (k + 1) ≤ 1000000; have := d2.2.2 (by omega); omega
    · show 0 ≤ reachS nl E k; omega
    · show reachS nl E k ≤ 1000000; omega
  · rw [en] at hk
    have := lW_step (U := UW nl E) (tp := tp) (k := k) (by omega) x
    show sW (UW nl E) k k * lW (UW nl E) tp (k + 1) x = dW (UW nl E) (k + 1) * lW (UW nl E) tp k x - (sW (UW nl E) k k * x k + smS (sW (UW nl E)) x k k) * (sW (UW nl E) k k * x k + smS (sW (UW nl E)) x k k)
    rw [sW_diag (by omega)]; exact this
  · rw [en] at hk
    have a := lW_le (tp := tp) (UW_PD h1 h) (k := k) (by omega) x
    have d := dW_bd h1 h (k := k) (by omega)
    have m := mul_bd (a := tp) (b := dW (UW nl E) k) (A := 100) (B := 96059601) (by omega) (by omega) (by omega) (by omega)
    show lW (UW nl E) tp k x ≤ 100000000000
    omega
  · rw [en] at hk
    have hv' : v * v ≤ dW (UW nl E) (k + 1) * lW (UW nl E) tp k x := by
      have : v * v ≤ dW (UW nl E) (k + 1) * lW (UW nl E) tp k x - 0 := hv
      omega
    have b := boxE hs hq (k := k) (by omega) rfl hv'
    have rf := reach_facts h1 h (k := k) (by omega)
    have d := dW_bd h1 h (k := k) (by omega)
    have e4 : P4 (pmT od0 (padT nl E)) = P4 (padT nl E) := od0_P4 hs
    show -((reachS nl E k + 1) * sW (UW nl E) k k) < v - smS (sW (UW nl E)) x k k ∧ v - smS (sW (UW nl E)) x k k < (reachS nl E k + 1) * sW (UW nl E) k k
    rw [sW_diag (by omega)]
    have b' : P4 (padT nl E) * ((v - smS (sW (UW nl E)) x k k) * (v - smS (sW (UW nl E)) x k k)) ≤ tp * P3 (sub3 k (padT nl E)) * (dW (UW nl E) k * dW (UW nl E) k) := by rw [← e4]; exact b
    generalize v - smS (sW (UW nl E)) x k k = w at *
    generalize dW (UW nl E) k = D at *
    generalize P3 (sub3 k (padT nl E)) = R at *
    generalize P4 (padT nl E) = Q at *
    generalize reachS nl E k = m at *
    have dd : 0 < D * D := Int.mul_pos (by omega) (by omega)
    have a1 : tp * R ≤ 100 * R := Int.mul_le_mul_of_nonneg_right ht.2 (by omega)
    have a2 := Int.mul_le_mul_of_nonneg_right a1 (show 0 ≤ D * D by omega)
    have a3 := Int.mul_lt_mul_of_pos_right rf.2.2.1 dd
    refine sq_lt (Int.mul_nonneg (by omega) (by omega)) ?_
    refine Int.lt_of_mul_lt_mul_left (a := Q) ?_ (by omega)
    rw [show Q * ((m + 1) * D * ((m + 1) * D)) = Q * ((m + 1) * (m + 1)) * (D * D) by grind]
    omega
end Ell2
