/-! FORMS: minors without a letter, letters that change places, letters that are changed -/
section PosF
variable {T T' : Nat → Nat → Int} {nl : Int} {E : Nat → Int}
def eqT (T T' : Nat → Nat → Int) : Prop := ∀ i j, i < 4 → j < 4 → T i j = T' i j
theorem QT_cg (h : eqT T T') (x : V4) : QT T x = QT T' x := by
  unfold QT; rw [h 0 0 (by omega) (by omega), h 1 1 (by omega) (by omega), h 2 2 (by omega) (by omega), h 3 3 (by omega) (by omega), h 0 1 (by omega) (by omega), h 0 2 (by omega) (by omega), h 0 3 (by omega) (by omega), h 1 2 (by omega) (by omega), h 1 3 (by omega) (by omega), h 2 3 (by omega) (by omega)]
theorem PDQ_cg (h : eqT T T') (hp : PDQ T) : PDQ T' := fun x0 x1 x2 x3 hx => by rw [← QT_cg h]; exact hp x0 x1 x2 x3 hx
theorem P4_cg (h : eqT T T') : P4 T = P4 T' := by
  unfold P4; rw [h 0 0 (by omega) (by omega), h 1 1 (by omega) (by omega), h 2 2 (by omega) (by omega), h 3 3 (by omega) (by omega), h 0 1 (by omega) (by omega), h 0 2 (by omega) (by omega), h 0 3 (by omega) (by omega), h 1 2 (by omega) (by omega), h 1 3 (by omega) (by omega), h 2 3 (by omega) (by omega)]
theorem P3_cg (h : eqT T T') : P3 T = P3 T' := by
  unfold P3; rw [h 0 0 (by omega) (by omega), h 1 1 (by omega) (by omega), h 2 2 (by omega) (by omega), h 0 1 (by omega) (by omega), h 0 2 (by omega) (by omega), h 1 2 (by omega) (by omega)]
theorem sub3_cg (h : eqT T T') (k : Nat) : eqT (sub3 k T) (sub3 k T') := by
  intro i j hi hj
  unfold sub3
  split
  · exact h _ _ (by split <;> omega) (by split <;> omega)
  · rfl
theorem symT_pad (hs : symS E) : symT (padT nl E) := fun i j hi hj => padT_sym hs hi hj
theorem sub3_sym (k : Nat) (hs : symT T) : symT (sub3 k T) := by
  intro i j hi hj
  unfold sub3
  by_cases h : i < 3 ∧ j < 3
  · rw [if_pos h, if_pos (show j < 3 ∧ i < 3 by omega)]; exact hs _ _ (by split <;> omega) (by split <;> omega)
  · rw [if_neg h, if_neg (show ¬ (j < 3 ∧ i < 3) by omega)]
    by_cases e : i = j
    · rw [if_pos e, if_pos e.symm]
    · rw [if_neg e, if_neg (Ne.symm e)]
theorem subk_PDQ {k : Nat} (hk : k < 4) (h : PDQ T) : PDQ (sub3 k T) := by
  rcases (show k = 0 ∨ k = 1 ∨ k = 2 ∨ k = 3 by omega) with rfl | rfl | rfl | rfl
  · exact sub0_PDQ h
  · exact sub1_PDQ h
  · exact sub2_PDQ h
  · exact sub3_PDQ h
/-- letters from m on are squares alone -/
def padded (m : Nat) (T : Nat → Nat → Int) : Prop := ∀ i j, i < 4 → j < 4 → (m ≤ i ∨ m ≤ j) → T i j = if i = j then 1 else 0
theorem detB_PD {m : Nat} (hm : m ≤ 4) (hs : symT T) (hp : padded m T) (h : PD T) : detB m T 0 1 = P4 T := by
  obtain ⟨h1, h2, h3, h4⟩ := h
  have s10 := hs 1 0 (by omega) (by omega)
  have s20 := hs 2 0 (by omega) (by omega)
  have s21 := hs 2 1 (by omega) (by omega)
  have s30 := hs 3 0 (by omega) (by omega)
  have s31 := hs 3 1 (by omega) (by omega)
  have s32 := hs 3 2 (by omega) (by omega)
  rcases (show m = 0 ∨ m = 1 ∨ m = 2 ∨ m = 3 ∨ m = 4 by omega) with rfl | rfl | rfl | rfl | rfl
  · have z : ∀ i j, i < 4 → j < 4 → T i j = if i = j then 1 else 0 := fun i j a b => hp i j a b (by omega)
    unfold P4 t4 t3
    rw [z 0 0 (by omega) (by omega), z 0 1 (by omega) (by omega), z 0 2 (by omega) (by omega), z 0 3 (by omega) (by omega), z 1 1 (by omega) (by omega), z 1 2 (by omega) (by omega), z 1 3 (by omega) (by omega), z 2 2 (by omega) (by omega), z 2 3 (by omega) (by omega), z 3 3 (by omega) (by omega)]
    simp [detB]
  · have z : ∀ i j, i < 4 → j < 4 → (1 ≤ i ∨ 1 ≤ j) → T i j = if i = j then 1 else 0 := hp
    rw [detB_1, if_neg (by omega)]
    unfold P4 t4 t3
    rw [z 0 1 (by omega) (by omega) (by omega), z 0 2 (by omega) (by omega) (by omega), z 0 3 (by omega) (by omega) (by omega), z 1 1 (by omega) (by omega) (by omega), z 1 2 (by omega) (by omega) (by omega), z 1 3 (by omega) (by omega) (by omega), z 2 2 (by omega) (by omega) (by omega), z 2 3 (by omega) (by omega) (by omega), z 3 3 (by omega) (by omega) (by omega)]
    simp
  · have z : ∀ i j, i < 4 → j < 4 → (2 ≤ i ∨ 2 ≤ j) → T i j = if i = j then 1 else 0 := hp
    rw [detB_2 s10, if_neg (by omega), if_neg (by omega)]
    unfold P4 P2 t4 t3 t2
    rw [z 0 2 (by omega) (by omega) (by omega), z 0 3 (by omega) (by omega) (by omega), z 1 2 (by omega) (by omega) (by omega), z 1 3 (by omega) (by omega) (by omega), z 2 2 (by omega) (by omega) (by omega), z 2 3 (by omega) (by omega) (by omega), z 3 3 (by omega) (by omega) (by omega)]
    simp
  · have z : ∀ i j, i < 4 → j < 4 → (3 ≤ i ∨ 3 ≤ j) → T i j = if i = j then 1 else 0 := hp
    rw [detB_3 s10 s20 s21, if_neg (by omega), if_neg (by omega), if_neg (by omega)]
    unfold P4 P3 t4
    rw [z 0 3 (by omega) (by omega) (by omega), z 1 3 (by omega) (by omega) (by omega), z 2 3 (by omega) (by omega) (by omega), z 3 3 (by omega) (by omega) (by omega)]
    simp
  · rw [detB_4 s10 s20 s21 s30 s31 s32, if_neg (by omega), if_neg (by omega), if_neg (by omega), if_neg (by omega)]
theorem padT_padded (h0 : 0 ≤ nl) (hz : zeroS nl E) : padded nl.toNat (padT nl E) := by
  intro i j hi hj h
  by_cases e : i = j
  · subst e; rw [if_pos rfl]; exact padT_out (by omega)
  · rw [if_neg e, padT_ne e]; exact hz i j hi hj (by omega)
/-- out of positive worths: the determinant -/
theorem detS_PDQ (h1 : 1 ≤ nl) (h4 : nl ≤ 4) (hs : symS E) (hz : zeroS nl E) (hq : PDQ (padT nl E)) : detS E nl (-1) = P4 (padT nl E) ∧ 0 < P4 (padT nl E) := by
  have hd := PD_of hq
  rw [detS_pad h1 h4, detB_PD (by omega) (symT_pad hs) (padT_padded (by omega) hz) hd]
  exact ⟨rfl, hd.2.2.2⟩
theorem okF_PDQ (h1 : 1 ≤ nl) (h : okF nl E) : PDQ (padT nl E) := PDQ_of (okF_PD h1 h).1
theorem P4_sub3 (k : Nat) : P4 (sub3 k T) = P3 (sub3 k T) := by
  have z03 : sub3 k T 0 3 = 0 := rfl
  have z13 : sub3 k T 1 3 = 0 := rfl
  have z23 : sub3 k T 2 3 = 0 := rfl
  have z33 : sub3 k T 3 3 = 1 := rfl
  unfold P4 P3 t4; rw [z03, z13, z23, z33]; simp
/-- the minor without a letter -/
theorem detS_rest {k : Nat} (h1 : 1 ≤ nl) (h4 : nl ≤ 4) (hk : (k : Int) < nl) (hs : symS E) (hz : zeroS nl E) (hq : PDQ (padT nl E)) : detS E nl k = P3 (sub3 k (padT nl E)) ∧ 0 < P3 (sub3 k (padT nl E)) := by
  have hq3 := PD_of (subk_PDQ (k := k) (by omega) hq)
  have hpad : padded (nl.toNat - 1) (sub3 k (padT nl E)) := by
    intro i j hi hj h
    unfold sub3
    by_cases h3 : i < 3 ∧ j < 3
    · rw [if_pos h3]
      by_cases e : i = j
      · subst e; rw [if_pos rfl, if_pos (show k ≤ i by omega)]; exact padT_out (by omega)
      · rw [if_neg e, padT_ne (by split <;> split <;> omega)]
        refine hz _ _ (by split <;> omega) (by split <;> omega) ?_
        rcases h with h | h
        · left; rw [if_pos (show k ≤ i by omega)]; omega
        · right; rw [if_pos (show k ≤ j by omega)]; omega
    · rw [if_neg h3]
  have e : detS E nl k = detB (nl.toNat - 1) (sub3 k (padT nl E)) 0 1 := by
    unfold detS
    rw [show skn (k : Int) nl = nl.toNat - 1 by unfold skn; rw [if_pos (by omega)]; omega]
    refine detB_congr _ _ _ _ _ (fun i j a1 a2 a3 a4 => ?_)
    unfold sub3
    rw [if_pos (by omega), padT_in (by split <;> omega)]
    unfold sk
    congr 1
    split <;> split <;> (split <;> split <;> omega)
  rw [e, detB_PD (by omega) (sub3_sym k (symT_pad hs)) hpad hq3, P4_sub3]
  exact ⟨rfl, hq3.2.2.1⟩
/-- two by two minors -/
theorem PDQ_two (h : PDQ T) (hs : symT T) {i j : Nat} (hi : i < 4) (hj : j < 4) (hij : i ≠ j) : 0 < T i i ∧ 0 < T i i * T j j - T i j * T i j := by
  have d0 : 0 < T 0 0 := by have := h 1 0 0 0 (by omega); unfold QT at this; simp at this; exact this
  have d1 : 0 < T 1 1 := by have := h 0 1 0 0 (by omega); unfold QT at this; simp at this; exact this
  have d2 : 0 < T 2 2 := by have := h 0 0 1 0 (by omega); unfold QT at this; simp at this; exact this
  have d3 : 0 < T 3 3 := by have := h 0 0 0 1 (by omega); unfold QT at this; simp at this; exact this
  have m01 : 0 < T 0 0 * T 1 1 - T 0 1 * T 0 1 := by
    have q := h (T 1 1) (-T 0 1) 0 0 (by omega)
    have e : QT T ((T 1 1), (-T 0 1), 0, 0) = T 1 1 * (T 0 0 * T 1 1 - T 0 1 * T 0 1) := by unfold QT; grind
    rw [e] at q; exact pos_of_mul d1 q
  have m02 : 0 < T 0 0 * T 2 2 - T 0 2 * T 0 2 := by
    have q := h (T 2 2) 0 (-T 0 2) 0 (by omega)
    have e : QT T ((T 2 2), 0, (-T 0 2), 0) = T 2 2 * (T 0 0 * T 2 2 - T 0 2 * T 0 2) := by unfold QT; grind
    rw [e] at q; exact pos_of_mul d2 q
  have m03 : 0 < T 0 0 * T 3 3 - T 0 3 * T 0 3 := by
    have q := h (T 3 3) 0 0 (-T 0 3) (by omega)
    have e : QT T ((T 3 3), 0, 0, (-T 0 3)) = T 3 3 * (T 0 0 * T 3 3 - T 0 3 * T 0 3) := by unfold QT; grind
    rw [e] at q; exact pos_of_mul d3 q
  have m12 : 0 < T 1 1 * T 2 2 - T 1 2 * T 1 2 := by
    have q := h 0 (T 2 2) (-T 1 2) 0 (by omega)
    have e : QT T (0, (T 2 2), (-T 1 2), 0) = T 2 2 * (T 1 1 * T 2 2 - T 1 2 * T 1 2) := by unfold QT; grind
    rw [e] at q; exact pos_of_mul d2 q
  have m13 : 0 < T 1 1 * T 3 3 - T 1 3 * T 1 3 := by
    have q := h 0 (T 3 3) 0 (-T 1 3) (by omega)
    have e : QT T (0, (T 3 3), 0, (-T 1 3)) = T 3 3 * (T 1 1 * T 3 3 - T 1 3 * T 1 3) := by unfold QT; grind
    rw [e] at q; exact pos_of_mul d3 q
  have m23 : 0 < T 2 2 * T 3 3 - T 2 3 * T 2 3 := by
    have q := h 0 0 (T 3 3) (-T 2 3) (by omega)
    have e : QT T (0, 0, (T 3 3), (-T 2 3)) = T 3 3 * (T 2 2 * T 3 3 - T 2 3 * T 2 3) := by unfold QT; grind
    rw [e] at q; exact pos_of_mul d3 q
  rcases (show i = 0 ∧ j = 1 ∨ i = 0 ∧ j = 2 ∨ i = 0 ∧ j = 3 ∨ i = 1 ∧ j = 0 ∨ i = 1 ∧ j = 2 ∨ i = 1 ∧ j = 3 ∨ i = 2 ∧ j = 0 ∨ i = 2 ∧ j = 1 ∨ i = 2 ∧ j = 3 ∨ i = 3 ∧ j = 0 ∨ i = 3 ∧ j = 1 ∨ i = 3 ∧ j = 2 by omega) with ⟨rfl, rfl⟩ | ⟨rfl, rfl⟩ | ⟨rfl, rfl⟩ | ⟨rfl, rfl⟩ | ⟨rfl, rfl⟩ | ⟨rfl, rfl⟩ | ⟨rfl, rfl⟩ | ⟨rfl, rfl⟩ | ⟨rfl, rfl⟩ | ⟨rfl, rfl⟩ | ⟨rfl, rfl⟩ | ⟨rfl, rfl⟩
  · exact ⟨d0, m01⟩
  · exact ⟨d0, m02⟩
  · exact ⟨d0, m03⟩
  · rw [hs 1 0 (by omega) (by omega), Int.mul_comm (T 1 1)]; exact ⟨d1, m01⟩
  · exact ⟨d1, m12⟩
  · exact ⟨d1, m13⟩
  · rw [hs 2 0 (by omega) (by omega), Int.mul_comm (T 2 2)]; exact ⟨d2, m02⟩
  · rw [hs 2 1 (by omega) (by omega), Int.mul_comm (T 2 2)]; exact ⟨d2, m12⟩
  · exact ⟨d2, m23⟩
  · rw [hs 3 0 (by omega) (by omega), Int.mul_comm (T 3 3)]; exact ⟨d3, m03⟩
  · rw [hs 3 1 (by omega) (by omega), Int.mul_comm (T 3 3)]; exact ⟨d3, m13⟩
  · rw [hs 3 2 (by omega) (by omega), Int.mul_comm (T 3 3)]; exact ⟨d3, m23⟩
/-- with squares at most 99 all entries are small -/
theorem PDQ_ent (h : PDQ T) (hs : symT T) (hd : ∀ i, i < 4 → T i i ≤ 99) {i j : Nat} (hi : i < 4) (hj : j < 4) : -99 ≤ T i j ∧ T i j ≤ 99 := by
  by_cases e : i = j
  · subst e
    have := (PDQ_two h hs (i := i) (j := if i = 0 then 1 else 0) hi (by split <;> omega) (by split <;> omega)).1
    have := hd i hi; omega
  · have m := PDQ_two h hs hi hj e
    have m2 := PDQ_two h hs hj hi (Ne.symm e)
    have a := hd i hi
    have b := hd j hj
    have c : T i i * T j j ≤ 99 * 99 := Int.mul_le_mul a b (by omega) (by omega)
    constructor
    · by_cases h2 : -99 ≤ T i j
      · exact h2
      · have := Int.mul_le_mul (a := 99) (c := -T i j) (b := 99) (d := -T i j) (by omega) (by omega) (by omega) (by omega)
        rw [Int.neg_mul_neg] at this; omega
    · by_cases h2 : T i j ≤ 99
      · exact h2
      · have := Int.mul_le_mul (a := 99) (c := T i j) (b := 99) (d := T i j) (by omega) (by omega) (by omega) (by omega)
        omega
theorem swi_lt {i j k m : Nat} (hi : i < m) (hj : j < m) (hk : k < m) : swi i j k < m := by unfold swi; split; exact hj; split; exact hi; exact hk
theorem pm_eq {i j : Nat} (h4 : nl ≤ 4) (hi : (i : Int) < nl) (hj : (j : Int) < nl) (hz : zeroS nl E) : eqT (padT nl (swpE E nl.toNat i j)) (pmT (swi i j) (padT nl E)) := by
  intro p q hp hq
  unfold pmT padT swpE
  have e1 : (4 * p + q) / 4 = p := by omega
  have e2 : (4 * p + q) % 4 = q := by omega
  rw [e1, e2]
  have key : ∀ p, p < 4 → (nl ≤ (swi i j p : Int) ↔ nl ≤ (p : Int)) := by intro p hp; unfold swi; split; omega; split; omega; omega
  have inj : swi i j p = swi i j q ↔ p = q := by unfold swi; repeat' split
                                                 all_goals omega
  have kp := key p hp
  have kq := key q hq
  by_cases h : p < nl.toNat ∧ q < nl.toNat
  · rw [if_pos h, if_neg (by omega), if_neg (by omega)]
  · rw [if_neg h]
    by_cases e : p = q
    · rw [if_pos (by omega), if_pos (by omega)]
    · rw [if_neg (by omega), if_neg (by omega), hz p q hp hq (by omega)]
      exact (hz _ _ (swi_lt (by omega) (by omega) hp) (swi_lt (by omega) (by omega) hq) (by omega)).symm
theorem swi_comm (i j : Nat) : swi i j = swi j i := by funext k; unfold swi; repeat' split
                                                       all_goals omega
theorem swi_id (i : Nat) : swi i i = fun k => k := by funext k; unfold swi; repeat' split
                                                      all_goals omega
theorem pm_all (hs : symT T) (h : PDQ T) {i j : Nat} (hi : i < 4) (hj : j < 4) : PDQ (pmT (swi i j) T) ∧ P4 (pmT (swi i j) T) = P4 T ∧ ∀ k, k < 4 → P3 (sub3 k (pmT (swi i j) T)) = P3 (sub3 (swi i j k) T) := by
  have kk : ∀ (i j : Nat), (P3 (sub3 0 (pmT (swi i j) T)) = P3 (sub3 (swi i j 0) T)) → (P3 (sub3 1 (pmT (swi i j) T)) = P3 (sub3 (swi i j 1) T)) → (P3 (sub3 2 (pmT (swi i j) T)) = P3 (sub3 (swi i j 2) T)) → (P3 (sub3 3 (pmT (swi i j) T)) = P3 (sub3 (swi i j 3) T)) → ∀ k, k < 4 → P3 (sub3 k (pmT (swi i j) T)) = P3 (sub3 (swi i j k) T) := by
    intro i j h0 h1 h2 h3 k hk
    rcases (show k = 0 ∨ k = 1 ∨ k = 2 ∨ k = 3 by omega) with rfl | rfl | rfl | rfl <;> assumption
  by_cases e : i = j
  · subst e; rw [swi_id]; exact ⟨h, rfl, fun _ _ => rfl⟩
  · have base : ∀ i j, i < j → j < 4 → PDQ (pmT (swi i j) T) ∧ P4 (pmT (swi i j) T) = P4 T ∧ ∀ k, k < 4 → P3 (sub3 k (pmT (swi i j) T)) = P3 (sub3 (swi i j k) T) := by
      intro i j hij hj
      rcases (show i = 0 ∧ j = 1 ∨ i = 0 ∧ j = 2 ∨ i = 0 ∧ j = 3 ∨ i = 1 ∧ j = 2 ∨ i = 1 ∧ j = 3 ∨ i = 2 ∧ j = 3 by omega) with ⟨rfl, rfl⟩ | ⟨rfl, rfl⟩ | ⟨rfl, rfl⟩ | ⟨rfl, rfl⟩ | ⟨rfl, rfl⟩ | ⟨rfl, rfl⟩
      · exact ⟨sw01_PDQ hs h, sw01_P4 hs, kk 0 1 (sw01_R0 hs) (sw01_R1 hs) (sw01_R2 hs) (sw01_R3 hs)⟩
      · exact ⟨sw02_PDQ hs h, sw02_P4 hs, kk 0 2 (sw02_R0 hs) (sw02_R1 hs) (sw02_R2 hs) (sw02_R3 hs)⟩
      · exact ⟨sw03_PDQ hs h, sw03_P4 hs, kk 0 3 (sw03_R0 hs) (sw03_R1 hs) (sw03_R2 hs) (sw03_R3 hs)⟩
      · exact ⟨sw12_PDQ hs h, sw12_P4 hs, kk 1 2 (sw12_R0 hs) (sw12_R1 hs) (sw12_R2 hs) (sw12_R3 hs)⟩
      · exact ⟨sw13_PDQ hs h, sw13_P4 hs, kk 1 3 (sw13_R0 hs) (sw13_R1 hs) (sw13_R2 hs) (sw13_R3 hs)⟩
      · exact ⟨sw23_PDQ hs h, sw23_P4 hs, kk 2 3 (sw23_R0 hs) (sw23_R1 hs) (sw23_R2 hs) (sw23_R3 hs)⟩
    by_cases hlt : i < j
    · exact base i j hlt hj
    · rw [swi_comm]; exact base j i (by omega) hi
theorem swp_sym {i j : Nat} (h4 : nl ≤ 4) (hi : (i : Int) < nl) (hj : (j : Int) < nl) (hs : symS E) (hz : zeroS nl E) : symS (swpE E nl.toNat i j) ∧ zeroS nl (swpE E nl.toNat i j) := by
  constructor
  · intro p q hp hq
    unfold swpE
    rw [show (4 * p + q) / 4 = p by omega, show (4 * p + q) % 4 = q by omega, show (4 * q + p) / 4 = q by omega, show (4 * q + p) % 4 = p by omega]
    by_cases h : p < nl.toNat ∧ q < nl.toNat
    · rw [if_pos h, if_pos ⟨h.2, h.1⟩]; exact hs _ _ (swi_lt (by omega) (by omega) hp) (swi_lt (by omega) (by omega) hq)
    · rw [if_neg h, if_neg (fun z => h ⟨z.2, z.1⟩)]; exact hs p q hp hq
  · intro p q hp hq h
    unfold swpE
    rw [show (4 * p + q) / 4 = p by omega, show (4 * p + q) % 4 = q by omega, if_neg (by omega)]; exact hz p q hp hq h
theorem box_of {nl : Int} {E : Nat → Int} (h : rN nl E 0 * (rN nl E 1 * (rN nl E 2 * rN nl E 3)) ≤ 1000000) : boxP nl E 4 ≤ 1000000 := by
  have p0 := rN_pos nl E 0
  have p1 := rN_pos nl E 1
  have p2 := rN_pos nl E 2
  have p3 := rN_pos nl E 3
  have c : ∀ i, ((rN nl E i : Nat) : Int) = 2 * reachS nl E i + 1 := fun i => by have := (reachS_bd nl E i).1; unfold rN; omega
  have q1 : rN nl E 0 * 1 ≤ rN nl E 0 * (rN nl E 1 * (rN nl E 2 * rN nl E 3)) := Nat.mul_le_mul_left _ (Nat.mul_pos p1 (Nat.mul_pos p2 p3))
  have q2 : rN nl E 0 * (rN nl E 1 * 1) ≤ rN nl E 0 * (rN nl E 1 * (rN nl E 2 * rN nl E 3)) := Nat.mul_le_mul_left _ (Nat.mul_le_mul_left _ (Nat.mul_pos p2 p3))
  have q3 : rN nl E 0 * (rN nl E 1 * (rN nl E 2 * 1)) ≤ rN nl E 0 * (rN nl E 1 * (rN nl E 2 * rN nl E 3)) := Nat.mul_le_mul_left _ (Nat.mul_le_mul_left _ (Nat.mul_le_mul_left _ p3))
  have b1 : boxP nl E 1 = ((rN nl E 0 : Nat) : Int) := by
    show (if (1000000 : Int) < 1 then 1 else 1 * (2 * reachS nl E 0 + 1)) = _
    rw [if_neg (by omega), c, Int.one_mul]
  have b2 : boxP nl E 2 = ((rN nl E 0 * rN nl E 1 : Nat) : Int) := by
    show (if 1000000 < boxP nl E 1 then boxP nl E 1 else boxP nl E 1 * (2 * reachS nl E 1 + 1)) = _
    rw [if_neg (by rw [b1]; omega), b1, ← c, Int.natCast_mul]
  have b3 : boxP nl E 3 = ((rN nl E 0 * rN nl E 1 * rN nl E 2 : Nat) : Int) := by
    show (if 1000000 < boxP nl E 2 then boxP nl E 2 else boxP nl E 2 * (2 * reachS nl E 2 + 1)) = _
    rw [Nat.mul_one] at q2
    rw [if_neg (by rw [b2]; omega), b2, ← c, Int.natCast_mul (rN nl E 0 * rN nl E 1)]
  show (if 1000000 < boxP nl E 3 then boxP nl E 3 else boxP nl E 3 * (2 * reachS nl E 3 + 1)) ≤ 1000000
  rw [Nat.mul_one, ← Nat.mul_assoc] at q3
  rw [if_neg (by rw [b3]; omega), b3, ← c, ← Int.natCast_mul, show rN nl E 0 * rN nl E 1 * rN nl E 2 * rN nl E 3 = rN nl E 0 * (rN nl E 1 * (rN nl E 2 * rN nl E 3)) by rw [Nat.mul_assoc, Nat.mul_assoc]]
  omega
theorem reachS_PDQ {k : Nat} (h1 : 1 ≤ nl) (h4 : nl ≤ 4) (hk : (k : Int) < nl) (hs : symS E) (hz : zeroS nl E) (hq : PDQ (padT nl E)) : reachS nl E k = rootQ ((100 * P3 (sub3 k (padT nl E))).tdiv (P4 (padT nl E))) := by
  unfold reachS; rw [if_pos hk, (detS_rest h1 h4 hk hs hz hq).1, (detS_PDQ h1 h4 hs hz hq).1]
theorem swp_law {i j : Nat} (h1 : 1 ≤ nl) (h : okF nl E) (hi : (i : Int) < nl) (hj : (j : Int) < nl) : okF nl (swpE E nl.toNat i j) ∧ detS (swpE E nl.toNat i j) nl (-1) = detS E nl (-1) ∧ boxP nl (swpE E nl.toNat i j) 4 = boxP nl E 4 := by
  have hq := okF_PDQ h1 h
  obtain ⟨h4, hl, hs, hz⟩ := h
  have hw := swp_sym h4 hi hj hs hz
  have hpm := pm_all (symT_pad (nl := nl) hs) hq (i := i) (j := j) (by omega) (by omega)
  have heq := pm_eq h4 hi hj hz
  have heq' : eqT (pmT (swi i j) (padT nl E)) (padT nl (swpE E nl.toNat i j)) := fun a b c d => (heq a b c d).symm
  have hq' := PDQ_cg heq' hpm.1
  have hd := detS_PDQ h1 h4 hw.1 hw.2 hq'
  have hd0 := detS_PDQ h1 h4 hs hz hq
  have hP4 : P4 (padT nl (swpE E nl.toNat i j)) = P4 (padT nl E) := by rw [P4_cg heq, hpm.2.1]
  have hr : ∀ k, (k : Nat) < 4 → rN nl (swpE E nl.toNat i j) k = rN nl E (swi i j k) := by
    intro k hk
    unfold rN
    congr 2
    by_cases hkn : (k : Int) < nl
    · have hsk : (swi i j k : Int) < nl := by have := swi_lt (i := i) (j := j) (k := k) (m := nl.toNat) (by omega) (by omega) (by omega); omega
      rw [reachS_PDQ h1 h4 hkn hw.1 hw.2 hq', reachS_PDQ h1 h4 hsk hs hz hq, hP4, P3_cg (sub3_cg heq k), hpm.2.2 k hk]
    · have : swi i j k = k := by unfold swi; rw [if_neg (by omega), if_neg (by omega)]
      rw [this]
      unfold reachS; rw [if_neg hkn, if_neg hkn]
  have hb := box_len hl.2.2
  have hprod : rN nl (swpE E nl.toNat i j) 0 * (rN nl (swpE E nl.toNat i j) 1 * (rN nl (swpE E nl.toNat i j) 2 * rN nl (swpE E nl.toNat i j) 3)) = rN nl E 0 * (rN nl E 1 * (rN nl E 2 * rN nl E 3)) := by
    rw [hr 0 (by omega), hr 1 (by omega), hr 2 (by omega), hr 3 (by omega)]
    generalize rN nl E = r
    have i4 : i < 4 := by omega
    have j4 : j < 4 := by omega
    clear hr hb hP4 hd hd0 hq' heq heq' hpm hw hq hl hi hj
    have key : ∀ (i j : Nat), i ≤ j → j < 4 → r (swi i j 0) * (r (swi i j 1) * (r (swi i j 2) * r (swi i j 3))) = r 0 * (r 1 * (r 2 * r 3)) := by
      intro i j hij hj
      rcases (show i = j ∨ i = 0 ∧ j = 1 ∨ i = 0 ∧ j = 2 ∨ i = 0 ∧ j = 3 ∨ i = 1 ∧ j = 2 ∨ i = 1 ∧ j = 3 ∨ i = 2 ∧ j = 3 by omega) with rfl | ⟨rfl, rfl⟩ | ⟨rfl, rfl⟩ | ⟨rfl, rfl⟩ | ⟨rfl, rfl⟩ | ⟨rfl, rfl⟩ | ⟨rfl, rfl⟩
      · rw [swi_id]
      · show r 1 * (r 0 * (r 2 * r 3)) = _; grind
      · show r 2 * (r 1 * (r 0 * r 3)) = _; grind
      · show r 3 * (r 1 * (r 2 * r 0)) = _; grind
      · show r 0 * (r 2 * (r 1 * r 3)) = _; grind
      · show r 0 * (r 3 * (r 2 * r 1)) = _; grind
      · show r 0 * (r 1 * (r 3 * r 2)) = _; grind
    by_cases hij : i ≤ j
    · exact key i j hij j4
    · rw [swi_comm]; exact key j i (by omega) i4
  have hbx : boxP nl (swpE E nl.toNat i j) 4 ≤ 1000000 := box_of (by rw [hprod]; exact hb.1)
  refine ⟨⟨h4, ⟨?_, ?_, hbx⟩, hw.1, hw.2⟩, ?_, ?_⟩
  · intro k hk
    unfold swpE
    split
    · have := swi_lt (i := i) (j := j) (k := k / 4) (m := 4) (by omega) (by omega) (by omega)
      have := swi_lt (i := i) (j := j) (k := k % 4) (m := 4) (by omega) (by omega) (by omega)
      exact hl.1 _ (by omega)
    · exact hl.1 k hk
  · rw [hd.1]; exact hd.2
  · rw [hd.1, hd0.1, hP4]
  · rw [hb.2, (box_len hbx).2, hprod]
end PosF
