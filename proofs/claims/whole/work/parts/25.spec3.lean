/-! PLACES: what stands at a place of the reference; which of its memory lasts. -/
noncomputable def cif {α : Type} (p : Prop) (a b : α) : α := @ite α p (Classical.propDecidable p) a b
theorem cif_pos {α : Type} {p : Prop} {a b : α} (h : p) : cif p a b = a := by unfold cif; exact if_pos h
theorem cif_neg {α : Type} {p : Prop} {a b : α} (h : ¬ p) : cif p a b = b := by unfold cif; exact if_neg h
def jput (J : Nat → Nat → Int) (p : Nat) (nl : Int) (E : Nat → Int) : Nat → Nat → Int := fun a q => if a = 44 ∧ q = p then nl else if a = 43 ∧ 16 * p ≤ q ∧ q < 16 * p + 16 then E (q - 16 * p) else J a q
def setE (E : Nat → Int) (i j : Nat) (a : Int) : Nat → Int := fun k => if k = 4 * j + i then a else if k = 4 * i + j then a else E k
section Places
variable {J : Nat → Nat → Int} {p : Nat} {nl m : Int} {E F : Nat → Int}
theorem jput_let : jput J p nl E 44 p = nl := by simp [jput]
theorem jput_let_ne {q : Nat} (h : q ≠ p) : jput J p nl E 44 q = J 44 q := by simp [jput, h]
theorem jput_off {a : Nat} (h1 : a ≠ 43) (h2 : a ≠ 44) : jput J p nl E a = J a := by funext q; simp [jput, h1, h2]
theorem jput_43 {q : Nat} (h : q < 16 * p ∨ 16 * p + 16 ≤ q) : jput J p nl E 43 q = J 43 q := by simp only [jput]; rw [if_neg (by omega), if_neg (by omega)]
theorem jput_in {k : Nat} (h : k < 16) : jput J p nl E 43 (16 * p + k) = E k := by
  unfold jput; rw [if_neg (by omega), if_pos ⟨rfl, by omega, by omega⟩, Nat.add_sub_cancel_left]
theorem eE_jput {r : Int} (hr : r.toNat = p) {k : Nat} (h : k < 16) : eE (jput J p nl E) r k = E k := by unfold eE; rw [hr]; exact jput_in h
theorem eE_jput_ne {r : Int} (hr : r.toNat ≠ p) {k : Nat} (h : k < 16) : eE (jput J p nl E) r k = eE J r k := by unfold eE; exact jput_43 (by omega)
theorem jput_setl : zup (jput J p nl E) 44 p m = jput J p m E := by
  funext a q; simp only [zup, jput]; by_cases ha : a = 44
  · subst ha; by_cases hq : q = p <;> simp [hq]
  · simp [ha]
theorem jput_set {k : Nat} {x : Int} (hk : k < 16) : zup (jput J p nl E) 43 (16 * p + k) x = jput J p nl (fun q => if q = k then x else E q) := by
  funext a q
  by_cases ha : a = 43
  · subst ha
    by_cases hq : q = 16 * p + k
    · subst hq
      rw [zz, jput_in hk, if_pos rfl]
    · rw [zzi hq]
      by_cases hin : 16 * p ≤ q ∧ q < 16 * p + 16
      · obtain ⟨d, rfl⟩ : ∃ d, q = 16 * p + d := ⟨q - 16 * p, by omega⟩
        rw [jput_in (by omega), jput_in (by omega), if_neg (by omega)]
      · rw [jput_43 (by omega), jput_43 (by omega)]
  · rw [zzr ha]
    by_cases h44 : a = 44
    · subst h44
      by_cases hq : q = p
      · subst hq; rw [jput_let, jput_let]
      · rw [jput_let_ne hq, jput_let_ne hq]
    · rw [jput_off ha h44, jput_off ha h44]
theorem jput_lay {i j : Nat} {a : Int} (hi : i < 4) (hj : j < 4) : zup (zup (jput J p nl E) 43 (16 * p + (4 * i + j)) a) 43 (16 * p + (4 * j + i)) a = jput J p nl (setE E i j a) := by
  rw [jput_set (by omega), jput_set (by omega)]; rfl
theorem jput_ext (h : ∀ k, k < 16 → E k = F k) : jput J p nl E = jput J p nl F := by
  funext a q; simp only [jput]; split
  · rfl
  · split
    · rename_i hx; exact h _ (by omega)
    · rfl
theorem jput_jput : jput (jput J p nl E) p m F = jput J p m F := by
  funext a q; simp only [jput]; split
  · rfl
  · split
    · rfl
    · rfl
theorem jput_self (h1 : J 44 p = nl) (h2 : ∀ k, k < 16 → J 43 (16 * p + k) = E k) : jput J p nl E = J := by
  funext a q; simp only [jput]; split
  · rename_i hx; rw [hx.1, hx.2]; exact h1.symm
  · split
    · rename_i hx; rw [← h2 (q - 16 * p) (by omega), hx.1]; congr 1; omega
    · rfl
theorem detS_congr {k but : Int} (hk : k ≤ 4) (h : ∀ q, q < 16 → E q = F q) : detS E k but = detS F k but := by
  unfold detS
  refine detB_congr _ _ _ _ _ (fun i j a1 a2 a3 a4 => h _ ?_)
  have b1 := sk_le (but := but) (i := i) k hk (by omega)
  have b2 := sk_le (but := but) (i := j) k hk (by omega)
  omega
theorem reachS_congr (hk : nl ≤ 4) (h : ∀ q, q < 16 → E q = F q) (i : Nat) : reachS nl E i = reachS nl F i := by
  unfold reachS; rw [detS_congr hk h, detS_congr hk h]
theorem boxP_congr (hk : nl ≤ 4) (h : ∀ q, q < 16 → E q = F q) : ∀ i, boxP nl E i = boxP nl F i
  | 0 => rfl
  | i + 1 => by unfold boxP; rw [boxP_congr hk h i, reachS_congr hk h i]
theorem lawS_congr (hk : nl ≤ 4) (h : ∀ q, q < 16 → E q = F q) : lawS nl E ↔ lawS nl F := by
  unfold lawS entS
  rw [detS_congr hk h, boxP_congr hk h]
  constructor
  · intro hl; exact ⟨fun k hk => by rw [← h k hk]; exact hl.1 k hk, hl.2⟩
  · intro hl; exact ⟨fun k hk => by rw [h k hk]; exact hl.1 k hk, hl.2⟩
end Places
/-- what lasts of the reference's memory, and the class's part of it -/
def pa (a : Nat) : Bool := a < 42 || 66 ≤ a || a == 45 || a == 46 || a == 47 || a == 48 || a == 56 || a == 63 || a == 64 || a == 65
def pq (J J' : Nat → Nat → Int) : Prop := (∀ q, q < 1152 → J' 43 q = J 43 q) ∧ (∀ q, q < 72 → J' 44 q = J 44 q) ∧ (∀ a, pa a = true → J' a = J a) ∧ J' 42 2 = J 42 2 ∧ J' 42 5 = J 42 5 ∧ J' 42 8 = J 42 8
def pp (P P' : Nat → Nat → Int) : Prop := ∀ a, (a < 42 ∨ 66 ≤ a) → P' a = P a
theorem pq_refl (J : Nat → Nat → Int) : pq J J := ⟨fun _ _ => rfl, fun _ _ => rfl, fun _ _ => rfl, rfl, rfl, rfl⟩
theorem pq_trans {J J1 J2 : Nat → Nat → Int} (h : pq J J1) (h2 : pq J1 J2) : pq J J2 :=
  ⟨fun q hq => (h2.1 q hq).trans (h.1 q hq), fun q hq => (h2.2.1 q hq).trans (h.2.1 q hq), fun a ha => (h2.2.2.1 a ha).trans (h.2.2.1 a ha), h2.2.2.2.1.trans h.2.2.2.1, h2.2.2.2.2.1.trans h.2.2.2.2.1, h2.2.2.2.2.2.trans h.2.2.2.2.2⟩
theorem pq_new {J : Nat → Nat → Int} {nl : Int} {E : Nat → Int} : pq J (jput J 72 nl E) :=
  ⟨fun q hq => jput_43 (by omega), fun q hq => jput_let_ne (by omega), fun a ha => jput_off (by intro h; subst h; exact absurd ha (by decide)) (by intro h; subst h; exact absurd ha (by decide)), by rw [jput_off (by decide) (by decide)], by rw [jput_off (by decide) (by decide)], by rw [jput_off (by decide) (by decide)]⟩
theorem pq_jput {J J' : Nat → Nat → Int} {p : Nat} {nl : Int} {E : Nat → Int} (h : pq J J') : pq (jput J p nl E) (jput J' p nl E) := by
  refine ⟨fun q hq => ?_, fun q hq => ?_, fun a ha => ?_, ?_, ?_, ?_⟩
  · simp only [jput]; split; rfl; split; rfl; exact h.1 q hq
  · simp only [jput]; split; rfl; split; rfl; exact h.2.1 q hq
  · funext q; simp only [jput]; split; rfl; split; rfl; rw [h.2.2.1 a ha]
  · rw [jput_off (by decide) (by decide), jput_off (by decide) (by decide)]; exact h.2.2.2.1
  · rw [jput_off (by decide) (by decide), jput_off (by decide) (by decide)]; exact h.2.2.2.2.1
  · rw [jput_off (by decide) (by decide), jput_off (by decide) (by decide)]; exact h.2.2.2.2.2
theorem pq_off {J J' : Nat → Nat → Int} (h : ∀ a, (pa a = true ∨ a = 43 ∨ a = 44 ∨ a = 42) → J' a = J a) : pq J J' :=
  ⟨fun q _ => by rw [h 43 (by simp)], fun q _ => by rw [h 44 (by simp)], fun a ha => h a (Or.inl ha), by rw [h 42 (by simp)], by rw [h 42 (by simp)], by rw [h 42 (by simp)]⟩
theorem pp_refl (P : Nat → Nat → Int) : pp P P := fun _ _ => rfl
theorem pp_off {P P' : Nat → Nat → Int} (h : ∀ a, a ≠ 49 → a ≠ 50 → a ≠ 42 → P' a = P a) : pp P P' := fun a ha => h a (by omega) (by omega) (by omega)
theorem pp_off1 {P P' : Nat → Nat → Int} (h : ∀ a, a ≠ 49 → P' a = P a) : pp P P' := fun a ha => h a (by omega)
theorem pp_trans {P P1 P2 : Nat → Nat → Int} (h : pp P P1) (h2 : pp P1 P2) : pp P P2 := fun a ha => (h2 a ha).trans (h a ha)
/-- a slot holds a form; a letter of it -/
def hasF (J : Nat → Nat → Int) (s : Int) : Prop := 0 ≤ s ∧ s < 6 ∧ 0 < J 44 s.toNat
/-- what stands at the places that last: nothing, or a lawful form, symmetric, with nothing beyond its letters -/
def symS (E : Nat → Int) : Prop := ∀ i j : Nat, i < 4 → j < 4 → E (4 * i + j) = E (4 * j + i)
def zeroS (nl : Int) (E : Nat → Int) : Prop := ∀ i j : Nat, i < 4 → j < 4 → (nl ≤ (i : Int) ∨ nl ≤ (j : Int)) → E (4 * i + j) = 0
def okF (nl : Int) (E : Nat → Int) : Prop := nl ≤ 4 ∧ lawS nl E ∧ symS E ∧ zeroS nl E
def okJ (J : Nat → Nat → Int) : Prop := ∀ q, q < 72 → J 44 q = 0 ∨ (1 ≤ J 44 q ∧ okF (J 44 q) (fun k => J 43 (16 * q + k)))
theorem okJ_let {J : Nat → Nat → Int} (h : okJ J) {q : Nat} (hq : q < 72) : 0 ≤ J 44 q ∧ J 44 q ≤ 4 := by
  rcases h q hq with h1 | h1
  · omega
  · have := h1.2.1; omega
theorem okJ_form {J : Nat → Nat → Int} (h : okJ J) {s : Int} (hs : 0 ≤ s ∧ s < 72) (hf : 0 < J 44 s.toNat) : okF (J 44 s.toNat) (eE J s) := by
  rcases h s.toNat (by omega) with h1 | h1
  · omega
  · exact h1.2
