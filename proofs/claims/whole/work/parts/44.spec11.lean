/-! COUNTS as answers -/
def cF (nl : Int) (E : Nat → Int) (m : Nat) : Int := cntL E (vecF nl E) m
def fF (nl : Int) (E : Nat → Int) (m : Nat) : V4 := fstL E (vecF nl E) m
def CN (nl : Int) (E : Nat → Int) (J : Nat → Nat → Int) : Prop := ∀ v : Nat, v ≤ 100 → J 52 v = cF nl E v ∧ 0 ≤ cF nl E v ∧ cF nl E v ≤ 1000000 ∧ (0 < cF nl E v → J 54 (4 * v) = (fF nl E v).1 ∧ J 54 (4 * v + 1) = (fF nl E v).2.1 ∧ J 54 (4 * v + 2) = (fF nl E v).2.2.1 ∧ J 54 (4 * v + 3) = (fF nl E v).2.2.2)
def offC (J J' : Nat → Nat → Int) : Prop := (∀ a, a ≠ 42 → a ≠ 52 → a ≠ 54 → J' a = J a) ∧ ∀ q, q ≠ 17 → q ≠ 18 → q ≠ 19 → J' 42 q = J 42 q
def offP (P P' : Nat → Nat → Int) : Prop := ∀ a, a ≠ 49 → a ≠ 50 → a ≠ 42 → P' a = P a
theorem pq_offC {J J' : Nat → Nat → Int} (h : offC J J') : pq J J' :=
  ⟨fun q _ => by rw [h.1 43 (by decide) (by decide) (by decide)], fun q _ => by rw [h.1 44 (by decide) (by decide) (by decide)], fun a ha => h.1 a (by intro e; subst e; exact absurd ha (by decide)) (by intro e; subst e; exact absurd ha (by decide)) (by intro e; subst e; exact absurd ha (by decide)), h.2 2 (by decide) (by decide) (by decide), h.2 5 (by decide) (by decide) (by decide), h.2 8 (by decide) (by decide) (by decide)⟩
theorem pp_offP {P P' : Nat → Nat → Int} (h : offP P P') : pp P P' := pp_off h
theorem vecF_len {nl : Int} {E : Nat → Int} (h : boxP nl E 4 ≤ 1000000) : (vecF nl E).length ≤ 1000000 := by
  unfold vecF; rw [vec0_len]; exact (box_len h).1
theorem CN_of {nl : Int} {E : Nat → Int} {J : Nat → Nat → Int} (hl : lawS nl E) (h : CntOK E (vecF nl E) J) : CN nl E J := by
  intro v hv
  have h1 := h v hv
  have h2 := cntL_bd E (vecF nl E) v
  have h3 := vecF_len hl.2.2
  refine ⟨h1.1, h2.1, by unfold cF; omega, fun hc => ?_⟩
  have h4 := h1.2 hc
  unfold fF
  rw [← h4]
  exact ⟨rfl, rfl, rfl, rfl⟩
/-- the least number from 101 - k on that isn't taken; 0: all are -/
def lackD (f : Nat → Int) : Nat → Int
  | 0 => 0
  | k + 1 => if f (100 - k) = 0 then ((100 - k : Nat) : Int) else lackD f k
def truF (nl : Int) (E : Nat → Int) : Int := lackD (cF nl E) 100
/-- the least number from 101 - k on where two differ -/
def diffD (f h : Nat → Int) : Nat → Int
  | 0 => -2
  | k + 1 => if f (100 - k) = h (100 - k) then diffD f h k else ((100 - k : Nat) : Int)
/-- the number from 101 - k on that is the i-th not taken, c of them ahead -/
def excD (f : Nat → Int) (i : Int) : Nat → Int → Int
  | 0, _ => -2
  | k + 1, c => if f (100 - k) = 0 then (if c = i then ((100 - k : Nat) : Int) else excD f i k (c + 1)) else excD f i k c
theorem lackD_bd (f : Nat → Int) : ∀ k, 0 ≤ lackD f k ∧ lackD f k ≤ 100
  | 0 => by simp [lackD]
  | k + 1 => by have := lackD_bd f k; unfold lackD; split <;> omega
theorem truF_bd (nl : Int) (E : Nat → Int) : 0 ≤ truF nl E ∧ truF nl E ≤ 100 := lackD_bd _ _
section Answers2
variable (J : Nat → Nat → Int)
noncomputable def aTakes (s m : Int) : Int := cif ((0 ≤ s ∧ s < 6 ∧ 0 < J 44 s.toNat) ∧ 0 ≤ m ∧ m ≤ 100) (cF (J 44 s.toNat) (eE J s) m.toNat) (-1)
def vAt (x : V4) (j : Int) : Int := if j = 0 then x.1 else if j = 1 then x.2.1 else if j = 2 then x.2.2.1 else x.2.2.2
noncomputable def aVector (s m j : Int) : Int := cif ((0 ≤ s ∧ s < 6 ∧ 0 < J 44 s.toNat) ∧ (0 ≤ m ∧ m ≤ 100) ∧ 0 ≤ j ∧ j < J 44 s.toNat) (if cF (J 44 s.toNat) (eE J s) m.toNat = 0 then -2147483648 else vAt (fF (J 44 s.toNat) (eE J s) m.toNat) j) (-2147483648)
noncomputable def aTruant (s : Int) : Int := cif (0 ≤ s ∧ s < 6 ∧ 0 < J 44 s.toNat) (if truF (J 44 s.toNat) (eE J s) = 0 then -2 else truF (J 44 s.toNat) (eE J s)) (-1)
noncomputable def aUnlike (s t : Int) : Int := cif ((0 ≤ s ∧ s < 6 ∧ 0 < J 44 s.toNat) ∧ 0 ≤ t ∧ t < 6 ∧ 0 < J 44 t.toNat) (diffD (cF (J 44 s.toNat) (eE J s)) (cF (J 44 t.toNat) (eE J t)) 101) (-1)
noncomputable def aException (s i : Int) : Int := cif (0 ≤ s ∧ s < 6 ∧ 0 < J 44 s.toNat) (excD (cF (J 44 s.toNat) (eE J s)) i 100 0) (-1)
end Answers2
section Lay
variable {g : ZG} {l : Launch} {Kd : ZK} {Rd : ZR} {n s0 : Nat} {J P : Nat → Nat → Int}
theorem cLay {p : Int} (hp : 0 ≤ p ∧ p < 74) (h1 : 1 ≤ J 44 p.toNat) (hF : okF (J 44 p.toNat) (eE J p)) : ZC g l MX9_layCounts [.ref 42, .int (iZ p)] (KF Kd, zi J, zj P, RF Rd, n, s0) (fun rr hh => rr = none ∧ ∃ J' P', hh = (KF Kd, zi J', zj P', RF Rd, n, s0) ∧ CN (J 44 p.toNat) (eE J p) J' ∧ offC J J' ∧ offP P P') := by
  refine ZC.mono (cMX9_layCounts hp ⟨by omega, hF.1⟩ hF.2.1 (okF_pos h1 hF)) ?_
  rintro _ _ ⟨rfl, J', P', rfl, hC, hO, hP⟩
  exact ⟨rfl, J', P', rfl, CN_of hF.2.1 hC, hO, hP⟩
end Lay
