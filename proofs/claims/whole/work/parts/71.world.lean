/-! THE CLASS'S WORLD: forms and their tables, slots, nodes, sheets, the brood, room -/
def ent (Rd : ZR) (r : Nat) : Nat := (Rd r 1).getD 0
/-- a cell that is a form -/
def isF (Kd : ZK) (n r : Nat) : Prop := 66 ≤ r ∧ r < n ∧ Kd r = (13, 0)
def TkV (J : Nat → Nat → Int) (nl : Int) (E : Nat → Int) (c f : Nat) : Prop := ∀ m : Nat, m ≤ 100 → J c m = cF nl E m ∧ (0 < cF nl E m → ∀ j : Nat, (j : Int) < nl → J f (nl.toNat * m + j) = vAt (fF nl E m) j)
def TkOK (Kd : ZK) (J : Nat → Nat → Int) (Rd : ZR) (n r : Nat) (nl : Int) (E : Nat → Int) : Prop := Rd r 4 = none ∨ ∃ t c f, Rd r 4 = some t ∧ (66 ≤ t ∧ t < n ∧ Kd t = (16, 0)) ∧ (Rd t 0 = some c ∧ Rd t 1 = some f) ∧ (66 ≤ c ∧ c < n ∧ Kd c = (1, 101)) ∧ (66 ≤ f ∧ f < n ∧ Kd f = (1, 101 * nl.toNat)) ∧ TkV J nl E c f
def BtV (J : Nat → Nat → Int) (nl : Int) (E : Nat → Int) (b : Nat) : Prop := ∀ m : Nat, 2 ≤ m → m ≤ 16 → J b m = 0 ∨ J b m = ((restS nl E m : Nat) : Int)
def BtOK (Kd : ZK) (J : Nat → Nat → Int) (Rd : ZR) (n r : Nat) (nl : Int) (E : Nat → Int) : Prop := Rd r 5 = none ∨ ∃ b, Rd r 5 = some b ∧ (66 ≤ b ∧ b < n ∧ Kd b = (1, 17)) ∧ BtV J nl E b
/-- a form as it must be -/
def GF (Kd : ZK) (J : Nat → Nat → Int) (Rd : ZR) (n r : Nat) : Prop := (∃ e, Rd r 1 = some e ∧ 66 ≤ e ∧ e < n ∧ Kd e = (1, 16)) ∧ (1 ≤ J r 0 ∧ okF (J r 0) (J (ent Rd r)) ∧ J r 2 = detS (J (ent Rd r)) (J r 0) (-1) ∧ J r 3 = boxP (J r 0) (J (ent Rd r)) 4) ∧ TkOK Kd J Rd n r (J r 0) (J (ent Rd r)) ∧ BtOK Kd J Rd n r (J r 0) (J (ent Rd r))
def FI (Kd : ZK) (J : Nat → Nat → Int) (Rd : ZR) (n : Nat) : Prop := (∀ r, isF Kd n r → GF Kd J Rd n r) ∧ (∀ r q b, isF Kd n r → isF Kd n q → Rd r 5 = some b → Rd q 5 = some b → r = q)
/-- a form's cell for a place of the memory -/
def FA (A : Nat → Nat → Int) (Kd : ZK) (J : Nat → Nat → Int) (Rd : ZR) (n q r : Nat) : Prop := isF Kd n r ∧ J r 0 = A 44 q ∧ ∀ k, k < 16 → J (ent Rd r) k = A 43 (16 * q + k)
def PL (A : Nat → Nat → Int) (Kd : ZK) (J : Nat → Nat → Int) (Rd : ZR) (n q : Nat) (x : Option Nat) : Prop := (x = none ∧ A 44 q = 0) ∨ ∃ r, x = some r ∧ FA A Kd J Rd n q r
def oF (Kd : ZK) (n : Nat) (x : Option Nat) : Prop := x = none ∨ ∃ r, x = some r ∧ isF Kd n r
def SH (A J : Nat → Nat → Int) : Prop := ∀ q, q < 4 → J (18 + 2 * q) 0 = A 63 q ∧ J (18 + 2 * q) 1 = A 64 q ∧ ∀ i, i < 40 → J (19 + 2 * q) i = A 65 (40 * q + i)
def RI (A : Nat → Nat → Int) (Kd : ZK) (J : Nat → Nat → Int) (Rd : ZR) (n : Nat) : Prop :=
  (∀ s, s < 6 → PL A Kd J Rd n s (Rd 5 s)) ∧ (∀ s, s < 6 → PL A Kd J Rd n (36 + s) (Rd 6 s)) ∧
  (J 7 0 = A 42 2 ∧ ∀ k : Nat, (k : Int) < A 42 2 → PL A Kd J Rd n (6 + k) (Rd 8 k) ∧ J 9 k = A 45 k ∧ J 10 k = A 46 k) ∧
  (J 12 0 = A 42 5 ∧ ∀ k : Nat, (k : Int) < A 42 5 → PL A Kd J Rd n (42 + k) (Rd 13 k) ∧ J 14 k = A 47 k ∧ J 15 k = A 48 k) ∧
  (∀ k, k < 30 → oF Kd n (Rd 8 k) ∧ oF Kd n (Rd 13 k)) ∧ J 4 4 = A 42 8 ∧ SH A J
def encV (x : V4) : Int := x.1 % 256 + 256 * (x.2.1 % 256) + 65536 * (x.2.2.1 % 256)
def BrOK (J : Nat → Nat → Int) (nl : Int) (E : Nat → Int) (rw j : Nat) : Prop := grow nl E = 0 ∧ J 40 2 = truF nl E ∧ J 40 1 = ((kids nl E).length : Int) ∧ (kids nl E).length ≤ 64 * 2 ^ j ∧ ∀ k x, (kids nl E)[k]? = some x → J rw k = encV x
def BI (Kd : ZK) (J : Nat → Nat → Int) (Rd : ZR) (n rw j : Nat) : Prop := (Rd 40 3 = some rw ∧ KF Kd rw = (1, 64 * 2 ^ j) ∧ j ≤ 15 ∧ (rw = 41 ∨ (66 ≤ rw ∧ rw < n))) ∧ (Rd 40 0 = none ∨ ∃ r, Rd 40 0 = some r ∧ isF Kd n r ∧ BrOK J (J r 0) (J (ent Rd r)) rw j)
def lckT (Kd : ZK) (Rd : ZR) (k : Nat) : Nat → Bool := fun r => decide (Kd r = (13, 0)) && decide (66 ≤ r) && (Rd r k).isNone
def RM (Kd : ZK) (Rd : ZR) (n s0 c j : Nat) : Prop := (n : Int) + 3 * cnt (lckT Kd Rd 4) n + cnt (lckT Kd Rd 5) n ≤ 66 + 7 * c + j ∧ (s0 : Int) + 507 * cnt (lckT Kd Rd 4) n + 17 * cnt (lckT Kd Rd 5) n ≤ 20000 + 600 * c + ((128 * 2 ^ j : Nat) : Int)
def OKA (A : Nat → Nat → Int) : Prop := okJ A ∧ okT A ∧ okS A
def WD (A : Nat → Nat → Int) (c : Nat) (Kd : ZK) (J : Nat → Nat → Int) (Rd : ZR) (n s0 : Nat) : Prop := 66 ≤ n ∧ FI Kd J Rd n ∧ RI A Kd J Rd n ∧ OKA A ∧ ∃ rw j, BI Kd J Rd n rw j ∧ RM Kd Rd n s0 c j
/-- what a call leaves as it was -/
def ka (a : Nat) : Bool := decide (a < 66) && !(a == 11 || a == 16 || a == 26 || a == 27 || a == 29 || a == 30 || a == 35 || a == 36 || a == 38 || a == 39 || a == 40 || a == 41)
def ks (a : Nat) : Bool := !(a == 11 || a == 16 || a == 26 || a == 27 || a == 29 || a == 30 || a == 35 || a == 36 || a == 38 || a == 39) && (decide (a < 42) || decide (66 ≤ a))
def Ev (Kd : ZK) (J : Nat → Nat → Int) (Rd : ZR) (n : Nat) (Kd' : ZK) (J' : Nat → Nat → Int) (Rd' : ZR) (n' : Nat) : Prop := n ≤ n' ∧ (∀ r, isF Kd n r → Kd' r = (13, 0) ∧ J' r = J r ∧ Rd' r 1 = Rd r 1 ∧ J' (ent Rd r) = J (ent Rd r)) ∧ (∀ a, ka a = true → J' a = J a) ∧ (∀ a, a = 5 ∨ a = 6 ∨ a = 8 ∨ a = 13 → Rd' a = Rd a)
section World
variable {A A' : Nat → Nat → Int} {Kd Kd' Kd2 : ZK} {J J' J2 : Nat → Nat → Int} {Rd Rd' Rd2 : ZR} {n n' n2 s0 c q r : Nat}
theorem ent_of {e : Nat} (h : Rd r 1 = some e) : ent Rd r = e := by unfold ent; rw [h]; rfl
theorem GF_ent (h : GF Kd J Rd n r) : Rd r 1 = some (ent Rd r) ∧ 66 ≤ ent Rd r ∧ ent Rd r < n ∧ Kd (ent Rd r) = (1, 16) := by
  obtain ⟨⟨e, h1, h2⟩, _⟩ := h
  rw [ent_of h1]; exact ⟨h1, h2⟩
theorem Ev_refl : Ev Kd J Rd n Kd J Rd n := ⟨Nat.le_refl _, fun r hr => ⟨hr.2.2, rfl, rfl, rfl⟩, fun _ _ => rfl, fun _ _ => rfl⟩
theorem Ev_isF (h : Ev Kd J Rd n Kd' J' Rd' n') (hr : isF Kd n r) : isF Kd' n' r := ⟨hr.1, by have := h.1; have := hr.2.1; omega, (h.2.1 r hr).1⟩
theorem Ev_ent (h : Ev Kd J Rd n Kd' J' Rd' n') (hr : isF Kd n r) : ent Rd' r = ent Rd r := by unfold ent; rw [(h.2.1 r hr).2.2.1]
theorem Ev_trans (h : Ev Kd J Rd n Kd' J' Rd' n') (h2 : Ev Kd' J' Rd' n' Kd2 J2 Rd2 n2) : Ev Kd J Rd n Kd2 J2 Rd2 n2 := by
  refine ⟨Nat.le_trans h.1 h2.1, fun r hr => ?_, fun a ha => (h2.2.2.1 a ha).trans (h.2.2.1 a ha), fun a ha => (h2.2.2.2 a ha).trans (h.2.2.2 a ha)⟩
  have a1 := h.2.1 r hr
  have a2 := h2.2.1 r (Ev_isF h hr)
  rw [Ev_ent h hr] at a2
  exact ⟨a2.1, a2.2.1.trans a1.2.1, a2.2.2.1.trans a1.2.2.1, a2.2.2.2.trans a1.2.2.2⟩
theorem Ev_FA (h : Ev Kd J Rd n Kd' J' Rd' n') (hf : FA A Kd J Rd n q r) : FA A Kd' J' Rd' n' q r := by
  have a1 := h.2.1 r hf.1
  refine ⟨Ev_isF h hf.1, by rw [a1.2.1]; exact hf.2.1, fun k hk => ?_⟩
  rw [Ev_ent h hf.1, a1.2.2.2]; exact hf.2.2 k hk
theorem Ev_PL {x : Option Nat} (h : Ev Kd J Rd n Kd' J' Rd' n') (hp : PL A Kd J Rd n q x) : PL A Kd' J' Rd' n' q x := by
  rcases hp with hp | ⟨r, h1, h2⟩
  · exact Or.inl hp
  · exact Or.inr ⟨r, h1, Ev_FA h h2⟩
theorem Ev_oF {x : Option Nat} (h : Ev Kd J Rd n Kd' J' Rd' n') (hp : oF Kd n x) : oF Kd' n' x := by
  rcases hp with hp | ⟨r, h1, h2⟩
  · exact Or.inl hp
  · exact Or.inr ⟨r, h1, Ev_isF h h2⟩
theorem ka_sh {q : Nat} (h : q < 4) : ka (18 + 2 * q) = true ∧ ka (19 + 2 * q) = true := by
  rcases (show q = 0 ∨ q = 1 ∨ q = 2 ∨ q = 3 by omega) with rfl | rfl | rfl | rfl <;> decide
theorem RI_Ev (h : RI A Kd J Rd n) (e : Ev Kd J Rd n Kd' J' Rd' n') : RI A Kd' J' Rd' n' := by
  obtain ⟨h1, h2, h3, h4, h5, h6, h7⟩ := h
  have kk := e.2.2.1
  have kr := e.2.2.2
  refine ⟨fun s hs => ?_, fun s hs => ?_, ⟨?_, fun k hk => ?_⟩, ⟨?_, fun k hk => ?_⟩, fun k hk => ?_, ?_, fun q hq => ?_⟩
  · rw [kr 5 (by simp)]; exact Ev_PL e (h1 s hs)
  · rw [kr 6 (by simp)]; exact Ev_PL e (h2 s hs)
  · rw [kk 7 (by decide)]; exact h3.1
  · rw [kr 8 (by simp), kk 9 (by decide), kk 10 (by decide)]; exact ⟨Ev_PL e (h3.2 k hk).1, (h3.2 k hk).2⟩
  · rw [kk 12 (by decide)]; exact h4.1
  · rw [kr 13 (by simp), kk 14 (by decide), kk 15 (by decide)]; exact ⟨Ev_PL e (h4.2 k hk).1, (h4.2 k hk).2⟩
  · rw [kr 8 (by simp), kr 13 (by simp)]; exact ⟨Ev_oF e (h5 k hk).1, Ev_oF e (h5 k hk).2⟩
  · rw [kk 4 (by decide)]; exact h6
  · rw [kk _ (ka_sh hq).1, kk _ (ka_sh hq).2]; exact h7 q hq
/-- growth: what stands below n stays -/
def agr (Kd : ZK) (J : Nat → Nat → Int) (Rd : ZR) (n : Nat) (Kd' : ZK) (J' : Nat → Nat → Int) (Rd' : ZR) (n' : Nat) : Prop := n ≤ n' ∧ ∀ a, 66 ≤ a → a < n → Kd' a = Kd a ∧ J' a = J a ∧ Rd' a = Rd a
theorem agr_isF (h : agr Kd J Rd n Kd' J' Rd' n') (hr : isF Kd n r) : isF Kd' n' r := ⟨hr.1, by have := h.1; have := hr.2.1; omega, by rw [(h.2 r hr.1 hr.2.1).1]; exact hr.2.2⟩
theorem GF_agr (h : agr Kd J Rd n Kd' J' Rd' n') (hr : isF Kd n r) (hg : GF Kd J Rd n r) : GF Kd' J' Rd' n' r := by
  have hn := h.1
  have ar := h.2 r hr.1 hr.2.1
  have en : ent Rd' r = ent Rd r := by unfold ent; rw [ar.2.2]
  have ge := GF_ent hg
  have ae := h.2 (ent Rd r) ge.2.1 ge.2.2.1
  obtain ⟨g1, g2, g3, g4⟩ := hg
  refine ⟨⟨ent Rd r, by rw [ar.2.2]; exact ge.1, ge.2.1, by omega, by rw [ae.1]; exact ge.2.2.2⟩, ?_, ?_, ?_⟩
  · rw [en, ar.2.1, ae.2.1]; exact g2
  · rw [en, ar.2.1, ae.2.1]
    rcases g3 with g3 | ⟨t, c, f, t1, t2, t3, t4, t5, t6⟩
    · left; rw [ar.2.2]; exact g3
    · right
      have at' := h.2 t t2.1 t2.2.1
      have ac := h.2 c t4.1 t4.2.1
      have af := h.2 f t5.1 t5.2.1
      refine ⟨t, c, f, by rw [ar.2.2]; exact t1, ⟨t2.1, by omega, by rw [at'.1]; exact t2.2.2⟩, by rw [at'.2.2]; exact t3, ⟨t4.1, by omega, by rw [ac.1]; exact t4.2.2⟩, ⟨t5.1, by omega, by rw [af.1]; exact t5.2.2⟩, ?_⟩
      unfold TkV at t6 ⊢
      rw [ac.2.1, af.2.1]; exact t6
  · rw [en, ar.2.1, ae.2.1]
    rcases g4 with g4 | ⟨b, t1, t2, t3⟩
    · left; rw [ar.2.2]; exact g4
    · right
      have ab := h.2 b t2.1 t2.2.1
      refine ⟨b, by rw [ar.2.2]; exact t1, ⟨t2.1, by omega, by rw [ab.1]; exact t2.2.2⟩, ?_⟩
      unfold BtV at t3 ⊢
      rw [ab.2.1]; exact t3
theorem FI_agr (h : agr Kd J Rd n Kd' J' Rd' n') (hf : FI Kd J Rd n) (hnew : ∀ r, n ≤ r → isF Kd' n' r → GF Kd' J' Rd' n' r ∧ Rd' r 5 = none) : FI Kd' J' Rd' n' := by
  have old : ∀ r, r < n → isF Kd' n' r → isF Kd n r := fun r h1 h2 => ⟨h2.1, h1, by rw [← (h.2 r h2.1 h1).1]; exact h2.2.2⟩
  refine ⟨fun r hr => ?_, fun r q b hr hq h1 h2 => ?_⟩
  · by_cases e : r < n
    · exact GF_agr h (old r e hr) (hf.1 r (old r e hr))
    · exact (hnew r (by omega) hr).1
  · by_cases e1 : r < n
    · by_cases e2 : q < n
      · rw [(h.2 r hr.1 e1).2.2] at h1
        rw [(h.2 q hq.1 e2).2.2] at h2
        exact hf.2 r q b (old r e1 hr) (old q e2 hq) h1 h2
      · rw [(hnew q (by omega) hq).2] at h2; cases h2
    · rw [(hnew r (by omega) hr).2] at h1; cases h1
theorem KF_agr (h : agr Kd J Rd n Kd' J' Rd' n') {a : Nat} (ha : a < n) : KF Kd' a = KF Kd a := by
  by_cases e : 66 ≤ a
  · rw [KF_dyn e, KF_dyn e]; exact (h.2 a e ha).1
  · have h9 : a < 66 := by omega
    simp only [KF, if_pos h9]
theorem BI_agr {rw j : Nat} (hfi : FI Kd J Rd n) (h : agr Kd J Rd n Kd' J' Rd' n') (h66 : 66 ≤ n) (h40 : J' 40 = J 40 ∧ J' 41 = J 41 ∧ Rd' 40 = Rd 40) (hb : BI Kd J Rd n rw j) : BI Kd' J' Rd' n' rw j := by
  obtain ⟨⟨b1, b2, b3, b4⟩, b5⟩ := hb
  have hrw : rw < n := by omega
  have jrw : J' rw = J rw := by
    rcases b4 with e | e
    · subst e; exact h40.2.1
    · exact (h.2 rw e.1 e.2).2.1
  refine ⟨⟨by rw [h40.2.2]; exact b1, by rw [KF_agr h hrw]; exact b2, b3, by have := h.1; omega⟩, ?_⟩
  rcases b5 with e | ⟨r, e1, e2, e3⟩
  · left; rw [h40.2.2]; exact e
  · right
    have ar := h.2 r e2.1 e2.2.1
    have en : ent Rd' r = ent Rd r := by unfold ent; rw [ar.2.2]
    have ge := GF_ent (hfi.1 r e2)
    refine ⟨r, by rw [h40.2.2]; exact e1, agr_isF h e2, ?_⟩
    rw [en, ar.2.1, (h.2 _ ge.2.1 ge.2.2.1).2.1]
    unfold BrOK at e3 ⊢
    rw [h40.1, jrw]; exact e3
theorem RM_mono {j : Nat} (h : RM Kd Rd n s0 c j) : RM Kd Rd n s0 (c + 1) j := by
  unfold RM at h ⊢; generalize ((128 * 2 ^ j : Nat) : Int) = w at *; omega
theorem WD_mono (h : WD A c Kd J Rd n s0) : WD A (c + 1) Kd J Rd n s0 := by
  obtain ⟨h1, h2, h3, h4, rw, j, h5, h6⟩ := h
  exact ⟨h1, h2, h3, h4, rw, j, h5, RM_mono h6⟩
/-- scratch changes alone -/
theorem WD_scr (h : WD A c Kd J Rd n s0) (hj : ∀ a, ks a = true → J' a = J a) : WD A c Kd J' Rd n s0 := by
  obtain ⟨h1, h2, h3, h4, rw, j, h5, h6⟩ := h
  have kd : ∀ a, 66 ≤ a → J' a = J a := fun a ha => hj a (by
    unfold ks
    rw [show (a == 11) = false from beq_false_of_ne (by omega), show (a == 16) = false from beq_false_of_ne (by omega), show (a == 26) = false from beq_false_of_ne (by omega), show (a == 27) = false from beq_false_of_ne (by omega), show (a == 29) = false from beq_false_of_ne (by omega), show (a == 30) = false from beq_false_of_ne (by omega), show (a == 35) = false from beq_false_of_ne (by omega), show (a == 36) = false from beq_false_of_ne (by omega), show (a == 38) = false from beq_false_of_ne (by omega), show (a == 39) = false from beq_false_of_ne (by omega), decide_eq_true ha]
    simp)
  have ag : agr Kd J Rd n Kd J' Rd n := ⟨Nat.le_refl _, fun a ha _ => ⟨rfl, kd a ha, rfl⟩⟩
  have pl : ∀ {q : Nat} {x : Option Nat}, PL A Kd J Rd n q x → PL A Kd J' Rd n q x := by
    intro q x hp
    rcases hp with hp | ⟨r, p1, p2, p3, p4⟩
    · exact Or.inl hp
    · have ge := GF_ent (h2.1 r p2)
      exact Or.inr ⟨r, p1, p2, by rw [kd r p2.1]; exact p3, fun k hk => by rw [kd _ ge.2.1]; exact p4 k hk⟩
  obtain ⟨r1, r2, r3, r4, r5, r6, r7⟩ := h3
  refine ⟨h1, FI_agr ag h2 (fun r a b => absurd b.2.1 (by omega)), ⟨fun s hs => pl (r1 s hs), fun s hs => pl (r2 s hs), ⟨by rw [hj 7 (by decide)]; exact r3.1, fun k hk => by rw [hj 9 (by decide), hj 10 (by decide)]; exact ⟨pl (r3.2 k hk).1, (r3.2 k hk).2⟩⟩, ⟨by rw [hj 12 (by decide)]; exact r4.1, fun k hk => by rw [hj 14 (by decide), hj 15 (by decide)]; exact ⟨pl (r4.2 k hk).1, (r4.2 k hk).2⟩⟩, r5, by rw [hj 4 (by decide)]; exact r6, fun q hq => ?_⟩, h4, rw, j, BI_agr h2 ag h1 ⟨hj 40 (by decide), hj 41 (by decide), rfl⟩ h5, h6⟩
  have kq : ks (18 + 2 * q) = true ∧ ks (19 + 2 * q) = true := by
    rcases (show q = 0 ∨ q = 1 ∨ q = 2 ∨ q = 3 by omega) with rfl | rfl | rfl | rfl <;> decide
  rw [hj _ kq.1, hj _ kq.2]; exact r7 q hq
theorem ks_ne {a b : Nat} (h : ks a = true) (hb : ks b = false) : a ≠ b := by intro e; subst e; rw [h] at hb; cases hb
theorem WD_dput {nl : Int} {E : Nat → Int} (h : WD A c Kd J Rd n s0) : WD A c Kd (dput J nl E) Rd n s0 := WD_scr h (fun _ ha => dput_off (ks_ne ha (by decide)) (ks_ne ha (by decide)))
/-- facts of a form's cell, as the walker asks for them -/
theorem FA_K (h : isF Kd n r) : KF Kd r = (13, 0) := by rw [KF_dyn h.1]; exact h.2.2
theorem FA_K1 (h : isF Kd n r) : (KF Kd r).1 = 13 := by rw [FA_K h]
theorem WD_GF (h : WD A c Kd J Rd n s0) (hr : isF Kd n r) : GF Kd J Rd n r := h.2.1.1 r hr
theorem WD_ent (h : WD A c Kd J Rd n s0) (hr : isF Kd n r) : RF Rd r 1 = some (ent Rd r) ∧ KF Kd (ent Rd r) = (1, 16) ∧ 66 ≤ ent Rd r ∧ ent Rd r < n := by
  have g := GF_ent (WD_GF h hr)
  exact ⟨by rw [RF_dyn hr.1]; exact g.1, by rw [KF_dyn g.2.1]; exact g.2.2.2, g.2.1, g.2.2.1⟩
theorem FA_okF (h : WD A c Kd J Rd n s0) (hf : FA A Kd J Rd n q r) : 1 ≤ A 44 q ∧ okF (A 44 q) (fun k => A 43 (16 * q + k)) := by
  have g := (WD_GF h hf.1).2.1
  rw [hf.2.1] at g
  exact ⟨g.1, okF_cg hf.2.2 g.2.1⟩
end World
