/-! THE WORLD CHANGES: a new form, a slot is set -/
section World2
variable {A A' : Nat → Nat → Int} {Kd Kd' : ZK} {J J' : Nat → Nat → Int} {Rd Rd' : ZR} {n n' s0 c q r p s : Nat} {nl : Int} {E F : Nat → Int}
/-- what the reference's memory keeps over a call of the class -/
def cs (J J' : Nat → Nat → Int) : Prop := ∀ a, 42 ≤ a → a < 66 → J' a = J a
theorem cs_refl : cs J J := fun _ _ _ => rfl
theorem cs_trans {J2 : Nat → Nat → Int} (h : cs J J') (h2 : cs J' J2) : cs J J2 := fun a a1 a2 => (h2 a a1 a2).trans (h a a1 a2)
theorem KF_zk {a b : Nat} {x : Nat × Nat} (h : b ≠ a) : KF (zkp Kd a x) b = KF Kd b := by unfold KF; rw [zkp_ne h]
theorem dput_id (h1 : J 26 0 = nl) (h2 : ∀ k, k < 16 → J 27 k = E k) : dput J nl E = J := by
  rw [← h1, dput_ext (F := J 27) (fun k hk => (h2 k hk).symm), dput_self]
theorem okJ_jput (h : okJ A) (hn : nl = 0 ∨ (1 ≤ nl ∧ okF nl E)) : okJ (jput A p nl E) := by
  intro q hq
  by_cases e : q = p
  · subst e
    rw [jput_let]
    rcases hn with hn | hn
    · exact Or.inl hn
    · right
      exact ⟨hn.1, okF_cg (fun k hk => (jput_in hk).symm) hn.2⟩
  · rw [jput_let_ne e]
    rcases h q hq with h | h
    · exact Or.inl h
    · right
      exact ⟨h.1, okF_cg (fun k hk => (jput_43 (by omega)).symm) h.2⟩
theorem okT_jput (h : okT A) (hp : p < 6) : okT (jput A p nl E) := by
  unfold okT at h ⊢
  rw [jput_off (a := 42) (by decide) (by decide), jput_off (a := 45) (by decide) (by decide), jput_off (a := 46) (by decide) (by decide), jput_off (a := 47) (by decide) (by decide), jput_off (a := 48) (by decide) (by decide)]
  exact ⟨h.1, h.2.1, h.2.2.1, fun k hk => by rw [jput_let_ne (by omega)]; exact h.2.2.2.1 k hk, fun k hk => by rw [jput_let_ne (by omega)]; exact h.2.2.2.2 k hk⟩
theorem okS_jput (h : okS A) : okS (jput A p nl E) := by
  unfold okS at h ⊢
  rw [jput_off (a := 63) (by decide) (by decide), jput_off (a := 64) (by decide) (by decide), jput_off (a := 65) (by decide) (by decide)]
  exact h
theorem OKA_jput (h : OKA A) (hp : p < 6) (hn : nl = 0 ∨ (1 ≤ nl ∧ okF nl E)) : OKA (jput A p nl E) := ⟨okJ_jput h.1 hn, okT_jput h.2.1 hp, okS_jput h.2.2⟩
theorem FA_jput_ne (h : q ≠ p) (hf : FA A Kd J Rd n q r) : FA (jput A p nl E) Kd J Rd n q r := ⟨hf.1, by rw [jput_let_ne h]; exact hf.2.1, fun k hk => by rw [jput_43 (by omega)]; exact hf.2.2 k hk⟩
theorem PL_jput_ne {x : Option Nat} (h : q ≠ p) (hf : PL A Kd J Rd n q x) : PL (jput A p nl E) Kd J Rd n q x := by
  rcases hf with hf | ⟨r, h1, h2⟩
  · exact Or.inl ⟨hf.1, by rw [jput_let_ne h]; exact hf.2⟩
  · exact Or.inr ⟨r, h1, FA_jput_ne h h2⟩
theorem SH_jput (h : SH A J) : SH (jput A p nl E) J := by
  unfold SH at h ⊢
  rw [jput_off (a := 63) (by decide) (by decide), jput_off (a := 64) (by decide) (by decide), jput_off (a := 65) (by decide) (by decide)]
  exact h
/-- references of small cells don't matter to forms -/
theorem FA_R (hR : ∀ a, 66 ≤ a → Rd' a = Rd a) (hf : FA A Kd J Rd n q r) : FA A Kd J Rd' n q r := by
  have e : ent Rd' r = ent Rd r := by unfold ent; rw [hR r hf.1.1]
  exact ⟨hf.1, hf.2.1, fun k hk => by rw [e]; exact hf.2.2 k hk⟩
theorem PL_R {x : Option Nat} (hR : ∀ a, 66 ≤ a → Rd' a = Rd a) (hf : PL A Kd J Rd n q x) : PL A Kd J Rd' n q x := by
  rcases hf with hf | ⟨r, h1, h2⟩
  · exact Or.inl hf
  · exact Or.inr ⟨r, h1, FA_R hR h2⟩
theorem agr_R (hR : ∀ a, 66 ≤ a → Rd' a = Rd a) : agr Kd J Rd n Kd J Rd' n := ⟨Nat.le_refl _, fun a ha _ => ⟨rfl, rfl, hR a ha⟩⟩
theorem FI_R (hR : ∀ a, 66 ≤ a → Rd' a = Rd a) (h : FI Kd J Rd n) : FI Kd J Rd' n := FI_agr (agr_R hR) h (fun r a b => absurd b.2.1 (by omega))
theorem lckT_R {k : Nat} (hR : ∀ a, 66 ≤ a → Rd' a = Rd a) : lckT Kd Rd' k = lckT Kd Rd k := by
  funext r; unfold lckT
  by_cases h : 66 ≤ r
  · rw [hR r h]
  · rw [decide_eq_false h]; simp
theorem RM_R {j : Nat} (hR : ∀ a, 66 ≤ a → Rd' a = Rd a) (h : RM Kd Rd n s0 c j) : RM Kd Rd' n s0 c j := by unfold RM at *; rw [lckT_R hR, lckT_R hR]; exact h
theorem zup_R {a k : Nat} {x : Option Nat} (h : a < 66) : ∀ b, 66 ≤ b → zup Rd a k x b = Rd b := fun b hb => zup_ne (by omega)
/-- a slot is set -/
theorem WD_slot {x : Option Nat} (h : WD A c Kd J Rd n s0) (hs : s < 6) (hn : nl = 0 ∨ (1 ≤ nl ∧ okF nl E)) (hx : (x = none ∧ nl = 0) ∨ ∃ r, x = some r ∧ isF Kd n r ∧ J r 0 = nl ∧ ∀ k, k < 16 → J (ent Rd r) k = E k) : WD (jput A s nl E) c Kd J (zup Rd 5 s x) n s0 := by
  obtain ⟨h1, h2, ⟨r1, r2, r3, r4, r5, r6, r7⟩, h4, rw, j, h5, h6⟩ := h
  have hR := zup_R (Rd := Rd) (a := 5) (k := s) (x := x) (by decide)
  have pn : ∀ {q : Nat} {y : Option Nat}, q ≠ s → PL A Kd J Rd n q y → PL (jput A s nl E) Kd J (zup Rd 5 s x) n q y := fun hq hp => PL_R hR (PL_jput_ne hq hp)
  have o42 : jput A s nl E 42 = A 42 := jput_off (by decide) (by decide)
  refine ⟨h1, FI_R hR h2, ⟨fun t ht => ?_, fun t ht => ?_, ?_, ?_, fun k hk => ?_, ?_, SH_jput r7⟩, OKA_jput h4 hs hn, rw, j, ?_, RM_R hR h6⟩
  · by_cases e : t = s
    · subst e
      rw [zz]
      rcases hx with ⟨rfl, e2⟩ | ⟨r, rfl, q1, q2, q3⟩
      · exact Or.inl ⟨rfl, by rw [jput_let]; exact e2⟩
      · refine Or.inr ⟨r, rfl, FA_R hR ⟨q1, by rw [jput_let]; exact q2, fun k hk => by rw [jput_in hk]; exact q3 k hk⟩⟩
    · rw [zzi e]; exact pn e (r1 t ht)
  · rw [zzr (by decide)]; exact pn (by omega) (r2 t ht)
  · rw [o42, jput_off (a := 45) (by decide) (by decide), jput_off (a := 46) (by decide) (by decide), zup_ne (by decide)]
    exact ⟨r3.1, fun k hk => ⟨pn (by omega) (r3.2 k hk).1, (r3.2 k hk).2⟩⟩
  · rw [o42, jput_off (a := 47) (by decide) (by decide), jput_off (a := 48) (by decide) (by decide), zup_ne (by decide)]
    exact ⟨r4.1, fun k hk => ⟨pn (by omega) (r4.2 k hk).1, (r4.2 k hk).2⟩⟩
  · rw [zup_ne (by decide), zup_ne (by decide)]; exact r5 k hk
  · rw [o42]; exact r6
  · exact BI_agr h2 (agr_R hR) h1 ⟨rfl, rfl, zup_ne (by decide)⟩ h5
theorem Ev_agr (hf : FI Kd J Rd n) (h : agr Kd J Rd n Kd' J' Rd' n') (hj : ∀ a, ka a = true → J' a = J a) (hr : ∀ a, a = 5 ∨ a = 6 ∨ a = 8 ∨ a = 13 → Rd' a = Rd a) : Ev Kd J Rd n Kd' J' Rd' n' := by
  refine ⟨h.1, fun r hr => ?_, hj, hr⟩
  have ar := h.2 r hr.1 hr.2.1
  have ge := GF_ent (hf.1 r hr)
  exact ⟨by rw [ar.1]; exact hr.2.2, ar.2.1, by rw [ar.2.2], (h.2 _ ge.2.1 ge.2.2.1).2.1⟩
theorem lckT_agr {k m : Nat} (h : agr Kd J Rd n Kd' J' Rd' n') (hm : m ≤ n) : cnt (lckT Kd' Rd' k) m = cnt (lckT Kd Rd k) m := by
  refine cnt_congr (fun i hi => ?_)
  unfold lckT
  by_cases h6 : 66 ≤ i
  · rw [(h.2 i h6 (by omega)).1, (h.2 i h6 (by omega)).2.2]
  · rw [decide_eq_false h6]; simp
/-- a form is made -/
theorem WD_newF (h : WD A c Kd J Rd n s0) (h1 : 1 ≤ nl) (ho : okF nl E) (hK : Kd' = zkp (zkp Kd n (13, 0)) (n + 1) (1, 16)) (hJ : ∀ a, a ≠ n → a ≠ n + 1 → J' a = J a) (j0 : J' n 0 = nl) (j2 : J' n 2 = detS E nl (-1)) (j3 : J' n 3 = boxP nl E 4) (je : ∀ k, k < 16 → J' (n + 1) k = E k)
    (hR : ∀ a, a ≠ n → Rd' a = Rd a) (q1 : Rd' n 1 = some (n + 1)) (q4 : Rd' n 4 = none) (q5 : Rd' n 5 = none) : WD A (c + 1) Kd' J' Rd' (n + 2) (s0 + 22) ∧ isF Kd' (n + 2) n ∧ ent Rd' n = n + 1 := by
  obtain ⟨w1, w2, w3, w4, rw, j, w5, w6⟩ := h
  have kn : Kd' n = (13, 0) := by rw [hK, zkp_ne (by omega)]; exact zkp_eq
  have ke : Kd' (n + 1) = (1, 16) := by rw [hK]; exact zkp_eq
  have ag : agr Kd J Rd n Kd' J' Rd' (n + 2) := ⟨by omega, fun a ha hn => ⟨by rw [hK, zkp_ne (by omega), zkp_ne (by omega)], hJ a (by omega) (by omega), hR a (by omega)⟩⟩
  have en : ent Rd' n = n + 1 := ent_of q1
  have gn : GF Kd' J' Rd' (n + 2) n := by
    refine ⟨⟨n + 1, q1, by omega, by omega, ke⟩, ?_, Or.inl q4, Or.inl q5⟩
    rw [en, j0, j2, j3]
    exact ⟨h1, okF_cg (fun k hk => (je k hk).symm) ho, detS_congr ho.1 (fun k hk => (je k hk).symm), boxP_congr ho.1 (fun k hk => (je k hk).symm) 4⟩
  have fi : FI Kd' J' Rd' (n + 2) := FI_agr ag w2 (fun r hr hi => by
    have : r = n := by
      by_cases e : r = n + 1
      · subst e; have := hi.2.2; rw [ke] at this; cases this
      · have := hi.2.1; omega
    subst this; exact ⟨gn, q5⟩)
  have lo : ∀ a, a < 66 → J' a = J a := fun a ha => hJ a (by omega) (by omega)
  have ev : Ev Kd J Rd n Kd' J' Rd' (n + 2) := Ev_agr w2 ag (fun a ha => lo a (by unfold ka at ha; simp at ha; omega)) (fun a ha => hR a (by omega))
  refine ⟨⟨by omega, fi, RI_Ev w3 ev, w4, rw, j, BI_agr w2 ag w1 ⟨lo 40 (by decide), lo 41 (by decide), hR 40 (by omega)⟩ w5, ?_⟩, ⟨w1, by omega, kn⟩, en⟩
  have c4 : cnt (lckT Kd' Rd' 4) (n + 2) = cnt (lckT Kd Rd 4) n + 1 := by
    show cnt (lckT Kd' Rd' 4) n + (if lckT Kd' Rd' 4 n then 1 else 0) + (if lckT Kd' Rd' 4 (n + 1) then 1 else 0) = _
    rw [lckT_agr ag (Nat.le_refl _)]
    have a1 : lckT Kd' Rd' 4 n = true := by unfold lckT; rw [kn, q4, decide_eq_true w1]; rfl
    have a2 : lckT Kd' Rd' 4 (n + 1) = false := by unfold lckT; rw [ke]; rfl
    rw [a1, a2]; simp
  have c5 : cnt (lckT Kd' Rd' 5) (n + 2) = cnt (lckT Kd Rd 5) n + 1 := by
    show cnt (lckT Kd' Rd' 5) n + (if lckT Kd' Rd' 5 n then 1 else 0) + (if lckT Kd' Rd' 5 (n + 1) then 1 else 0) = _
    rw [lckT_agr ag (Nat.le_refl _)]
    have a1 : lckT Kd' Rd' 5 n = true := by unfold lckT; rw [kn, q5, decide_eq_true w1]; rfl
    have a2 : lckT Kd' Rd' 5 (n + 1) = false := by unfold lckT; rw [ke]; rfl
    rw [a1, a2]; simp
  unfold RM at w6 ⊢
  rw [c4, c5]
  generalize ((128 * 2 ^ j : Nat) : Int) = w at *
  omega
/-- sheets' cells -/
theorem sh_R {t : Int} (h : 0 ≤ t ∧ t < 4) : RF Rd 17 t.toNat = some (18 + 2 * t.toNat) := by
  rcases (show t = 0 ∨ t = 1 ∨ t = 2 ∨ t = 3 by omega) with rfl | rfl | rfl | rfl <;> rfl
theorem sh_K {t : Nat} (h : t < 4) : (KF Kd (18 + 2 * t)).1 = 15 ∧ RF Rd (18 + 2 * t) 2 = some (19 + 2 * t) ∧ KF Kd (19 + 2 * t) = (1, 40) := by
  rcases (show t = 0 ∨ t = 1 ∨ t = 2 ∨ t = 3 by omega) with rfl | rfl | rfl | rfl <;> exact ⟨rfl, rfl, rfl⟩
end World2
