/-! ANSWERS AND THE WORLD: what a call of the class must leave -/
abbrev PW (A : Nat → Nat → Int) (c : Nat) (J P : Nat → Nat → Int) (v : Value) : Option Value → ZH → Prop := fun rr hh => rr = some v ∧ ∃ (Kd' : ZK) (J' P' : Nat → Nat → Int) (Rd' : ZR) (n' s0' : Nat), hh = (KF Kd', zi J', zj P', RF Rd', n', s0') ∧ WD A c Kd' J' Rd' n' s0' ∧ cs J J' ∧ cs P P'
section World3
variable {A A' : Nat → Nat → Int} {Kd Kd' : ZK} {J J' P : Nat → Nat → Int} {Rd Rd' : ZR} {n n' s0 c q r p s : Nat} {nl : Int} {E F : Nat → Int}
theorem PW_id {v : Value} (hW : WD A c Kd J Rd n s0) : PW A (c + 1) J P v (some v) (KF Kd, zi J, zj P, RF Rd, n, s0) := ⟨rfl, Kd, J, P, Rd, n, s0, rfl, WD_mono hW, cs_refl, cs_refl⟩
theorem cs_dput (h : cs J J') : cs J (dput J' nl E) := fun a a1 a2 => by rw [dput_off (by omega) (by omega)]; exact h a a1 a2
theorem k_load {g : ZG} {l : Launch} {t : Int} (hW : WD A c Kd J Rd n s0) (hr : FA A Kd J Rd n t.toNat r) : ZC g l MX1_load [.ref 26, .ref r] (KF Kd, zi J, zj P, RF Rd, n, s0) (fun rr hh => rr = none ∧ hh = (KF Kd, zi (dput J (A 44 t.toNat) (eE A t)), zj P, RF Rd, n, s0)) := by
  have he := WD_ent hW hr.1
  refine ZC.mono (cMX1_load (FA_K1 hr.1) he.1 he.2.1 ⟨hr.1.1, he.2.2.1⟩) ?_
  rintro _ _ ⟨rfl, rfl⟩
  refine ⟨rfl, ?_⟩
  rw [hr.2.1, dput_ext (F := eE A t) (fun k hk => hr.2.2 k hk)]
/-- sheets alone change -/
theorem WD_sheets (h : WD A c Kd J Rd n s0) (hA : ∀ a, a ≠ 63 → a ≠ 64 → a ≠ 65 → A' a = A a) (hJ : ∀ a, ¬ (18 ≤ a ∧ a ≤ 25) → J' a = J a) (hS : SH A' J') (ho : okS A') : WD A' c Kd J' Rd n s0 := by
  obtain ⟨h1, h2, ⟨r1, r2, r3, r4, r5, r6, r7⟩, h4, rw, j, h5, h6⟩ := h
  have kd : ∀ a, 66 ≤ a → J' a = J a := fun a ha => hJ a (by omega)
  have ag : agr Kd J Rd n Kd J' Rd n := ⟨Nat.le_refl _, fun a ha _ => ⟨rfl, kd a ha, rfl⟩⟩
  have a42 := hA 42 (by decide) (by decide) (by decide)
  have a43 := hA 43 (by decide) (by decide) (by decide)
  have a44 := hA 44 (by decide) (by decide) (by decide)
  have pl : ∀ {q : Nat} {x : Option Nat}, PL A Kd J Rd n q x → PL A' Kd J' Rd n q x := by
    intro q x hp
    unfold PL FA at hp ⊢
    rw [a43, a44]
    rcases hp with hp | ⟨r, p1, p2, p3, p4⟩
    · exact Or.inl hp
    · have ge := GF_ent (h2.1 r p2)
      exact Or.inr ⟨r, p1, p2, by rw [kd r p2.1]; exact p3, fun k hk => by rw [kd _ ge.2.1]; exact p4 k hk⟩
  refine ⟨h1, FI_agr ag h2 (fun r a b => absurd b.2.1 (by omega)), ⟨fun s hs => pl (r1 s hs), fun s hs => pl (r2 s hs), ?_, ?_, r5, by rw [hJ 4 (by omega), a42]; exact r6, hS⟩, ⟨?_, ?_, ho⟩, rw, j, BI_agr h2 ag h1 ⟨hJ 40 (by omega), hJ 41 (by omega), rfl⟩ h5, h6⟩
  · rw [a42, hJ 7 (by omega), hJ 9 (by omega), hJ 10 (by omega), hA 45 (by decide) (by decide) (by decide), hA 46 (by decide) (by decide) (by decide)]
    exact ⟨r3.1, fun k hk => ⟨pl (r3.2 k hk).1, (r3.2 k hk).2⟩⟩
  · rw [a42, hJ 12 (by omega), hJ 14 (by omega), hJ 15 (by omega), hA 47 (by decide) (by decide) (by decide), hA 48 (by decide) (by decide) (by decide)]
    exact ⟨r4.1, fun k hk => ⟨pl (r4.2 k hk).1, (r4.2 k hk).2⟩⟩
  · have := h4.1
    unfold okJ at this ⊢
    rw [a43, a44]; exact this
  · have := h4.2.1
    unfold okT at this ⊢
    rw [a42, a44, hA 45 (by decide) (by decide) (by decide), hA 46 (by decide) (by decide) (by decide), hA 47 (by decide) (by decide) (by decide), hA 48 (by decide) (by decide) (by decide)]; exact this
/-- a cell that is no form is made -/
theorem WD_newX {kd len : Nat} (h : WD A c Kd J Rd n s0) (hk : kd ≠ 13) (hl : len ≤ 600) (hJ : ∀ a, a ≠ n → J' a = J a) (hR : ∀ a, a ≠ n → Rd' a = Rd a) : WD A (c + 1) (zkp Kd n (kd, len)) J' Rd' (n + 1) (s0 + len) := by
  obtain ⟨w1, w2, w3, w4, rw, j, w5, w6⟩ := h
  have kn : zkp Kd n (kd, len) n = (kd, len) := zkp_eq
  have ag : agr Kd J Rd n (zkp Kd n (kd, len)) J' Rd' (n + 1) := ⟨by omega, fun a ha hn => ⟨zkp_ne (by omega), hJ a (by omega), hR a (by omega)⟩⟩
  have no : ∀ r, n ≤ r → ¬ isF (zkp Kd n (kd, len)) (n + 1) r := fun r h1 h2 => by
    have : r = n := by have := h2.2.1; omega
    subst this
    have := h2.2.2
    rw [kn] at this
    exact hk (congrArg Prod.fst this)
  have lo : ∀ a, a < 66 → J' a = J a := fun a ha => hJ a (by omega)
  have ev : Ev Kd J Rd n (zkp Kd n (kd, len)) J' Rd' (n + 1) := Ev_agr w2 ag (fun a ha => lo a (by unfold ka at ha; simp at ha; omega)) (fun a ha => hR a (by omega))
  refine ⟨by omega, FI_agr ag w2 (fun r a b => absurd b (no r a)), RI_Ev w3 ev, w4, rw, j, BI_agr w2 ag w1 ⟨lo 40 (by decide), lo 41 (by decide), hR 40 (by omega)⟩ w5, ?_⟩
  have cn : ∀ k, cnt (lckT (zkp Kd n (kd, len)) Rd' k) (n + 1) = cnt (lckT Kd Rd k) n := fun k => by
    show cnt (lckT (zkp Kd n (kd, len)) Rd' k) n + (if lckT (zkp Kd n (kd, len)) Rd' k n then 1 else 0) = _
    rw [lckT_agr ag (Nat.le_refl _)]
    have a1 : lckT (zkp Kd n (kd, len)) Rd' k n = false := by
      unfold lckT; rw [kn, decide_eq_false (fun e => hk (congrArg Prod.fst e))]; rfl
    rw [a1]; simp
  unfold RM at w6 ⊢
  rw [cn, cn]
  generalize ((128 * 2 ^ j : Nat) : Int) = w at *
  omega
theorem detS_01 : detS E 1 0 = 1 := rfl
theorem single_ok {a : Int} (h : 1 ≤ a ∧ a ≤ 99) : okF 1 (fun k => if k = 0 then a else 0) ∧ detS (fun k => if k = 0 then a else 0) 1 (-1) = a := by
  have hd : detS (fun k => if k = 0 then a else 0) 1 (-1) = a := by
    unfold detS
    rw [show skn (-1) 1 = 1 from rfl, detB_1]
    show (if a ≤ 0 then 0 else a) = a
    rw [if_neg (by omega)]
  have hr : reachS 1 (fun k => if k = 0 then a else 0) 0 ≤ 10 := by
    unfold reachS
    rw [if_pos (by decide), hd]
    have e : detS (fun k => if k = 0 then a else 0) 1 ((0 : Nat) : Int) = 1 := rfl
    rw [e]
    have h1 := tdiv_nn (a := 100 * 1) (b := a) (by omega) (by omega)
    have h2 := tdiv_bd (a := 100 * 1) (b := a) (B := 100) (by omega) (by omega)
    have h3 := rootQ_spec (v := (100 * 1 : Int).tdiv a) h1 (by omega)
    by_cases g : rootQ ((100 * 1 : Int).tdiv a) ≤ 10
    · exact g
    · have := Int.mul_le_mul (show 11 ≤ rootQ ((100 * 1 : Int).tdiv a) by omega) (show 11 ≤ rootQ ((100 * 1 : Int).tdiv a) by omega) (by omega) (by omega)
      omega
  have hb : boxP 1 (fun k => if k = 0 then a else 0) 4 ≤ 1000000 := by
    rw [show (4 : Nat) = 1 + 3 from rfl, boxP_end (by decide)]
    show (if (1000000 : Int) < 1 then (1 : Int) else 1 * (2 * reachS 1 (fun k => if k = 0 then a else 0) 0 + 1)) ≤ 1000000
    rw [if_neg (by decide)]; omega
  refine ⟨⟨by decide, ⟨fun k hk => ?_, by rw [hd]; omega, hb⟩, fun i j hi hj => ?_, fun i j hi hj hh => ?_⟩, hd⟩
  · dsimp only; split <;> omega
  · dsimp only; exact ifc (by omega)
  · dsimp only; rw [if_neg (by omega)]
theorem lowS_id {so v : Int} (h : -99 ≤ v ∧ v ≤ 99) : lowS so v = v := by
  unfold lowS; split
  · rw [Int.bmod_eq_of_le (by omega) (by omega)]
  · rfl
theorem formE_tri {N : Nat → Int} {k : Int} (hk : 1 ≤ k ∧ k ≤ 4) {x : Nat} (hx : (x : Int) < tr k) : triI x < 16 ∧ formE N k.toNat (triI x) = N x := by
  rcases (show k = 1 ∨ k = 2 ∨ k = 3 ∨ k = 4 by omega) with rfl | rfl | rfl | rfl
  · have : x = 0 := by have : tr 1 = 1 := rfl
                       omega
    subst this; exact ⟨by decide, rfl⟩
  · rcases (show x = 0 ∨ x = 1 ∨ x = 2 by have : tr 2 = 3 := rfl
                                          omega) with rfl | rfl | rfl <;> exact ⟨by decide, rfl⟩
  · rcases (show x = 0 ∨ x = 1 ∨ x = 2 ∨ x = 3 ∨ x = 4 ∨ x = 5 by have : tr 3 = 6 := rfl
                                                                  omega) with rfl | rfl | rfl | rfl | rfl | rfl <;> exact ⟨by decide, rfl⟩
  · rcases (show x = 0 ∨ x = 1 ∨ x = 2 ∨ x = 3 ∨ x = 4 ∨ x = 5 ∨ x = 6 ∨ x = 7 ∨ x = 8 ∨ x = 9 by have : tr 4 = 10 := rfl
                                                                                                  omega) with rfl | rfl | rfl | rfl | rfl | rfl | rfl | rfl | rfl | rfl <;> exact ⟨by decide, rfl⟩
theorem formE_zero {N : Nat → Int} {k : Int} (hk : 0 ≤ k) : zeroS k (formE N k.toNat) := by
  intro i j hi hj hh
  unfold formE
  rw [show (4 * i + j) / 4 = i by omega, show (4 * i + j) % 4 = j by omega, if_neg (by omega)]
theorem joinE_zero {a b : Int} (h : 0 ≤ a ∧ 0 ≤ b ∧ a + b ≤ 4) (hz : zeroS a E) : zeroS (a + b) (joinE E F a.toNat b.toNat) := by
  intro i j hi hj hh
  unfold joinE
  rw [show (4 * i + j) / 4 = i by omega, show (4 * i + j) % 4 = j by omega, if_neg (by omega)]
  exact hz i j hi hj (by omega)
theorem zero_join (h : zeroS nl E) (hn : 0 ≤ nl) : ∀ q, q < 16 → joinE (fun _ => 0) E 0 nl.toNat q = E q := by
  intro q hq
  unfold joinE
  by_cases e : q / 4 < nl.toNat ∧ q % 4 < nl.toNat
  · rw [if_pos (by omega)]; congr 1; omega
  · rw [if_neg (by omega)]
    have := h (q / 4) (q % 4) (by omega) (by omega) (by omega)
    rw [show 4 * (q / 4) + q % 4 = q by omega] at this
    exact this.symm
theorem mul_sym {x : Int} (h : symS E) : symS (fun k => E k * x) := fun i j hi hj => by dsimp only; rw [h i j hi hj]
theorem mul_zero {x : Int} (h : zeroS nl E) : zeroS nl (fun k => E k * x) := fun i j hi hj hh => by dsimp only; rw [h i j hi hj hh, Int.zero_mul]
theorem mul_rng {x : Int} (h : entS E) (hx : 1 ≤ x ∧ x ≤ 99) : ∀ k, k < 16 → -2147483647 ≤ E k * x ∧ E k * x ≤ 2147483647 := fun k hk => by
  have := h k hk
  have m := mul_bd (a := E k) (b := x) (A := 99) (B := 99) (by omega) (by omega) (by omega) (by omega)
  omega
end World3
