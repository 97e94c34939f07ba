/-! GATHERING: the world while the brood is filled -/
section Gathw
variable {A : Nat → Nat → Int} {Kd K1 K2 : ZK} {J J1 J2 : Nat → Nat → Int} {Rd R1 R2 : ZR} {n n1 n2 s0 s1 s2 c r : Nat} {nl t : Int} {E F x : Nat → Int} {v w : V4} {L : List V4}
def rowK (k : Nat × Nat) : Prop := ∃ j : Nat, k = (1, 64 * 2 ^ j)
theorem rowK_no {p : Nat} (h : p = 16 ∨ p = 17 ∨ p = 101 ∨ p = 202 ∨ p = 303 ∨ p = 404) : ¬ rowK (1, p) := by
  rintro ⟨j, e⟩
  have e2 : p = 64 * 2 ^ j := congrArg Prod.snd e
  generalize 2 ^ j = q at e2
  omega
theorem rowK_k {k m : Nat} (h : k ≠ 1) : ¬ rowK (k, m) := by rintro ⟨j, e⟩; exact h (congrArg Prod.fst e)
/-- growth while rows are gathered -/
def agB (Kd : ZK) (J : Nat → Nat → Int) (Rd : ZR) (n : Nat) (K1 : ZK) (J1 : Nat → Nat → Int) (R1 : ZR) (n1 : Nat) : Prop := n ≤ n1 ∧ ∀ a, 66 ≤ a → a < n → K1 a = Kd a ∧ R1 a = Rd a ∧ (¬ rowK (Kd a) → J1 a = J a)
theorem GF_agB (h : agB Kd J Rd n K1 J1 R1 n1) (hr : isF Kd n r) (hg : GF Kd J Rd n r) : GF K1 J1 R1 n1 r := by
  have hn := h.1
  have ar := h.2 r hr.1 hr.2.1
  have jr : J1 r = J r := ar.2.2 (by rw [hr.2.2]; exact rowK_k (by decide))
  have en : ent R1 r = ent Rd r := by unfold ent; rw [ar.2.1]
  have ge := GF_ent hg
  have ae := h.2 (ent Rd r) ge.2.1 ge.2.2.1
  have je : J1 (ent Rd r) = J (ent Rd r) := ae.2.2 (by rw [ge.2.2.2]; exact rowK_no (by omega))
  obtain ⟨g1, g2, g3, g4⟩ := hg
  have h4 := g2.2.1.1
  refine ⟨⟨ent Rd r, by rw [ar.2.1]; exact ge.1, ge.2.1, by omega, by rw [ae.1]; exact ge.2.2.2⟩, ?_, ?_, ?_⟩
  · rw [en, jr, je]; exact g2
  · rw [en, jr, je]
    rcases g3 with g3 | ⟨t, c, f, t1, t2, t3, t4, t5, t6⟩
    · left; rw [ar.2.1]; exact g3
    · right
      have at' := h.2 t t2.1 t2.2.1
      have ac := h.2 c t4.1 t4.2.1
      have af := h.2 f t5.1 t5.2.1
      refine ⟨t, c, f, by rw [ar.2.1]; exact t1, ⟨t2.1, by omega, by rw [at'.1]; exact t2.2.2⟩, by rw [at'.2.1]; exact t3, ⟨t4.1, by omega, by rw [ac.1]; exact t4.2.2⟩, ⟨t5.1, by omega, by rw [af.1]; exact t5.2.2⟩, ?_⟩
      unfold TkV at t6 ⊢
      rw [ac.2.2 (by rw [t4.2.2]; exact rowK_no (by omega)), af.2.2 (by rw [t5.2.2]; exact rowK_no (by omega))]; exact t6
  · rw [en, jr, je]
    rcases g4 with g4 | ⟨b, t1, t2, t3⟩
    · left; rw [ar.2.1]; exact g4
    · right
      have ab := h.2 b t2.1 t2.2.1
      refine ⟨b, by rw [ar.2.1]; exact t1, ⟨t2.1, by omega, by rw [ab.1]; exact t2.2.2⟩, ?_⟩
      unfold BtV at t3 ⊢
      rw [ab.2.2 (by rw [t2.2.2]; exact rowK_no (by omega))]; exact t3
theorem agB_old (h : agB Kd J Rd n K1 J1 R1 n1) (hnew : ∀ a, n ≤ a → a < n1 → K1 a ≠ (13, 0)) (hr : isF K1 n1 r) : isF Kd n r := by
  by_cases e : r < n
  · exact ⟨hr.1, e, by rw [← (h.2 r hr.1 e).1]; exact hr.2.2⟩
  · exact absurd hr.2.2 (hnew r (by omega) hr.2.1)
theorem FI_agB (h : agB Kd J Rd n K1 J1 R1 n1) (hf : FI Kd J Rd n) (hnew : ∀ a, n ≤ a → a < n1 → K1 a ≠ (13, 0)) : FI K1 J1 R1 n1 := by
  refine ⟨fun r hr => GF_agB h (agB_old h hnew hr) (hf.1 r (agB_old h hnew hr)), fun r q b hr hq h1 h2 => ?_⟩
  have o1 := agB_old h hnew hr
  have o2 := agB_old h hnew hq
  rw [(h.2 r o1.1 o1.2.1).2.1] at h1
  rw [(h.2 q o2.1 o2.2.1).2.1] at h2
  exact hf.2 r q b o1 o2 h1 h2
theorem Ev_agB (hf : FI Kd J Rd n) (h : agB Kd J Rd n K1 J1 R1 n1) (hj : ∀ a, ka a = true → J1 a = J a) (hr : ∀ a, a = 5 ∨ a = 6 ∨ a = 8 ∨ a = 13 → R1 a = Rd a) : Ev Kd J Rd n K1 J1 R1 n1 := by
  refine ⟨h.1, fun r hr => ?_, hj, hr⟩
  have ar := h.2 r hr.1 hr.2.1
  have ge := GF_ent (hf.1 r hr)
  have ae := h.2 _ ge.2.1 ge.2.2.1
  exact ⟨by rw [ar.1]; exact hr.2.2, ar.2.2 (by rw [hr.2.2]; exact rowK_k (by decide)), by rw [ar.2.1], ae.2.2 (by rw [ge.2.2.2]; exact rowK_no (by omega))⟩
/-- the brood and the world while rows L are seen -/
def GB (Kd : ZK) (J : Nat → Nat → Int) (Rd : ZR) (n r : Nat) (nl : Int) (E : Nat → Int) (t : Int) (L : List V4) (K1 : ZK) (J1 : Nat → Nat → Int) (R1 : ZR) (n1 s1 c : Nat) : Prop :=
  66 ≤ n ∧ agB Kd J Rd n K1 J1 R1 n1 ∧ (∀ a, n ≤ a → a < n1 → K1 a ≠ (13, 0)) ∧ (∀ a, ka a = true → J1 a = J a) ∧ (∀ a, a = 5 ∨ a = 6 ∨ a = 8 ∨ a = 13 → R1 a = Rd a) ∧ R1 40 0 = some r ∧ J1 40 2 = t ∧ J1 40 1 = ((kidF nl E t L).length : Int) ∧
  ∃ rw j : Nat, RM K1 R1 n1 s1 c j ∧ (R1 40 3 = some rw ∧ KF K1 rw = (1, 64 * 2 ^ j) ∧ j ≤ 15 ∧ (rw = 41 ∨ (66 ≤ rw ∧ rw < n1))) ∧ (kidF nl E t L).length ≤ 64 * 2 ^ j ∧ ∀ k x, (kidF nl E t L)[k]? = some x → J1 rw k = encV x
theorem ka_lt {a : Nat} (h : ka a = true) : a < 66 := by unfold ka at h; simp at h; omega
theorem GB_start (h : WD A c Kd J Rd n s0) : GB Kd J Rd n r nl E t [] Kd (zup (zup J 40 2 t) 40 1 0) (zup Rd 40 0 (some r)) n s0 c := by
  obtain ⟨h1, h2, h3, h4, rw, j, ⟨⟨b1, b2, b3, b4⟩, b5⟩, h6⟩ := h
  have hR : ∀ a, 66 ≤ a → zup Rd 40 0 (some r) a = Rd a := zup_R (by decide)
  refine ⟨h1, ⟨Nat.le_refl _, fun a ha _ => ⟨rfl, hR a ha, fun _ => by rw [zup_ne (by omega), zup_ne (by omega)]⟩⟩, fun a a1 a2 => absurd a2 (by omega), fun a ha => ?_, fun a ha => by rw [zup_ne (by omega)], zz, by rw [zzi (by decide), zz], by rw [zz]; rfl, rw, j, RM_R hR h6, ⟨by rw [zzi (by decide)]; exact b1, b2, b3, b4⟩, Nat.zero_le _, fun k x hx => ?_⟩
  · have : a ≠ 40 := by intro z; subst z; revert ha; decide
    rw [zup_ne this, zup_ne this]
  · have : ([] : List V4)[k]? = some x := hx
    simp at this
theorem GB_scr (h : GB Kd J Rd n r nl E t L K1 J1 R1 n1 s1 c) (hq : ∀ a, a ≠ 26 → a ≠ 27 → a ≠ 29 → a ≠ 30 → a ≠ 35 → a ≠ 36 → J2 a = J1 a) : GB Kd J Rd n r nl E t L K1 J2 R1 n1 s1 c := by
  obtain ⟨h1, h2, h3, h4, h5, h6, h7, h8, rw, j, h9, h10, h11, h12⟩ := h
  have q40 : J2 40 = J1 40 := hq 40 (by decide) (by decide) (by decide) (by decide) (by decide) (by decide)
  have qk : ∀ a, ka a = true → J2 a = J1 a := fun a ha => hq a (by intro z; subst z; revert ha; decide) (by intro z; subst z; revert ha; decide) (by intro z; subst z; revert ha; decide) (by intro z; subst z; revert ha; decide) (by intro z; subst z; revert ha; decide) (by intro z; subst z; revert ha; decide)
  refine ⟨h1, ⟨h2.1, fun a a1 a2 => ⟨(h2.2 a a1 a2).1, (h2.2 a a1 a2).2.1, fun z => by rw [hq a (by omega) (by omega) (by omega) (by omega) (by omega) (by omega)]; exact (h2.2 a a1 a2).2.2 z⟩⟩, h3, fun a ha => by rw [qk a ha]; exact h4 a ha, h5, h6, by rw [q40]; exact h7, by rw [q40]; exact h8, rw, j, h9, h10, h11, fun k x hx => ?_⟩
  rw [hq rw (by omega) (by omega) (by omega) (by omega) (by omega) (by omega)]; exact h12 k x hx
theorem kidF_app : kidF nl E t (L ++ [v]) = kidF nl E t L ++ kidF nl E t [v] := by unfold kidF; exact List.filter_append ..
theorem kidF_no (h : ¬ lawS (nl + 1) (chE nl.toNat E t v)) : kidF nl E t (L ++ [v]) = kidF nl E t L := by
  rw [kidF_app]
  have : kidF nl E t [v] = [] := by unfold kidF; rw [List.filter_cons, lawb_f h]; rfl
  rw [this, List.append_nil]
theorem kidF_yes (h : lawS (nl + 1) (chE nl.toNat E t v)) : kidF nl E t (L ++ [v]) = kidF nl E t L ++ [v] := by
  rw [kidF_app]
  have : kidF nl E t [v] = [v] := by unfold kidF; rw [List.filter_cons, lawb_t h]; rfl
  rw [this]
theorem kidF_len : (kidF nl E t L).length ≤ L.length := by unfold kidF; exact List.length_filter_le _ _
theorem GB_no (h : GB Kd J Rd n r nl E t L K1 J1 R1 n1 s1 c) (hl : ¬ lawS (nl + 1) (chE nl.toNat E t v)) : GB Kd J Rd n r nl E t (L ++ [v]) K1 J1 R1 n1 s1 c := by
  unfold GB at h ⊢
  rw [kidF_no hl]; exact h
/-- cells that are no forms: the room's counts stay -/
theorem cnt_zk {k L0 : Nat} {x : Option Nat} (h66 : 66 ≤ n) : cnt (lckT (zkp Kd n (1, L0)) (zup Rd 40 3 x) k) (n + 1) = cnt (lckT Kd Rd k) n := by
  show cnt (lckT (zkp Kd n (1, L0)) (zup Rd 40 3 x) k) n + (if lckT (zkp Kd n (1, L0)) (zup Rd 40 3 x) k n then 1 else 0) = _
  have a1 : lckT (zkp Kd n (1, L0)) (zup Rd 40 3 x) k n = false := by
    unfold lckT; rw [zkp_eq]; rfl
  rw [a1]
  have : cnt (lckT (zkp Kd n (1, L0)) (zup Rd 40 3 x) k) n = cnt (lckT Kd Rd k) n := by
    refine cnt_congr (fun i hi => ?_)
    unfold lckT
    by_cases h6 : 66 ≤ i
    · rw [zkp_ne (by omega), zup_ne (by omega)]
    · rw [decide_eq_false h6]; simp
  rw [this]; simp
theorem GB_yes {rw j rw2 L2 : Nat} {sz : Int} (h : GB Kd J Rd n r nl E t L K1 J1 R1 n1 s1 c) (hl : lawS (nl + 1) (chE nl.toNat E t v)) (hsz : sz = ((kidF nl E t L).length : Int)) (hlen : L.length < 1000000)
    (h9 : RM K1 R1 n1 s1 c j) (h10 : R1 40 3 = some rw ∧ KF K1 rw = (1, 64 * 2 ^ j) ∧ j ≤ 15 ∧ (rw = 41 ∨ (66 ≤ rw ∧ rw < n1))) (h12 : ∀ k x, (kidF nl E t L)[k]? = some x → J1 rw k = encV x)
    (g1 : sz < (L2 : Int)) (g2 : J2 40 1 = sz + 1) (g3 : ∀ q : Nat, (q : Int) < sz → J2 rw2 q = J1 rw q) (g4 : J2 rw2 sz.toNat = encV v)
    (g5 : (sz < ((64 * 2 ^ j : Nat) : Int) ∧ K2 = K1 ∧ R2 = R1 ∧ n2 = n1 ∧ s2 = s1 ∧ rw2 = rw ∧ L2 = 64 * 2 ^ j) ∨ (sz = ((64 * 2 ^ j : Nat) : Int) ∧ K2 = zkp K1 n1 (1, 2 * (64 * 2 ^ j)) ∧ R2 = zup R1 40 3 (some n1) ∧ n2 = n1 + 1 ∧ s2 = s1 + 2 * (64 * 2 ^ j) ∧ rw2 = n1 ∧ L2 = 2 * (64 * 2 ^ j)))
    (g6 : ∀ a, a ≠ 40 → a ≠ rw → a ≠ n1 → J2 a = J1 a) (g7 : ∀ q, q ≠ 1 → J2 40 q = J1 40 q) : GB Kd J Rd n r nl E t (L ++ [v]) K2 J2 R2 n2 s2 c := by
  obtain ⟨h1, h2, h3, h4, h5, h6, h7, h8, _, _, _, _, _, _⟩ := h
  have kl := kidF_len (nl := nl) (E := E) (t := t) (L := L)
  have hn1 := h2.1
  have row : ∀ k x, (kidF nl E t L ++ [v])[k]? = some x → J2 rw2 k = encV x := fun k x hx => by
    by_cases q : k < (kidF nl E t L).length
    · rw [List.getElem?_append_left q] at hx
      rw [g3 k (by omega)]; exact h12 k x hx
    · rw [List.getElem?_append_right (by omega)] at hx
      have q2 : k - (kidF nl E t L).length = 0 := by
        by_cases z : k - (kidF nl E t L).length = 0
        · exact z
        · rw [List.getElem?_eq_none (by simp; omega)] at hx; cases hx
      rw [q2] at hx
      have : v = x := by simpa using hx
      subst this
      rw [show k = sz.toNat by omega]; exact g4
  have k40 : ∀ a, ka a = true → J2 a = J a := fun a ha => by
    have := ka_lt ha
    rw [g6 a (by intro z; subst z; revert ha; decide) (by intro z; rcases h10.2.2.2 with y | y; (rw [z, y] at ha; revert ha; decide); omega) (by omega)]; exact h4 a ha
  have jag : ∀ a, 66 ≤ a → a < n → ¬ rowK (Kd a) → J2 a = J a := fun a a1 a2 a3 => by
    rw [g6 a (by omega) (by
      intro z; subst z
      refine a3 ⟨j, ?_⟩
      rw [← (h2.2 a a1 a2).1, ← h10.2.1, KF_dyn a1]) (by omega)]
    exact (h2.2 a a1 a2).2.2 a3
  unfold GB
  rw [kidF_yes hl]
  rcases g5 with ⟨e0, rfl, rfl, rfl, rfl, rfl, e6⟩ | ⟨e0, rfl, rfl, rfl, rfl, rfl, e6⟩
  · refine ⟨h1, ⟨h2.1, fun a a1 a2 => ⟨(h2.2 a a1 a2).1, (h2.2 a a1 a2).2.1, jag a a1 a2⟩⟩, h3, k40, h5, h6, by rw [g7 2 (by decide)]; exact h7, by rw [g2, List.length_append]; simp; omega, rw2, j, h9, h10, by rw [List.length_append]; simp; omega, row⟩
  · have j13 : j ≤ 13 := by
      by_cases z : j ≤ 13
      · exact z
      · have := Nat.pow_le_pow_right (n := 2) (by decide) (show 14 ≤ j by omega)
        have e14 : (2 : Nat) ^ 14 = 16384 := rfl
        omega
    have ep : 64 * 2 ^ (j + 1) = 2 * (64 * 2 ^ j) := by rw [Nat.pow_succ]; omega
    refine ⟨h1, ⟨by omega, fun a a1 a2 => ⟨by rw [zkp_ne (by omega)]; exact (h2.2 a a1 a2).1, by rw [zup_ne (by omega)]; exact (h2.2 a a1 a2).2.1, jag a a1 a2⟩⟩, fun a a1 a2 => ?_, k40, fun a ha => by rw [zup_ne (by omega)]; exact h5 a ha, by rw [zzi (by decide)]; exact h6, by rw [g7 2 (by decide)]; exact h7, by rw [g2, List.length_append]; simp; omega, rw2, j + 1, ?_, ⟨zz, by rw [KF_dyn (by omega), zkp_eq, ep], by omega, Or.inr ⟨by omega, by omega⟩⟩, by rw [List.length_append, ep]; simp; omega, row⟩
    · by_cases z : a = rw2
      · subst z; rw [zkp_eq]; intro z; cases z
      · rw [zkp_ne z]; exact h3 a a1 (by omega)
    · unfold RM at h9 ⊢
      rw [cnt_zk (by omega), cnt_zk (by omega)]
      have ep2 : 128 * 2 ^ (j + 1) = 2 * (128 * 2 ^ j) := by rw [Nat.pow_succ]; omega
      rw [ep2]
      have ep3 : 128 * 2 ^ j = 2 * (64 * 2 ^ j) := by omega
      rw [ep3] at h9 ⊢
      generalize 64 * 2 ^ j = y at *
      omega
/-- the rows are all there -/
theorem GB_end (hW : WD A c Kd J Rd n s0) (hr : isF Kd n r) (h3 : J r 0 ≤ 3) (ht0 : truF (J r 0) (J (ent Rd r)) ≠ 0) (x : Nat → Int) (h : GB Kd J Rd n r (J r 0) (J (ent Rd r)) (truF (J r 0) (J (ent Rd r))) ((eR (J r 0) (J (ent Rd r)) (truF (J r 0) (J (ent Rd r)))).en (J r 0).toNat x) K1 J1 R1 n1 s1 c) : WD A c K1 J1 R1 n1 s1 ∧ Ev Kd J Rd n K1 J1 R1 n1 ∧ R1 40 0 = some r := by
  obtain ⟨h1, h2, h3', h4, h5, h6, h7, h8, rw, j, h9, h10, h11, h12⟩ := h
  have g := (WD_GF hW hr).2.1
  have tb := truF_bd (J r 0) (J (ent Rd r))
  obtain ⟨w1, w2, w3, w4, _⟩ := hW
  have ev := Ev_agB w2 h2 h4 h5
  have er := ev.2.1 r hr
  rw [← kids_en g.1 h3 g.2.1 (by omega) x] at h8 h11 h12
  refine ⟨⟨by have := h2.1; omega, FI_agB h2 w2 h3', RI_Ev w3 ev, w4, rw, j, ⟨h10, Or.inr ⟨r, h6, Ev_isF ev hr, ?_⟩⟩, h9⟩, ev, h6⟩
  rw [Ev_ent ev hr, er.2.1, er.2.2.2]
  refine ⟨?_, h7, h8, h11, h12⟩
  unfold grow
  rw [if_neg ht0, if_neg (by omega)]
end Gathw
