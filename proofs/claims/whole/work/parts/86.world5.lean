/-! THE WORLD CHANGES: tables of forms -/
section World5
variable {A : Nat → Nat → Int} {Kd Kd' : ZK} {J J' : Nat → Nat → Int} {Rd Rd' : ZR} {n n' s0 s0' c r : Nat}
theorem TkOK_gen {nl : Int} {E : Nat → Int} (hn : n ≤ n') (hl : 1 ≤ nl ∧ nl ≤ 4) (hK : ∀ a, 66 ≤ a → a < n → Kd' a = Kd a) (hJ : ∀ a, 66 ≤ a → a < n → Kd a ≠ (1, 17) → J' a = J a) (hR : ∀ a, 66 ≤ a → a < n → Kd a ≠ (13, 0) → Rd' a = Rd a) (h4 : Rd' r 4 = Rd r 4) (h : TkOK Kd J Rd n r nl E) : TkOK Kd' J' Rd' n' r nl E := by
  rcases h with h | ⟨t, cc, f, t1, t2, t3, t4, t5, t6⟩
  · exact Or.inl (h4.trans h)
  · have kt : Kd t ≠ (13, 0) := by rw [t2.2.2]; simp
    have kc : Kd cc ≠ (1, 17) := by rw [t4.2.2]; simp
    have kf : Kd f ≠ (1, 17) := by rw [t5.2.2]; intro e; have := congrArg Prod.snd e; simp at this; omega
    refine Or.inr ⟨t, cc, f, h4.trans t1, ⟨t2.1, by omega, by rw [hK t t2.1 t2.2.1]; exact t2.2.2⟩, by rw [hR t t2.1 t2.2.1 kt]; exact t3, ⟨t4.1, by omega, by rw [hK cc t4.1 t4.2.1]; exact t4.2.2⟩, ⟨t5.1, by omega, by rw [hK f t5.1 t5.2.1]; exact t5.2.2⟩, ?_⟩
    unfold TkV at t6 ⊢
    rw [hJ cc t4.1 t4.2.1 kc, hJ f t5.1 t5.2.1 kf]; exact t6
theorem BtOK_gen {nl : Int} {E : Nat → Int} (hn : n ≤ n') (hK : ∀ a, 66 ≤ a → a < n → Kd' a = Kd a) (h5 : Rd' r 5 = Rd r 5) (hJ : ∀ b, Rd r 5 = some b → J' b = J b) (h : BtOK Kd J Rd n r nl E) : BtOK Kd' J' Rd' n' r nl E := by
  rcases h with h | ⟨b, t1, t2, t3⟩
  · exact Or.inl (h5.trans h)
  · refine Or.inr ⟨b, h5.trans t1, ⟨t2.1, by omega, by rw [hK b t2.1 t2.2.1]; exact t2.2.2⟩, ?_⟩
    unfold BtV at t3 ⊢
    rw [hJ b t1]; exact t3
theorem WD_gen (h : WD A c Kd J Rd n s0) (hn : n ≤ n') (hK : ∀ a, 66 ≤ a → a < n → Kd' a = Kd a) (hJ : ∀ a, 66 ≤ a → a < n → Kd a ≠ (1, 17) → J' a = J a) (hJl : ∀ a, ka a = true ∨ a = 40 ∨ a = 41 → J' a = J a) (hR : ∀ a, 66 ≤ a → a < n → Kd a ≠ (13, 0) → Rd' a = Rd a) (hRl : ∀ a, a < 66 → Rd' a = Rd a) (hR1 : ∀ r, isF Kd n r → Rd' r 1 = Rd r 1)
    (hT : ∀ r, isF Kd n r → TkOK Kd' J' Rd' n' r (J r 0) (J (ent Rd r))) (hB : ∀ r, isF Kd n r → BtOK Kd' J' Rd' n' r (J r 0) (J (ent Rd r))) (hnew : ∀ a, n ≤ a → a < n' → Kd' a ≠ (13, 0)) (hinj : ∀ r q b, isF Kd n r → isF Kd n q → Rd' r 5 = some b → Rd' q 5 = some b → r = q) (hRM : ∀ j, RM Kd Rd n s0 c j → RM Kd' Rd' n' s0' c j) : WD A c Kd' J' Rd' n' s0' ∧ Ev Kd J Rd n Kd' J' Rd' n' := by
  obtain ⟨w1, w2, w3, w4, rw, j, ⟨⟨b1, b2, b3, b4⟩, b5⟩, w6⟩ := h
  have old : ∀ r, isF Kd' n' r → isF Kd n r := fun r hr => by
    by_cases e : r < n
    · exact ⟨hr.1, e, by rw [← hK r hr.1 e]; exact hr.2.2⟩
    · exact absurd hr.2.2 (hnew r (by omega) hr.2.1)
  have nw : ∀ r, isF Kd n r → isF Kd' n' r := fun r hr => ⟨hr.1, by have := hr.2.1; omega, by rw [hK r hr.1 hr.2.1]; exact hr.2.2⟩
  have jr : ∀ r, isF Kd n r → J' r = J r := fun r hr => hJ r hr.1 hr.2.1 (by rw [hr.2.2]; simp)
  have je : ∀ r, isF Kd n r → ent Rd' r = ent Rd r ∧ J' (ent Rd r) = J (ent Rd r) := fun r hr => by
    have ge := GF_ent (w2.1 r hr)
    exact ⟨by unfold ent; rw [hR1 r hr], hJ _ ge.2.1 ge.2.2.1 (by rw [ge.2.2.2]; simp)⟩
  have fi : FI Kd' J' Rd' n' := by
    refine ⟨fun r hr => ?_, fun r q b hr hq => hinj r q b (old r hr) (old q hq)⟩
    have hr' := old r hr
    have ge := GF_ent (w2.1 r hr')
    have g2 := (w2.1 r hr').2.1
    refine ⟨⟨ent Rd r, by rw [hR1 r hr']; exact ge.1, ge.2.1, by omega, by rw [hK _ ge.2.1 ge.2.2.1]; exact ge.2.2.2⟩, ?_, ?_, ?_⟩
    · rw [(je r hr').1, (je r hr').2, jr r hr']; exact g2
    · rw [(je r hr').1, (je r hr').2, jr r hr']; exact hT r hr'
    · rw [(je r hr').1, (je r hr').2, jr r hr']; exact hB r hr'
  have ev : Ev Kd J Rd n Kd' J' Rd' n' := ⟨hn, fun r hr => ⟨(nw r hr).2.2, jr r hr, hR1 r hr, (je r hr).2⟩, fun a ha => hJl a (Or.inl ha), fun a ha => hRl a (by omega)⟩
  refine ⟨⟨by omega, fi, RI_Ev w3 ev, w4, rw, j, ⟨⟨by rw [hRl 40 (by decide)]; exact b1, ?_, b3, by omega⟩, ?_⟩, hRM j w6⟩, ev⟩
  · rcases b4 with e | e
    · subst e; exact b2
    · rw [KF_dyn e.1] at b2; rw [KF_dyn e.1, hK rw e.1 e.2]; exact b2
  · have jw : J' rw = J rw := by
      rcases b4 with e | e
      · subst e; exact hJl 41 (by simp)
      · refine hJ rw e.1 e.2 ?_
        rw [KF_dyn e.1] at b2
        rw [b2]; intro z; have := congrArg Prod.snd z; simp at this; generalize 2 ^ j = u at this; omega
    rcases b5 with e | ⟨r, e1, e2, e3⟩
    · left; rw [hRl 40 (by decide)]; exact e
    · right
      refine ⟨r, by rw [hRl 40 (by decide)]; exact e1, nw r e2, ?_⟩
      rw [(je r e2).1, (je r e2).2, jr r e2]
      unfold BrOK at e3 ⊢
      rw [hJl 40 (by simp), jw]; exact e3
/-- one place less is counted -/
theorem cnt_one {p q : Nat → Bool} {r : Nat} (hp : p r = true) (hq : q r = false) : ∀ {k : Nat}, r < k → (∀ i, i < k → i ≠ r → p i = q i) → cnt p k = cnt q k + 1
  | 0, h, _ => by omega
  | k + 1, h, he => by
    unfold cnt
    by_cases e : k = r
    · subst e
      rw [hp, hq, cnt_congr (fun i hi => he i (by omega) (by omega))]; simp
    · rw [cnt_one hp hq (by omega) (fun i hi => he i (by omega)), he k (by omega) e]; omega
/-- a row for bits is made -/
theorem WD_bits (h : WD A c Kd J Rd n s0) (hr : isF Kd n r) (h5 : Rd r 5 = none) : WD A c (zkp Kd n (1, 17)) (zupA J n (fun _ => 0)) (zup Rd r 5 (some n)) (n + 1) (s0 + 17) ∧ Ev Kd J Rd n (zkp Kd n (1, 17)) (zupA J n (fun _ => 0)) (zup Rd r 5 (some n)) (n + 1) := by
  have w1 := h.1
  have hfi := h.2.1
  have kn : ∀ a, a ≠ n → zkp Kd n (1, 17) a = Kd a := fun a ha => zkp_ne ha
  have jn : ∀ a, a ≠ n → zupA J n (fun _ => 0) a = J a := fun a ha => by show (if a = n then _ else _) = _; rw [if_neg ha]
  have rn : ∀ a k, (a ≠ r ∨ k ≠ 5) → zup Rd r 5 (some n) a k = Rd a k := fun a k ha => by
    rcases ha with ha | ha
    · rw [zzr ha]
    · rw [zzi ha]
  refine WD_gen h (by omega) (fun a a1 a2 => kn a (by omega)) (fun a a1 a2 _ => jn a (by omega)) (fun a ha => jn a (by rcases ha with ha | ha | ha; (unfold ka at ha; simp at ha; omega); omega; omega)) (fun a a1 a2 a3 => zup_ne (fun e => a3 (by rw [e]; exact hr.2.2))) (fun a ha => zup_ne (by have := hr.1; omega)) (fun q _ => rn q 1 (Or.inr (by decide))) (fun q hq => ?_) (fun q hq => ?_) (fun a a1 a2 => ?_) (fun p q b hp hq e1 e2 => ?_) (fun j hRM => ?_)
  · have g := hfi.1 q hq
    exact TkOK_gen (n := n) (by omega) ⟨g.2.1.1, g.2.1.2.1.1⟩ (fun a a1 a2 => kn a (by omega)) (fun a a1 a2 _ => jn a (by omega)) (fun a a1 a2 a3 => zup_ne (fun e => a3 (by rw [e]; exact hr.2.2))) (rn q 4 (Or.inr (by decide))) g.2.2.1
  · have g := hfi.1 q hq
    by_cases e : q = r
    · subst e
      refine Or.inr ⟨n, zz, ⟨w1, by omega, zkp_eq⟩, fun m _ _ => Or.inl ?_⟩
      show (if n = n then (fun _ => (0 : Int)) else J n) m = 0
      rw [if_pos rfl]
    · refine BtOK_gen (n := n) (by omega) (fun a a1 a2 => kn a (by omega)) (rn q 5 (Or.inl e)) (fun b hb => ?_) g.2.2.2
      rcases g.2.2.2 with z | ⟨b', z1, z2, _⟩
      · rw [z] at hb; cases hb
      · rw [z1] at hb; cases hb; exact jn _ (by have := z2.2.1; omega)
  · have : a = n := by omega
    subst this; rw [zkp_eq]; simp
  · have old : ∀ p, isF Kd n p → ∀ b, Rd p 5 = some b → b < n := fun p hp b hb => by
      rcases (hfi.1 p hp).2.2.2 with z | ⟨b', z1, z2, _⟩
      · rw [z] at hb; cases hb
      · rw [z1] at hb; cases hb; exact z2.2.1
    by_cases ep : p = r
    · by_cases eq : q = r
      · omega
      · subst ep
        rw [zz] at e1; cases e1
        rw [rn q 5 (Or.inl eq)] at e2
        have := old q hq _ e2; omega
    · rw [rn p 5 (Or.inl ep)] at e1
      by_cases eq : q = r
      · subst eq
        rw [zz] at e2; cases e2
        have := old p hp _ e1; omega
      · rw [rn q 5 (Or.inl eq)] at e2
        exact hfi.2 p q b hp hq e1 e2
  · have c4 : cnt (lckT (zkp Kd n (1, 17)) (zup Rd r 5 (some n)) 4) (n + 1) = cnt (lckT Kd Rd 4) n := by
      show cnt _ n + (if lckT (zkp Kd n (1, 17)) (zup Rd r 5 (some n)) 4 n then 1 else 0) = _
      have a1 : lckT (zkp Kd n (1, 17)) (zup Rd r 5 (some n)) 4 n = false := by unfold lckT; rw [zkp_eq]; rfl
      rw [a1, cnt_congr (q := lckT Kd Rd 4) (fun i hi => by unfold lckT; rw [kn i (by omega), rn i 4 (Or.inr (by decide))])]; simp
    have c5 : cnt (lckT Kd Rd 5) n = cnt (lckT (zkp Kd n (1, 17)) (zup Rd r 5 (some n)) 5) (n + 1) + 1 := by
      show _ = cnt _ n + (if lckT (zkp Kd n (1, 17)) (zup Rd r 5 (some n)) 5 n then 1 else 0) + 1
      have a1 : lckT (zkp Kd n (1, 17)) (zup Rd r 5 (some n)) 5 n = false := by unfold lckT; rw [zkp_eq]; rfl
      rw [a1, cnt_one (p := lckT Kd Rd 5) (q := lckT (zkp Kd n (1, 17)) (zup Rd r 5 (some n)) 5) (r := r) (by unfold lckT; rw [hr.2.2, h5, decide_eq_true hr.1]; rfl) (by unfold lckT; rw [zz]; simp) hr.2.1 (fun i hi he => by unfold lckT; rw [kn i (by omega), rn i 5 (Or.inl he)])]; simp
    unfold RM at hRM ⊢
    rw [c4]
    generalize ((128 * 2 ^ j : Nat) : Int) = w at *
    omega
/-- a bits' place is told -/
theorem WD_bitset {b m : Nat} (h : WD A c Kd J Rd n s0) (hr : isF Kd n r) (h5 : Rd r 5 = some b) (hm : 2 ≤ m ∧ m ≤ 16) : WD A c Kd (zup J b m ((restS (J r 0) (J (ent Rd r)) m : Nat) : Int)) Rd n s0 ∧ Ev Kd J Rd n Kd (zup J b m ((restS (J r 0) (J (ent Rd r)) m : Nat) : Int)) Rd n := by
  have hfi := h.2.1
  have hb : 66 ≤ b ∧ b < n ∧ Kd b = (1, 17) := by
    rcases (hfi.1 r hr).2.2.2 with z | ⟨b', z1, z2, _⟩
    · rw [z] at h5; cases h5
    · rw [z1] at h5; cases h5; exact z2
  have jn : ∀ a, Kd a ≠ (1, 17) → zup J b m ((restS (J r 0) (J (ent Rd r)) m : Nat) : Int) a = J a := fun a ha => zup_ne (fun e => ha (by rw [e]; exact hb.2.2))
  refine WD_gen h (Nat.le_refl _) (fun _ _ _ => rfl) (fun a _ _ a3 => jn a a3) (fun a ha => zup_ne (by rcases ha with ha | ha | ha; (unfold ka at ha; simp at ha; omega); omega; omega)) (fun _ _ _ _ => rfl) (fun _ _ => rfl) (fun _ _ => rfl) (fun q hq => ?_) (fun q hq => ?_) (fun a a1 a2 => by omega) hfi.2 (fun _ z => z)
  · have g := hfi.1 q hq
    exact TkOK_gen (n := n) (Nat.le_refl _) ⟨g.2.1.1, g.2.1.2.1.1⟩ (fun _ _ _ => rfl) (fun a _ _ a3 => jn a a3) (fun _ _ _ _ => rfl) rfl g.2.2.1
  · have g := hfi.1 q hq
    by_cases e : q = r
    · subst e
      rcases g.2.2.2 with z | ⟨b', z1, z2, z3⟩
      · exact Or.inl z
      · rw [z1] at h5; cases h5
        refine Or.inr ⟨b, z1, z2, fun k k1 k2 => ?_⟩
        by_cases ek : k = m
        · subst ek; rw [zz]; exact Or.inr rfl
        · rw [zzi ek]; exact z3 k k1 k2
    · refine BtOK_gen (n := n) (Nat.le_refl _) (fun _ _ _ => rfl) rfl (fun b' hb' => ?_) g.2.2.2
      have : b' ≠ b := fun z => e (hfi.2 q r b hq hr (by rw [← z]; exact hb') h5)
      exact zup_ne this
end World5
