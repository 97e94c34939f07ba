/-! THE WORLD CHANGES: what is kept, the tree -/
section World4
variable {A A' : Nat → Nat → Int} {Kd Kd' : ZK} {J J' : Nat → Nat → Int} {Rd Rd' : ZR} {n n' s0 c q r p s : Nat} {nl : Int} {E F : Nat → Int}
theorem FA_to {q' : Nat} (hR : ∀ a, 66 ≤ a → Rd' a = Rd a) (hfi : FI Kd J Rd n) (hJ : ∀ a, 66 ≤ a → J' a = J a) (h1 : A' 44 q' = A 44 q) (h2 : ∀ k, k < 16 → A' 43 (16 * q' + k) = A 43 (16 * q + k)) (h : FA A Kd J Rd n q r) : FA A' Kd J' Rd' n q' r := by
  have e : ent Rd' r = ent Rd r := by unfold ent; rw [hR r h.1.1]
  have ge := GF_ent (hfi.1 r h.1)
  refine ⟨h.1, by rw [hJ r h.1.1, h1]; exact h.2.1, fun k hk => ?_⟩
  rw [e, hJ _ ge.2.1, h2 k hk]; exact h.2.2 k hk
theorem PL_to {q' : Nat} {x : Option Nat} (hR : ∀ a, 66 ≤ a → Rd' a = Rd a) (hfi : FI Kd J Rd n) (hJ : ∀ a, 66 ≤ a → J' a = J a) (h1 : A' 44 q' = A 44 q) (h2 : ∀ k, k < 16 → A' 43 (16 * q' + k) = A 43 (16 * q + k)) (h : PL A Kd J Rd n q x) : PL A' Kd J' Rd' n q' x := by
  rcases h with h | ⟨r, h3, h4⟩
  · exact Or.inl ⟨h.1, by rw [h1]; exact h.2⟩
  · exact Or.inr ⟨r, h3, FA_to hR hfi hJ h1 h2 h4⟩
theorem okF_sh {a b : Nat} (h2 : ∀ k, k < 16 → A' 43 (16 * a + k) = A 43 (16 * b + k)) (h : okF nl (fun k => A 43 (16 * b + k))) : okF nl (fun k => A' 43 (16 * a + k)) := okF_cg (fun k hk => (h2 k hk).symm) h
/-- all is kept -/
theorem WD_keep (h : WD A c Kd J Rd n s0) (hR6 : ∀ s, s < 6 → Rd' 6 s = Rd 5 s) (hR13 : ∀ k, k < 30 → Rd' 13 k = Rd 8 k) (hRo : ∀ a, a ≠ 6 → a ≠ 13 → Rd' a = Rd a) (j12 : J' 12 0 = J 7 0) (j14 : ∀ q, q < 30 → J' 14 q = J 9 q ∧ J' 15 q = J 10 q) (j4 : J' 4 4 = 1) (hJo : ∀ a, a ≠ 4 → a ≠ 12 → a ≠ 14 → a ≠ 15 → J' a = J a) : WD (jkeep A) c Kd J' Rd' n s0 := by
  obtain ⟨h1, h2, ⟨r1, r2, r3, r4, r5, r6, r7⟩, ⟨o1, o2, o3⟩, rw, j, h5, h6⟩ := h
  have hR : ∀ a, 66 ≤ a → Rd' a = Rd a := fun a ha => hRo a (by omega) (by omega)
  have hJ : ∀ a, 66 ≤ a → J' a = J a := fun a ha => hJo a (by omega) (by omega) (by omega) (by omega)
  have ag : agr Kd J Rd n Kd J' Rd' n := ⟨Nat.le_refl _, fun a ha _ => ⟨rfl, hJ a ha, hR a ha⟩⟩
  have k44 : ∀ q, jkeep A 44 q = if 36 ≤ q ∧ q < 72 then A 44 (q - 36) else A 44 q := fun q => by unfold jkeep; simp
  have k43 : ∀ q, jkeep A 43 q = if 576 ≤ q ∧ q < 1152 then A 43 (q - 576) else A 43 q := fun q => by unfold jkeep; simp
  have k47 : ∀ q, q < 30 → jkeep A 47 q = A 45 q := fun q hq => by unfold jkeep; simp [hq]
  have k48 : ∀ q, q < 30 → jkeep A 48 q = A 46 q := fun q hq => by unfold jkeep; simp [hq]
  have k42 : ∀ q, jkeep A 42 q = if q = 5 then A 42 2 else if q = 8 then 1 else A 42 q := fun q => by unfold jkeep; simp
  have ko : ∀ a, a ≠ 42 → a ≠ 43 → a ≠ 44 → a ≠ 47 → a ≠ 48 → jkeep A a = A a := fun a a1 a2 a3 a4 a5 => by funext q; unfold jkeep; simp [a1, a2, a3, a4, a5]
  have lo : ∀ {q : Nat} {x : Option Nat}, q < 36 → PL A Kd J Rd n q x → PL (jkeep A) Kd J' Rd' n q x := fun hq hp => PL_to hR h2 hJ (by rw [k44, if_neg (by omega)]) (fun k hk => by rw [k43, if_neg (by omega)]) hp
  have hi : ∀ {q : Nat} {x : Option Nat}, q < 36 → PL A Kd J Rd n q x → PL (jkeep A) Kd J' Rd' n (36 + q) x := fun hq hp => PL_to hR h2 hJ (by rw [k44, if_pos (by omega), Nat.add_sub_cancel_left]) (fun k hk => by rw [k43, if_pos (by omega), show ∀ q : Nat, 16 * (36 + q) + k - 576 = 16 * q + k from fun q => by omega]) hp
  have nd30 := o2.1.2.1
  have okj : okJ (jkeep A) := by
    intro q hq
    by_cases e : 36 ≤ q
    · rw [k44, if_pos (by omega)]
      rcases o1 (q - 36) (by omega) with g | g
      · exact Or.inl g
      · exact Or.inr ⟨g.1, okF_sh (fun k hk => by rw [k43, if_pos (by omega), show 16 * q + k - 576 = 16 * (q - 36) + k by omega]) g.2⟩
    · rw [k44, if_neg (by omega)]
      rcases o1 q hq with g | g
      · exact Or.inl g
      · exact Or.inr ⟨g.1, okF_sh (fun k hk => by rw [k43, if_neg (by omega)]) g.2⟩
  have okt : okT (jkeep A) := by
    obtain ⟨t1, t2, t3, t4, t5⟩ := o2
    refine ⟨?_, ?_, ?_, fun k hk => ?_, fun k hk => ?_⟩
    · rw [k42, if_neg (by decide), if_neg (by decide), ko 45 (by decide) (by decide) (by decide) (by decide) (by decide), ko 46 (by decide) (by decide) (by decide) (by decide) (by decide)]; exact t1
    · rw [k42, if_pos rfl]
      obtain ⟨u1, u2, u3, u4, u5⟩ := t1
      refine ⟨u1, u2, fun z => by rw [k47 0 (by decide)]; exact u3 z, fun k a b => by rw [k47 k (by omega)]; exact u4 k a b, fun k a => by rw [k47 k a, k48 k a]; exact u5 k a⟩
    · right; rw [k42, if_neg (by decide), if_pos rfl]
    · rw [k42, if_neg (by decide), if_neg (by decide)] at hk
      rw [k44, if_neg (by omega)]; exact t4 k hk
    · rw [k42, if_pos rfl] at hk
      rw [k44, if_pos (by omega), show 42 + k - 36 = 6 + k by omega]; exact t4 k hk
  have oks : okS (jkeep A) := by
    unfold okS at o3 ⊢
    rw [ko 63 (by decide) (by decide) (by decide) (by decide) (by decide), ko 64 (by decide) (by decide) (by decide) (by decide) (by decide), ko 65 (by decide) (by decide) (by decide) (by decide) (by decide)]; exact o3
  refine ⟨h1, FI_agr ag h2 (fun r a b => absurd b.2.1 (by omega)), ⟨fun s hs => ?_, fun s hs => ?_, ⟨?_, fun k hk => ?_⟩, ⟨?_, fun k hk => ?_⟩, fun k hk => ?_, ?_, fun q hq => ?_⟩, ⟨okj, okt, oks⟩, rw, j, BI_agr h2 ag h1 ⟨hJo 40 (by decide) (by decide) (by decide) (by decide), hJo 41 (by decide) (by decide) (by decide) (by decide), hRo 40 (by decide) (by decide)⟩ h5, RM_R hR h6⟩
  · rw [hRo 5 (by decide) (by decide)]; exact lo (by omega) (r1 s hs)
  · rw [hR6 s hs]; exact hi (by omega) (r1 s hs)
  · rw [hJo 7 (by decide) (by decide) (by decide) (by decide), k42, if_neg (by decide), if_neg (by decide)]; exact r3.1
  · rw [k42, if_neg (by decide), if_neg (by decide)] at hk
    rw [hRo 8 (by decide) (by decide), hJo 9 (by decide) (by decide) (by decide) (by decide), hJo 10 (by decide) (by decide) (by decide) (by decide), ko 45 (by decide) (by decide) (by decide) (by decide) (by decide), ko 46 (by decide) (by decide) (by decide) (by decide) (by decide)]
    exact ⟨lo (by omega) (r3.2 k hk).1, (r3.2 k hk).2⟩
  · rw [j12, k42, if_pos rfl]; exact r3.1
  · rw [k42, if_pos rfl] at hk
    rw [hR13 k (by omega), (j14 k (by omega)).1, (j14 k (by omega)).2, k47 k (by omega), k48 k (by omega), show 42 + k = 36 + (6 + k) by omega]
    exact ⟨hi (by omega) (r3.2 k hk).1, (r3.2 k hk).2⟩
  · rw [hRo 8 (by decide) (by decide), hR13 k hk]; exact ⟨(r5 k hk).1, (r5 k hk).1⟩
  · rw [j4, k42, if_neg (by decide), if_pos rfl]
  · have kq : 18 + 2 * q ≠ 4 ∧ 18 + 2 * q ≠ 12 ∧ 18 + 2 * q ≠ 14 ∧ 18 + 2 * q ≠ 15 := by omega
    rw [hJo _ kq.1 kq.2.1 kq.2.2.1 kq.2.2.2, hJo (19 + 2 * q) (by omega) (by omega) (by omega) (by omega), ko 63 (by decide) (by decide) (by decide) (by decide) (by decide), ko 64 (by decide) (by decide) (by decide) (by decide) (by decide), ko 65 (by decide) (by decide) (by decide) (by decide) (by decide)]
    exact r7 q hq
/-- what was kept comes back -/
theorem WD_back (h : WD A c Kd J Rd n s0) (hR5 : ∀ s, s < 6 → Rd' 5 s = Rd 6 s) (hR8 : ∀ k, k < 30 → Rd' 8 k = Rd 13 k) (hRo : ∀ a, a ≠ 5 → a ≠ 8 → Rd' a = Rd a) (j7 : J' 7 0 = J 12 0) (j9 : ∀ q, q < 30 → J' 9 q = J 14 q ∧ J' 10 q = J 15 q) (hJo : ∀ a, a ≠ 7 → a ≠ 9 → a ≠ 10 → J' a = J a) : WD (jback A) c Kd J' Rd' n s0 := by
  obtain ⟨h1, h2, ⟨r1, r2, r3, r4, r5, r6, r7⟩, ⟨o1, o2, o3⟩, rw, j, h5, h6⟩ := h
  have hR : ∀ a, 66 ≤ a → Rd' a = Rd a := fun a ha => hRo a (by omega) (by omega)
  have hJ : ∀ a, 66 ≤ a → J' a = J a := fun a ha => hJo a (by omega) (by omega) (by omega)
  have ag : agr Kd J Rd n Kd J' Rd' n := ⟨Nat.le_refl _, fun a ha _ => ⟨rfl, hJ a ha, hR a ha⟩⟩
  have k44 : ∀ q, jback A 44 q = if q < 36 then A 44 (q + 36) else A 44 q := fun q => by unfold jback; simp
  have k43 : ∀ q, jback A 43 q = if q < 576 then A 43 (q + 576) else A 43 q := fun q => by unfold jback; simp
  have k45 : ∀ q, q < 30 → jback A 45 q = A 47 q := fun q hq => by unfold jback; simp [hq]
  have k46 : ∀ q, q < 30 → jback A 46 q = A 48 q := fun q hq => by unfold jback; simp [hq]
  have k42 : ∀ q, jback A 42 q = if q = 2 then A 42 5 else A 42 q := fun q => by unfold jback; simp
  have ko : ∀ a, a ≠ 42 → a ≠ 43 → a ≠ 44 → a ≠ 45 → a ≠ 46 → jback A a = A a := fun a a1 a2 a3 a4 a5 => by funext q; unfold jback; simp [a1, a2, a3, a4, a5]
  have hi : ∀ {q : Nat} {x : Option Nat}, 36 ≤ q → PL A Kd J Rd n q x → PL (jback A) Kd J' Rd' n q x := fun hq hp => PL_to hR h2 hJ (by rw [k44, if_neg (by omega)]) (fun k hk => by rw [k43, if_neg (by omega)]) hp
  have lo : ∀ {q : Nat} {x : Option Nat}, q < 36 → PL A Kd J Rd n (36 + q) x → PL (jback A) Kd J' Rd' n q x := fun hq hp => PL_to hR h2 hJ (by rw [k44, if_pos (by omega), Nat.add_comm]) (fun k hk => by rw [k43, if_pos (by omega), show ∀ q : Nat, 16 * q + k + 576 = 16 * (36 + q) + k from fun q => by omega]) hp
  have nd30 := o2.2.1.2.1
  have okj : okJ (jback A) := by
    intro q hq
    by_cases e : q < 36
    · rw [k44, if_pos e]
      rcases o1 (q + 36) (by omega) with g | g
      · exact Or.inl g
      · exact Or.inr ⟨g.1, okF_sh (fun k hk => by rw [k43, if_pos (by omega), show 16 * q + k + 576 = 16 * (q + 36) + k by omega]) g.2⟩
    · rw [k44, if_neg e]
      rcases o1 q hq with g | g
      · exact Or.inl g
      · exact Or.inr ⟨g.1, okF_sh (fun k hk => by rw [k43, if_neg (by omega)]) g.2⟩
  have okt : okT (jback A) := by
    obtain ⟨t1, t2, t3, t4, t5⟩ := o2
    refine ⟨?_, ?_, ?_, fun k hk => ?_, fun k hk => ?_⟩
    · rw [k42, if_pos rfl]
      obtain ⟨u1, u2, u3, u4, u5⟩ := t2
      refine ⟨u1, u2, fun z => by rw [k45 0 (by decide)]; exact u3 z, fun k a b => by rw [k45 k (by omega)]; exact u4 k a b, fun k a => by rw [k45 k a, k46 k a]; exact u5 k a⟩
    · rw [k42, if_neg (by decide), ko 47 (by decide) (by decide) (by decide) (by decide) (by decide), ko 48 (by decide) (by decide) (by decide) (by decide) (by decide)]; exact t2
    · rw [k42, if_neg (by decide)]; exact t3
    · rw [k42, if_pos rfl] at hk
      rw [k44, if_pos (by omega), show 6 + k + 36 = 42 + k by omega]; exact t5 k hk
    · rw [k42, if_neg (by decide)] at hk
      rw [k44, if_neg (by omega)]; exact t5 k hk
  have oks : okS (jback A) := by
    unfold okS at o3 ⊢
    rw [ko 63 (by decide) (by decide) (by decide) (by decide) (by decide), ko 64 (by decide) (by decide) (by decide) (by decide) (by decide), ko 65 (by decide) (by decide) (by decide) (by decide) (by decide)]; exact o3
  refine ⟨h1, FI_agr ag h2 (fun r a b => absurd b.2.1 (by omega)), ⟨fun s hs => ?_, fun s hs => ?_, ⟨?_, fun k hk => ?_⟩, ⟨?_, fun k hk => ?_⟩, fun k hk => ?_, ?_, fun q hq => ?_⟩, ⟨okj, okt, oks⟩, rw, j, BI_agr h2 ag h1 ⟨hJo 40 (by decide) (by decide) (by decide), hJo 41 (by decide) (by decide) (by decide), hRo 40 (by decide) (by decide)⟩ h5, RM_R hR h6⟩
  · rw [hR5 s hs]; exact lo (by omega) (r2 s hs)
  · rw [hRo 6 (by decide) (by decide)]; exact hi (by omega) (r2 s hs)
  · rw [j7, k42, if_pos rfl]; exact r4.1
  · rw [k42, if_pos rfl] at hk
    rw [hR8 k (by omega), (j9 k (by omega)).1, (j9 k (by omega)).2, k45 k (by omega), k46 k (by omega)]
    refine ⟨lo (by omega) ?_, (r4.2 k hk).2⟩
    rw [show 36 + (6 + k) = 42 + k by omega]; exact (r4.2 k hk).1
  · rw [hJo 12 (by decide) (by decide) (by decide), k42, if_neg (by decide)]; exact r4.1
  · rw [k42, if_neg (by decide)] at hk
    rw [hRo 13 (by decide) (by decide), hJo 14 (by decide) (by decide) (by decide), hJo 15 (by decide) (by decide) (by decide), ko 47 (by decide) (by decide) (by decide) (by decide) (by decide), ko 48 (by decide) (by decide) (by decide) (by decide) (by decide)]
    exact ⟨hi (by omega) (r4.2 k hk).1, (r4.2 k hk).2⟩
  · rw [hRo 13 (by decide) (by decide), hR8 k hk]; exact ⟨(r5 k hk).2, (r5 k hk).2⟩
  · rw [hJo 4 (by decide) (by decide) (by decide), k42, if_neg (by decide)]; exact r6
  · rw [hJo _ (by omega) (by omega) (by omega), hJo (19 + 2 * q) (by omega) (by omega) (by omega), ko 63 (by decide) (by decide) (by decide) (by decide) (by decide), ko 64 (by decide) (by decide) (by decide) (by decide) (by decide), ko 65 (by decide) (by decide) (by decide) (by decide) (by decide)]
    exact r7 q hq
/-- the tree alone changes -/
theorem WD_tree (h : WD A c Kd J Rd n s0) (hA : ∀ a, a ≠ 42 → a ≠ 43 → a ≠ 44 → a ≠ 45 → a ≠ 46 → A' a = A a) (h42 : ∀ q, q ≠ 2 → A' 42 q = A 42 q) (h44 : ∀ q, q < 6 ∨ 36 ≤ q → A' 44 q = A 44 q) (h43 : ∀ q, q < 96 ∨ 576 ≤ q → A' 43 q = A 43 q)
    (hJ : ∀ a, a ≠ 7 → a ≠ 9 → a ≠ 10 → a ≠ 11 → J' a = J a) (hR : ∀ a, a ≠ 8 → Rd' a = Rd a) (ht : J' 7 0 = A' 42 2 ∧ ∀ k : Nat, (k : Int) < A' 42 2 → PL A' Kd J Rd n (6 + k) (Rd' 8 k) ∧ J' 9 k = A' 45 k ∧ J' 10 k = A' 46 k) (ho : ∀ k, k < 30 → oF Kd n (Rd' 8 k)) (hOK : okJ A' ∧ okT A') : WD A' c Kd J' Rd' n s0 := by
  obtain ⟨h1, h2, ⟨r1, r2, r3, r4, r5, r6, r7⟩, ⟨o1, o2, o3⟩, rw, j, h5, h6⟩ := h
  have hR' : ∀ a, 66 ≤ a → Rd' a = Rd a := fun a ha => hR a (by omega)
  have hJ' : ∀ a, 66 ≤ a → J' a = J a := fun a ha => hJ a (by omega) (by omega) (by omega) (by omega)
  have ag : agr Kd J Rd n Kd J' Rd' n := ⟨Nat.le_refl _, fun a ha _ => ⟨rfl, hJ' a ha, hR' a ha⟩⟩
  have sm : ∀ {q : Nat} {x : Option Nat}, (q < 6 ∨ 36 ≤ q) → PL A Kd J Rd n q x → PL A' Kd J' Rd' n q x := fun hq hp => PL_to hR' h2 hJ' (h44 _ hq) (fun k hk => h43 _ (by omega)) hp
  have o4 := hA
  refine ⟨h1, FI_agr ag h2 (fun r a b => absurd b.2.1 (by omega)), ⟨fun s hs => ?_, fun s hs => ?_, ⟨ht.1, fun k hk => ⟨PL_to hR' h2 hJ' rfl (fun _ _ => rfl) (ht.2 k hk).1, (ht.2 k hk).2⟩⟩, ⟨?_, fun k hk => ?_⟩, fun k hk => ⟨ho k hk, ?_⟩, ?_, fun q hq => ?_⟩, ⟨hOK.1, hOK.2, ?_⟩, rw, j, BI_agr h2 ag h1 ⟨hJ 40 (by decide) (by decide) (by decide) (by decide), hJ 41 (by decide) (by decide) (by decide) (by decide), hR 40 (by decide)⟩ h5, RM_R hR' h6⟩
  · rw [hR 5 (by decide)]; exact sm (by omega) (r1 s hs)
  · rw [hR 6 (by decide)]; exact sm (by omega) (r2 s hs)
  · rw [hJ 12 (by decide) (by decide) (by decide) (by decide), h42 5 (by decide)]; exact r4.1
  · rw [h42 5 (by decide)] at hk
    rw [hR 13 (by decide), hJ 14 (by decide) (by decide) (by decide) (by decide), hJ 15 (by decide) (by decide) (by decide) (by decide), hA 47 (by decide) (by decide) (by decide) (by decide) (by decide), hA 48 (by decide) (by decide) (by decide) (by decide) (by decide)]
    exact ⟨sm (by omega) (r4.2 k hk).1, (r4.2 k hk).2⟩
  · rw [hR 13 (by decide)]; exact (r5 k hk).2
  · rw [hJ 4 (by decide) (by decide) (by decide) (by decide), h42 8 (by decide)]; exact r6
  · rw [hJ _ (by omega) (by omega) (by omega) (by omega), hJ (19 + 2 * q) (by omega) (by omega) (by omega) (by omega), hA 63 (by decide) (by decide) (by decide) (by decide) (by decide), hA 64 (by decide) (by decide) (by decide) (by decide) (by decide), hA 65 (by decide) (by decide) (by decide) (by decide) (by decide)]
    exact r7 q hq
  · unfold okS at o3 ⊢
    rw [hA 63 (by decide) (by decide) (by decide) (by decide) (by decide), hA 64 (by decide) (by decide) (by decide) (by decide) (by decide), hA 65 (by decide) (by decide) (by decide) (by decide) (by decide)]; exact o3
/-- a node is added -/
theorem OK_add (h : OKA A) {x k : Int} (hx : rI x) (hk : rI k) (hn : 1 ≤ nl ∧ okF nl E) {m : Int} (hm : 0 ≤ m ∧ m < 30) (hmn : m ≤ A 42 2) (hun : (m = 0 → x = -2) ∧ (1 ≤ m → 0 ≤ x ∧ x < m)) : okJ (zup (zup (zup (jput A (6 + m).toNat nl E) 45 m.toNat x) 46 m.toNat k) 42 2 (m + 1)) ∧ okT (zup (zup (zup (jput A (6 + m).toNat nl E) 45 m.toNat x) 46 m.toNat k) 42 2 (m + 1)) := by
  have oj := okJ_jput (p := (6 + m).toNat) h.1 (Or.inr hn)
  obtain ⟨⟨u1, u2, u3, u4, u5⟩, t2, t3, t4, t5⟩ := h.2.1
  constructor
  · unfold okJ at oj ⊢
    rw [zup_ne (show (44 : Nat) ≠ 42 by decide), zup_ne (show (44 : Nat) ≠ 46 by decide), zup_ne (show (44 : Nat) ≠ 45 by decide), zup_ne (show (43 : Nat) ≠ 42 by decide), zup_ne (show (43 : Nat) ≠ 46 by decide), zup_ne (show (43 : Nat) ≠ 45 by decide)]
    exact oj
  · have f45 : ∀ q, zup (zup (zup (jput A (6 + m).toNat nl E) 45 m.toNat x) 46 m.toNat k) 42 2 (m + 1) 45 q = if q = m.toNat then x else A 45 q := fun q => by
      rw [zzr (by decide), zzr (by decide)]
      by_cases e : q = m.toNat
      · subst e; rw [zz, if_pos rfl]
      · rw [zzi e, if_neg e, jput_off (by decide) (by decide)]
    have f46 : ∀ q, zup (zup (zup (jput A (6 + m).toNat nl E) 45 m.toNat x) 46 m.toNat k) 42 2 (m + 1) 46 q = if q = m.toNat then k else A 46 q := fun q => by
      rw [zzr (by decide)]
      by_cases e : q = m.toNat
      · subst e; rw [zz, if_pos rfl]
      · rw [zzi e, if_neg e, zzr (by decide), jput_off (by decide) (by decide)]
    have f42 : ∀ q, zup (zup (zup (jput A (6 + m).toNat nl E) 45 m.toNat x) 46 m.toNat k) 42 2 (m + 1) 42 q = if q = 2 then m + 1 else A 42 q := fun q => by
      by_cases e : q = 2
      · subst e; rw [zz, if_pos rfl]
      · rw [zzi e, if_neg e, zzr (by decide), zzr (by decide), jput_off (by decide) (by decide)]
    have f44 : ∀ q, zup (zup (zup (jput A (6 + m).toNat nl E) 45 m.toNat x) 46 m.toNat k) 42 2 (m + 1) 44 q = if q = (6 + m).toNat then nl else A 44 q := fun q => by
      rw [zzr (by decide), zzr (by decide), zzr (by decide)]
      by_cases e : q = (6 + m).toNat
      · subst e; rw [jput_let, if_pos rfl]
      · rw [jput_let_ne e, if_neg e]
    have fo : ∀ a, a ≠ 42 → a ≠ 43 → a ≠ 44 → a ≠ 45 → a ≠ 46 → zup (zup (zup (jput A (6 + m).toNat nl E) 45 m.toNat x) 46 m.toNat k) 42 2 (m + 1) a = A a := fun a a1 a2 a3 a4 a5 => by
      rw [zup_ne a1, zup_ne a5, zup_ne a4, jput_off a2 a3]
    refine ⟨?_, ?_, ?_, fun q hq => ?_, fun q hq => ?_⟩
    · rw [f42, if_pos rfl]
      refine ⟨by omega, by omega, fun _ => ?_, fun q a b => ?_, fun q hq => ?_⟩
      · rw [f45]; by_cases e : 0 = m.toNat
        · rw [if_pos e]; exact hun.1 (by omega)
        · rw [if_neg e]; exact u3 (by omega)
      · rw [f45]; by_cases e : q = m.toNat
        · rw [if_pos e]; have := hun.2 (by omega); omega
        · rw [if_neg e]; exact u4 q a (by omega)
      · rw [f45, f46]; have := u5 q hq
        split <;> omega
    · rw [f42, if_neg (by decide), fo 47 (by decide) (by decide) (by decide) (by decide) (by decide), fo 48 (by decide) (by decide) (by decide) (by decide) (by decide)]; exact t2
    · rw [f42, if_neg (by decide)]; exact t3
    · rw [f42, if_pos rfl] at hq
      rw [f44]; by_cases e : 6 + q = (6 + m).toNat
      · rw [if_pos e]; omega
      · rw [if_neg e]; exact t4 q (by omega)
    · rw [f42, if_neg (by decide)] at hq
      rw [f44, if_neg (by omega)]; exact t5 q hq
end World4
