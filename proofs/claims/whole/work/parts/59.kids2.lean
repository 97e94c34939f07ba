section Congr
variable {nl : Int} {E F : Nat → Int}
theorem wv_congr (h : ∀ k, k < 16 → E k = F k) (x : V4) : wv E x = wv F x := by
  unfold wv
  rw [h 0 (by omega), h 1 (by omega), h 2 (by omega), h 3 (by omega), h 5 (by omega), h 6 (by omega), h 7 (by omega), h 10 (by omega), h 11 (by omega), h 15 (by omega)]
theorem vecF_congr (hk : nl ≤ 4) (h : ∀ k, k < 16 → E k = F k) : vecF nl E = vecF nl F := by
  unfold vecF rN
  rw [reachS_congr hk h, reachS_congr hk h, reachS_congr hk h, reachS_congr hk h]
theorem cF_congr (hk : nl ≤ 4) (h : ∀ k, k < 16 → E k = F k) : cF nl E = cF nl F := by
  funext m
  unfold cF cntL
  rw [vecF_congr hk h]
  simp only [wv_congr h]
theorem fF_congr (hk : nl ≤ 4) (h : ∀ k, k < 16 → E k = F k) : fF nl E = fF nl F := by
  funext m
  unfold fF fstL
  rw [vecF_congr hk h]
  simp only [wv_congr h]
theorem CN_congr (hk : nl ≤ 4) (h : ∀ k, k < 16 → E k = F k) {J : Nat → Nat → Int} (hc : CN nl E J) : CN nl F J := by
  unfold CN at *
  rw [← cF_congr hk h, ← fF_congr hk h]; exact hc
theorem okF_cg (h : ∀ k, k < 16 → E k = F k) (ho : okF nl E) : okF nl F := by
  obtain ⟨h4, hl, hs, hz⟩ := ho
  refine ⟨h4, (lawS_congr h4 h).mp hl, fun i j hi hj => ?_, fun i j hi hj hh => ?_⟩
  · rw [← h _ (by omega), ← h _ (by omega)]; exact hs i j hi hj
  · rw [← h _ (by omega)]; exact hz i j hi hj hh
theorem truF_congr (hk : nl ≤ 4) (h : ∀ k, k < 16 → E k = F k) : truF nl E = truF nl F := by unfold truF; rw [cF_congr hk h]
theorem setE_sym {i j : Nat} {a : Int} (hi : i < 4) (hj : j < 4) (h : symS E) : symS (setE E i j a) := by
  intro p q hp hq
  have := h p q hp hq
  unfold setE
  by_cases e1 : (p = i ∧ q = j) ∨ (p = j ∧ q = i)
  · rcases e1 with ⟨rfl, rfl⟩ | ⟨rfl, rfl⟩ <;> simp
  · have n1 : ¬ 4 * p + q = 4 * j + i := by omega
    have n2 : ¬ 4 * p + q = 4 * i + j := by omega
    have n3 : ¬ 4 * q + p = 4 * j + i := by omega
    have n4 : ¬ 4 * q + p = 4 * i + j := by omega
    rw [if_neg n1, if_neg n2, if_neg n3, if_neg n4]; exact this
theorem setE_zero {i j : Nat} {a : Int} (hi : (i : Int) < nl) (hj : (j : Int) < nl) (h4 : nl ≤ 4) (h : zeroS nl E) : zeroS nl (setE E i j a) := by
  intro p q hp hq hh
  unfold setE
  rw [if_neg (by omega), if_neg (by omega)]
  exact h p q hp hq hh
theorem chR_ok {x : V4} (h3 : nl ≤ 3) (h1 : 0 ≤ nl) (hs : symS E) (hz : zeroS nl E) : ∀ i : Nat, (i : Int) ≤ nl → symS (chR nl.toNat E x i) ∧ zeroS (nl + 1) (chR nl.toNat E x i)
  | 0, _ => ⟨hs, fun p q hp hq hh => hz p q hp hq (by omega)⟩
  | i + 1, hi => by
    have h := chR_ok (x := x) h3 h1 hs hz i (by omega)
    exact ⟨setE_sym (by omega) (by omega) h.1, setE_zero (by omega) (by omega) (by omega) h.2⟩
theorem chE_ok {x : V4} {t : Int} (h13 : 1 ≤ nl ∧ nl ≤ 3) (h : okF nl E) (hl : lawS (nl + 1) (chE nl.toNat E t x)) : okF (nl + 1) (chE nl.toNat E t x) := by
  have h0 := chR_ok (x := x) h13.2 (by omega) h.2.2.1 h.2.2.2 nl.toNat (by omega)
  exact ⟨by omega, hl, setE_sym (by omega) (by omega) h0.1, setE_zero (by omega) (by omega) (by omega) h0.2⟩
end Congr
theorem pq_jbranch {J J3 : Nat → Nat → Int} {x k nl : Int} {E : Nat → Int} (h : pq J J3) : pq (jbranch J x k nl E) (zup (zup (zup (jput J3 (6 + J 42 2).toNat nl E) 45 (J 42 2).toNat x) 46 (J 42 2).toNat k) 42 2 (J 42 2 + 1)) := by
  have hj := pq_jput (p := (6 + J 42 2).toNat) (nl := nl) (E := E) h
  unfold jbranch
  refine ⟨fun q hq => ?_, fun q hq => ?_, fun a ha => ?_, ?_, ?_, ?_⟩
  · rw [zzr (by decide), zzr (by decide), zzr (by decide), zzr (by decide), zzr (by decide), zzr (by decide)]; exact hj.1 q hq
  · rw [zzr (by decide), zzr (by decide), zzr (by decide), zzr (by decide), zzr (by decide), zzr (by decide)]; exact hj.2.1 q hq
  · funext q
    simp only [zup]
    rw [hj.2.2.1 a ha]
  · rw [zz, zz]
  · rw [zzi (by decide), zzr (by decide), zzr (by decide), zzi (by decide), zzr (by decide), zzr (by decide)]; exact hj.2.2.2.2.1
  · rw [zzi (by decide), zzr (by decide), zzr (by decide), zzi (by decide), zzr (by decide), zzr (by decide)]; exact hj.2.2.2.2.2
