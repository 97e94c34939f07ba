section Cls17
variable {g : ZG} {l : Launch} {Kd : ZK} {Rd : ZR} {n s0 c : Nat} {A J P : Nat → Nat → Int}
/-- a table of counts, as its form has it -/
def TKD (Kd : ZK) (J : Nat → Nat → Int) (Rd : ZR) (n : Nat) (nl : Int) (E : Nat → Int) (t cc ff : Nat) : Prop := ((KF Kd t).1 = 16 ∧ RF Rd t 0 = some cc ∧ RF Rd t 1 = some ff) ∧ (66 ≤ t ∧ t < n) ∧ (KF Kd cc = (1, 101) ∧ 66 ≤ cc ∧ cc < n) ∧ (KF Kd ff = (1, 101 * nl.toNat) ∧ 66 ≤ ff ∧ ff < n) ∧ TkV J nl E cc ff
section Wt
variable {Kd' : ZK} {J' : Nat → Nat → Int} {Rd' : ZR} {s0' r : Nat}
theorem WD_TKD {t : Nat} (hW : WD A c Kd J Rd n s0) (hr : isF Kd n r) (h4 : Rd r 4 = some t) : ∃ cc ff, TKD Kd J Rd n (J r 0) (J (ent Rd r)) t cc ff := by
  rcases (WD_GF hW hr).2.2.1 with z | ⟨t', cc, f, t1, t2, t3, t4, t5, t6⟩
  · rw [z] at h4; cases h4
  · rw [t1] at h4; cases h4
    exact ⟨cc, f, ⟨by rw [KF_dyn t2.1, t2.2.2], by rw [RF_dyn t2.1]; exact t3.1, by rw [RF_dyn t2.1]; exact t3.2⟩, ⟨t2.1, t2.2.1⟩, ⟨by rw [KF_dyn t4.1]; exact t4.2.2, t4.1, t4.2.1⟩, ⟨by rw [KF_dyn t5.1]; exact t5.2.2, t5.1, t5.2.1⟩, t6⟩
theorem WD_taken (h : WD A c Kd J Rd n s0) (hr : isF Kd n r) (h4 : Rd r 4 = none) (k0 : ∀ a, a < n → Kd' a = Kd a) (k1 : Kd' n = (16, 0)) (k2 : Kd' (n + 1) = (1, 101)) (k3 : Kd' (n + 2) = (1, 101 * (J r 0).toNat)) (j0 : ∀ a, a < n → a ≠ 30 → a ≠ 35 → a ≠ 36 → J' a = J a) (r0 : ∀ a k, a < n → (a ≠ r ∨ k ≠ 4) → Rd' a k = Rd a k) (r1 : Rd' r 4 = some n) (r2 : Rd' n 0 = some (n + 1)) (r3 : Rd' n 1 = some (n + 2)) (hV : TkV J' (J r 0) (J (ent Rd r)) (n + 1) (n + 2)) (hs : s0' ≤ s0 + 507) : WD A c Kd' J' Rd' (n + 3) s0' ∧ Ev Kd J Rd n Kd' J' Rd' (n + 3) := by
  have w1 := h.1
  have hfi := h.2.1
  have hrr := hr.2.1
  have rf : ∀ a, a < n → a ≠ r → Rd' a = Rd a := fun a ha hn => funext (fun k => r0 a k ha (Or.inl hn))
  refine WD_gen h (by omega) (fun a a1 a2 => k0 a a2) (fun a a1 a2 _ => j0 a a2 (by omega) (by omega) (by omega)) (fun a ha => ?_) (fun a a1 a2 a3 => rf a a2 (fun e => a3 (by rw [e]; exact hr.2.2))) (fun a ha => rf a (by omega) (by have := hr.1; omega)) (fun q hq => r0 q 1 hq.2.1 (Or.inr (by decide))) (fun q hq => ?_) (fun q hq => ?_) (fun a a1 a2 => ?_) (fun p q b hp hq e1 e2 => ?_) (fun j hRM => ?_)
  · have : a < 66 ∧ a ≠ 30 ∧ a ≠ 35 ∧ a ≠ 36 := by
      rcases ha with ha | ha | ha
      · exact ⟨by unfold ka at ha; simp at ha; omega, ka_ne ha (by decide), ka_ne ha (by decide), ka_ne ha (by decide)⟩
      · omega
      · omega
    exact j0 a (by omega) this.2.1 this.2.2.1 this.2.2.2
  · have g := hfi.1 q hq
    by_cases e : q = r
    · subst e
      exact Or.inr ⟨n, n + 1, n + 2, r1, ⟨w1, by omega, k1⟩, ⟨r2, r3⟩, ⟨by omega, by omega, k2⟩, ⟨by omega, by omega, k3⟩, hV⟩
    · exact TkOK_gen (n := n) (by omega) ⟨g.2.1.1, g.2.1.2.1.1⟩ (fun a a1 a2 => k0 a a2) (fun a a1 a2 _ => j0 a a2 (by omega) (by omega) (by omega)) (fun a a1 a2 a3 => rf a a2 (fun e => a3 (by rw [e]; exact hr.2.2))) (r0 q 4 hq.2.1 (Or.inl e)) g.2.2.1
  · have g := hfi.1 q hq
    refine BtOK_gen (n := n) (by omega) (fun a a1 a2 => k0 a a2) (r0 q 5 hq.2.1 (Or.inr (by decide))) (fun b hb => ?_) g.2.2.2
    rcases g.2.2.2 with z | ⟨b', z1, z2, _⟩
    · rw [z] at hb; cases hb
    · rw [z1] at hb; cases hb; exact j0 _ z2.2.1 (by have := z2.1; omega) (by have := z2.1; omega) (by have := z2.1; omega)
  · rcases (show a = n ∨ a = n + 1 ∨ a = n + 2 by omega) with e | e | e
    · rw [e, k1]; simp
    · rw [e, k2]; simp
    · rw [e, k3]; simp
  · rw [r0 p 5 hp.2.1 (Or.inr (by decide))] at e1
    rw [r0 q 5 hq.2.1 (Or.inr (by decide))] at e2
    exact hfi.2 p q b hp hq e1 e2
  · have nw : ∀ x, lckT Kd' Rd' x n = false ∧ lckT Kd' Rd' x (n + 1) = false ∧ lckT Kd' Rd' x (n + 2) = false := fun x => by
      unfold lckT; rw [k1, k2, k3]; exact ⟨rfl, rfl, rfl⟩
    have up : ∀ x, cnt (lckT Kd' Rd' x) (n + 3) = cnt (lckT Kd' Rd' x) n := fun x => by
      show cnt (lckT Kd' Rd' x) n + (if lckT Kd' Rd' x n then 1 else 0) + (if lckT Kd' Rd' x (n + 1) then 1 else 0) + (if lckT Kd' Rd' x (n + 2) then 1 else 0) = _
      rw [(nw x).1, (nw x).2.1, (nw x).2.2]; simp
    have c5 : cnt (lckT Kd' Rd' 5) n = cnt (lckT Kd Rd 5) n := cnt_congr (fun i hi => by unfold lckT; rw [k0 i hi, r0 i 5 hi (Or.inr (by decide))])
    have c4 : cnt (lckT Kd Rd 4) n = cnt (lckT Kd' Rd' 4) n + 1 := cnt_one (r := r) (by unfold lckT; rw [hr.2.2, h4, decide_eq_true hr.1]; rfl) (by unfold lckT; rw [r1]; simp) hr.2.1 (fun i hi he => by unfold lckT; rw [k0 i hi, r0 i 4 hi (Or.inl he)])
    unfold RM at hRM ⊢
    rw [up 4, up 5, c5]
    generalize ((128 * 2 ^ j : Nat) : Int) = w at *
    omega
end Wt
set_option maxHeartbeats 4000000 in
set_option maxRecDepth 100000 in
theorem cMX8_takenBy {r : Nat} (hr : isF Kd n r) (hW : WD A c Kd J Rd n s0) : ZC g l MX8_takenBy [.ref 4, .ref r] (KF Kd, zi J, zj P, RF Rd, n, s0) (fun rr hh => ∃ (Kd' : ZK) (J' P' : Nat → Nat → Int) (Rd' : ZR) (n' s0' t cc ff : Nat), hh = (KF Kd', zi J', zj P', RF Rd', n', s0') ∧ rr = some (.ref t) ∧ WD A c Kd' J' Rd' n' s0' ∧ Ev Kd J Rd n Kd' J' Rd' n' ∧ TKD Kd' J' Rd' n' (J r 0) (J (ent Rd r)) t cc ff ∧ (∀ a, 66 ≤ a → a < n → Kd' a = Kd a ∧ J' a = J a) ∧ (∀ a, 35 ≤ a → a < 66 → P' a = P a)) := by
  refine ZC.of (by decide) (Nat.le_of_ble_eq_true rfl) ?_
  generalize hQ0 : (fun rr hh => ∃ (Kd' : ZK) (J' P' : Nat → Nat → Int) (Rd' : ZR) (n' s0' t cc ff : Nat), hh = (KF Kd', zi J', zj P', RF Rd', n', s0') ∧ rr = some (.ref t) ∧ WD A c Kd' J' Rd' n' s0' ∧ Ev Kd J Rd n Kd' J' Rd' n' ∧ TKD Kd' J' Rd' n' (J r 0) (J (ent Rd r)) t cc ff ∧ (∀ a, 66 ≤ a → a < n → Kd' a = Kd a ∧ J' a = J a) ∧ (∀ a, 35 ≤ a → a < 66 → P' a = P a) : Option Value → ZH → Prop) = Q0
  show Z g l MX8_takenBy 0 [some (.ref 4), some (.ref r)] [] (KF Kd, zi J, zj P, RF Rd, n, s0) Q0
  have h66 := hW.1
  have hrb := hr.1
  have hrn := hr.2.1
  have hG := (WD_GF hW hr).2.1
  have hEn := WD_ent hW hr
  refine z_aload_n dX8_takenBy_0 rfl rfl ?_
  have L23 : ∀ (K1 : ZK) (J1 P1 : Nat → Nat → Int) (R1 : ZR) (n1 s1 t : Nat), (WD A c K1 J1 R1 n1 s1) → (Ev Kd J Rd n K1 J1 R1 n1) → (R1 r 4 = some t) → (∀ a, 66 ≤ a → a < n → K1 a = Kd a ∧ J1 a = J a) → (∀ a, 35 ≤ a → a < 66 → P1 a = P a) → Z g l MX8_takenBy 23 [some (.ref 4), some (.ref r)] [] (KF K1, zi J1, zj P1, RF R1, n1, s1) Q0 := by
    intro K1 J1 P1 R1 n1 s1 t hW1 hE1 h41 hk1 hP1
    refine z_aload_n dX8_takenBy_23 rfl rfl ?_
    refine z_getR (ci := 3) (kf := 4) dX8_takenBy_24 (FA_K1 (Ev_isF hE1 hr)) (by decide) (by decide) rfl w_292 (by rw [RF_dyn hr.1]; exact h41) ?_
    refine z_areturn dX8_takenBy_27 rfl (Or.inl ⟨_, rfl⟩) ?_
    subst hQ0
    have hr1 := Ev_isF hE1 hr
    obtain ⟨cc, ff, hD⟩ := WD_TKD hW1 hr1 h41
    have e := hE1.2.1 r hr
    rw [show J1 r 0 = J r 0 by rw [e.2.1], show J1 (ent R1 r) = J (ent Rd r) by rw [Ev_ent hE1 hr]; exact e.2.2.2] at hD
    exact ⟨K1, J1, P1, R1, n1, s1, t, cc, ff, rfl, rfl, hW1, hE1, hD, hk1, hP1⟩
  rcases hx : Rd r 4 with _ | t0
  · refine z_getRN (ci := 3) (kf := 4) dX8_takenBy_1 (FA_K1 hr) (by decide) (by decide) rfl w_292 (by rw [RF_dyn hr.1]; exact hx) ?_
    refine z_ifnonnullN dX8_takenBy_4 ?_
    refine z_aload_n dX8_takenBy_7 rfl rfl ?_
    refine c_new (ci := 6) dX8_takenBy_8 (by decide) w_446 w_447 w_13 ?_
    rw [KF_kp h66, RF_upA h66]
    have kn : (KF (zkp Kd n (16, 0)) n).1 = 16 := by rw [KF_dyn h66, zkp_eq]
    have kr : (KF (zkp Kd n (16, 0)) r).1 = 13 := by rw [KF_zk (by omega)]; exact FA_K1 hr
    have ke : KF (zkp Kd n (16, 0)) (ent Rd r) = (1, 16) := by rw [KF_zk (by omega)]; exact hEn.2.1
    have rre : RF (zupA Rd n (fun _ => none)) r 1 = some (ent Rd r) := by rw [RF_dyn hrb, zuA_ne (by omega), ← hEn.1, RF_dyn hrb]
    refine z_dup dX8_takenBy_11 rfl ?_
    refine z_aload_n dX8_takenBy_12 rfl rfl ?_
    refine z_aload_n dX8_takenBy_13 rfl rfl ?_
    refine z_getR (ci := 8) (kf := 7) dX8_takenBy_14 rfl (by decide) (by decide) rfl w_189 rfl ?_
    refine z_calli (N := MX6_init) (nas := 2) (as := [_, _]) dX8_takenBy_17 rfl rfl w_450 w_448 w_449 w_13 (by decide +kernel) rfl rfl (Nat.le_of_ble_eq_true rfl) (by decide) (by decide) (ZC.mono (cMX6_init (t := n) (r := r) (ee := ent Rd r) (nl := J r 0) (E := J (ent Rd r)) hG.1 hG.2.1 kn (by omega) kr (by omega) rre ke (by omega) (by rw [zuA_ne (by omega)]) (zuA_ne (by omega))) ?_)
    rintro _ _ ⟨rfl, J9, P9, rfl, hV9, hoJ9, hoP9⟩
    have kr3 : (KF (zkp (zkp (zkp Kd n (16, 0)) (n + 1) (1, 101)) (n + 2) (1, (J r 0 * 101).toNat)) r).1 = 13 := by rw [KF_zk (by omega), KF_zk (by omega)]; exact kr
    refine z_putR (ci := 3) (kf := 4) dX8_takenBy_20 kr3 (by decide) (by decide) rfl (by decide) (fun _ => rfl) (fun _ => rfl) w_292 ?_
    rw [RF_up (Or.inr hrb)]
    have hl4 := hG.2.1.1
    have hq := WD_taken (r := r) (Kd' := (zkp (zkp (zkp Kd n (16, 0)) (n + 1) (1, 101)) (n + 2) (1, (J r 0 * 101).toNat))) (J' := J9) (Rd' := (zup (zup (zup (zupA Rd n (fun _ => none)) n 0 (some (n + 1))) n 1 (some (n + 2))) r 4 (some n))) (s0' := s0 + 2 + 101 + (J r 0 * 101).toNat) hW hr hx (fun a ha => by rw [zkp_ne (by omega), zkp_ne (by omega), zkp_ne (by omega)]) (by rw [zkp_ne (by omega), zkp_ne (by omega), zkp_eq]) (by rw [zkp_ne (by omega), zkp_eq]) (by rw [zkp_eq, show (J r 0 * 101).toNat = 101 * (J r 0).toNat by omega]) (fun a ha a1 a2 a3 => by rw [hoJ9 a (by omega) (by omega) a1 a2 a3, zuA_ne (by omega)]) (fun a k ha hh => by rcases hh with hh | hh; (rw [zzr hh, zzr (by omega), zzr (by omega), zuA_ne (by omega)]); (rw [zzi hh, zzr (by omega), zzr (by omega), zuA_ne (by omega)])) zz (by rw [zzr (by omega), zzi (by decide), zz]) (by rw [zzr (by omega), zz]) hV9 (by omega)
    exact Z.fg2 (L23 _ _ _ _ _ _ _ (by first | exact hW | exact hq.1) (by first | exact Ev_refl | exact hq.2) (by first | exact hx | exact zz) (by first | exact (fun a a1 a2 => ⟨rfl, rfl⟩) | exact (fun a a1 a2 => ⟨by rw [zkp_ne (by omega), zkp_ne (by omega), zkp_ne (by omega)], by rw [hoJ9 a (by omega) (by omega) (by omega) (by omega) (by omega), zuA_ne (by omega)]⟩)) (by first | exact (fun a a1 a2 => rfl) | exact (fun a a1 a2 => by rw [hoP9 a (by omega) (by omega) (by omega) (by omega), zuA_ne (by omega)]))) (zs1 rfl (zs1 rfl zs0))
  · refine z_getR (ci := 3) (kf := 4) dX8_takenBy_1 (FA_K1 hr) (by decide) (by decide) rfl w_292 (by rw [RF_dyn hr.1]; exact hx) ?_
    refine z_ifnonnull (tgt := 23) dX8_takenBy_4 (by decide) ?_
    exact Z.fg2 (L23 _ _ _ _ _ _ _ (by first | exact hW | exact hq.1) (by first | exact Ev_refl | exact hq.2) (by first | exact hx | exact zz) (by first | exact (fun a a1 a2 => ⟨rfl, rfl⟩) | exact (fun a a1 a2 => ⟨by rw [zkp_ne (by omega), zkp_ne (by omega), zkp_ne (by omega)], by rw [hoJ9 a (by omega) (by omega) (by omega) (by omega) (by omega), zuA_ne (by omega)]⟩)) (by first | exact (fun a a1 a2 => rfl) | exact (fun a a1 a2 => by rw [hoP9 a (by omega) (by omega) (by omega) (by omega), zuA_ne (by omega)]))) (zs1 rfl (zs1 rfl zs0))
end Cls17
