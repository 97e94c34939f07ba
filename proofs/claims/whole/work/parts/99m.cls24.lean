section Cls24
variable {g : ZG} {l : Launch} {Kd : ZK} {Rd : ZR} {n s0 c : Nat} {A J P : Nat → Nat → Int}
set_option maxHeartbeats 4000000 in
set_option maxRecDepth 100000 in
theorem cMX0_add {rw L : Nat} {sz v : Int} (hR : RF Rd 40 3 = some rw) (hK : KF Kd rw = (1, L)) (hL : 64 ≤ L ∧ L ≤ 2097152) (hs : J 40 1 = sz) (hs0 : 0 ≤ sz ∧ sz ≤ (L : Int) ∧ sz ≤ 1000000) (h66 : 66 ≤ n) (hrw : rw = 41 ∨ (66 ≤ rw ∧ rw < n)) : ZC g l MX0_add [.ref 40, .int (iZ v)] (KF Kd, zi J, zj P, RF Rd, n, s0) (fun rr hh => rr = none ∧ ∃ (Kd' : ZK) (J' : Nat → Nat → Int) (Rd' : ZR) (n' s0' rw' L' : Nat), hh = (KF Kd', zi J', zj P, RF Rd', n', s0') ∧ (RF Rd' 40 3 = some rw' ∧ KF Kd' rw' = (1, L') ∧ sz < (L' : Int)) ∧ J' 40 1 = sz + 1 ∧ (∀ q : Nat, (q : Int) < sz → J' rw' q = J rw q) ∧ J' rw' sz.toNat = v ∧ ((sz < (L : Int) ∧ Kd' = Kd ∧ Rd' = Rd ∧ n' = n ∧ s0' = s0 ∧ rw' = rw ∧ L' = L) ∨ (sz = (L : Int) ∧ Kd' = zkp Kd n (1, 2 * L) ∧ Rd' = zup Rd 40 3 (some n) ∧ n' = n + 1 ∧ s0' = s0 + 2 * L ∧ rw' = n ∧ L' = 2 * L)) ∧ (∀ a, a ≠ 40 → a ≠ rw → a ≠ n → J' a = J a) ∧ ∀ q, q ≠ 1 → J' 40 q = J 40 q) := by
  refine ZC.of (by decide) (Nat.le_of_ble_eq_true rfl) ?_
  generalize hQ0 : (fun rr hh => rr = none ∧ ∃ (Kd' : ZK) (J' : Nat → Nat → Int) (Rd' : ZR) (n' s0' rw' L' : Nat), hh = (KF Kd', zi J', zj P, RF Rd', n', s0') ∧ (RF Rd' 40 3 = some rw' ∧ KF Kd' rw' = (1, L') ∧ sz < (L' : Int)) ∧ J' 40 1 = sz + 1 ∧ (∀ q : Nat, (q : Int) < sz → J' rw' q = J rw q) ∧ J' rw' sz.toNat = v ∧ ((sz < (L : Int) ∧ Kd' = Kd ∧ Rd' = Rd ∧ n' = n ∧ s0' = s0 ∧ rw' = rw ∧ L' = L) ∨ (sz = (L : Int) ∧ Kd' = zkp Kd n (1, 2 * L) ∧ Rd' = zup Rd 40 3 (some n) ∧ n' = n + 1 ∧ s0' = s0 + 2 * L ∧ rw' = n ∧ L' = 2 * L)) ∧ (∀ a, a ≠ 40 → a ≠ rw → a ≠ n → J' a = J a) ∧ ∀ q, q ≠ 1 → J' 40 q = J 40 q : Option Value → ZH → Prop) = Q0
  show Z g l MX0_add 0 [some (.ref 40), some (.int (iZ v))] [] (KF Kd, zi J, zj P, RF Rd, n, s0) Q0
  have L29 : ∀ (K1 : ZK) (J1 : Nat → Nat → Int) (R1 : ZR) (n1 s1 rw1 L1 : Nat), (RF R1 40 3 = some rw1) → (KF K1 rw1 = (1, L1)) → (J1 40 = J 40) → (∀ q : Nat, (q : Int) < sz → J1 rw1 q = J rw q) → (sz < (L1 : Int) ∧ L1 ≤ 2097152) → (rw1 ≠ 40) → (((sz < (L : Int) ∧ K1 = Kd ∧ R1 = Rd ∧ n1 = n ∧ s1 = s0 ∧ rw1 = rw ∧ L1 = L) ∨ (sz = (L : Int) ∧ K1 = zkp Kd n (1, 2 * L) ∧ R1 = zup Rd 40 3 (some n) ∧ n1 = n + 1 ∧ s1 = s0 + 2 * L ∧ rw1 = n ∧ L1 = 2 * L))) → (∀ a, a ≠ n → J1 a = J a) → Z g l MX0_add 29 [some (.ref 40), some (.int (iZ v))] [] (KF K1, zi J1, zj P, RF R1, n1, s1) Q0 := by
    intro K1 J1 R1 n1 s1 rw1 L1 hR1 hK1 hs1 hq1 hl1 hr1 hd ho
    refine z_aload_n dX0_add_29 rfl rfl ?_
    refine z_getR (ci := 0) (kf := 3) dX0_add_30 rfl (by decide) (by decide) rfl w_172 hR1 ?_
    refine z_aload_n dX0_add_33 rfl rfl ?_
    refine c_getI (ci := 0) (kf := 1) dX0_add_34 rfl (by decide) (by decide) rfl w_169 ?_
    rw [hs1, hs]
    refine z_iload_n dX0_add_37 rfl rfl ?_
    refine c_iast dX0_add_38 hK1 (by omega) (by omega) ?_
    refine z_aload_n dX0_add_39 rfl rfl ?_
    refine z_dup dX0_add_40 rfl ?_
    refine c_getI (ci := 0) (kf := 1) dX0_add_41 rfl (by decide) (by decide) rfl w_169 ?_
    rw [zup_ne (Ne.symm hr1), hs1, hs]
    refine c_iconst dX0_add_44 ?_
    refine c_iadd dX0_add_45 ?_
    refine c_putI (ci := 0) (kf := 1) dX0_add_46 rfl (by decide) (by decide) rfl (by decide) w_169 ?_
    refine z_return dX0_add_49 rfl ?_
    subst hQ0
    refine ⟨rfl, K1, _, R1, n1, s1, rw1, L1, rfl, ⟨hR1, hK1, hl1.1⟩, by rw [zz], fun q hq => ?_, ?_, hd, fun a a1 a2 a3 => ?_, fun q hq => ?_⟩
    · rw [zup_ne hr1, zzi (by omega)]; exact hq1 q hq
    · rw [zup_ne hr1, zz]
    · have : a ≠ rw1 := by rcases hd with z | z; (rw [z.2.2.2.2.2.1]; exact a2); (rw [z.2.2.2.2.2.1]; exact a3)
      rw [zup_ne a1, zup_ne this]; exact ho a a3
    · rw [zzi hq, zup_ne (Ne.symm hr1), hs1]
  refine z_aload_n dX0_add_0 rfl rfl ?_
  refine c_getI (ci := 0) (kf := 1) dX0_add_1 rfl (by decide) (by decide) rfl w_169 ?_
  rw [hs]
  refine z_aload_n dX0_add_4 rfl rfl ?_
  refine z_getR (ci := 0) (kf := 3) dX0_add_5 rfl (by decide) (by decide) rfl w_172 hR ?_
  refine c_alen dX0_add_8 hK (by decide) ?_
  refine c_icmp_lt (tgt := 29) dX0_add_9 (by decide) (by omega) (by omega) (fun h9 => ?_) (fun h9 => ?_)
  · exact Z.fg2 (L29 _ _ _ _ _ _ _ (by first | exact hR | (show zup Rd 40 3 (some n) 40 3 = _; exact zz)) (by first | exact hK | (rw [KF_dyn h66, zkp_eq]; done)) (by first | rfl | exact ho23 40 (by omega)) (by first | exact (fun _ _ => rfl) | exact (fun q hq => by rw [hn23, if_pos (by omega)])) (by omega) (by omega) (by first | exact Or.inl ⟨by omega, rfl, rfl, rfl, rfl, rfl, rfl⟩ | exact Or.inr ⟨by omega, rfl, rfl, rfl, rfl, rfl, rfl⟩) (by first | exact (fun _ _ => rfl) | exact ho23)) (zs1 rfl (zs1 rfl zs0))
  · refine z_aload_n dX0_add_12 rfl rfl ?_
    refine z_aload_n dX0_add_13 rfl rfl ?_
    refine z_getR (ci := 0) (kf := 3) dX0_add_14 rfl (by decide) (by decide) rfl w_172 hR ?_
    refine c_iconst dX0_add_17 ?_
    refine z_aload_n dX0_add_18 rfl rfl ?_
    refine c_getI (ci := 0) (kf := 1) dX0_add_19 rfl (by decide) (by decide) rfl w_169 ?_
    rw [hs]
    refine c_imul dX0_add_22 ?_
    refine z_calls (N := MJ7_copyOf_59c91) (nas := 2) (as := [_, _]) dX0_add_23 w_624 w_622 w_623 w_9 (by decide +kernel) rfl rfl (Nat.le_of_ble_eq_true rfl) (by decide) (by decide) (ZC.mono (cMJ7_copyOf_59c91 (la := L) (m := 2 * sz) hK (by omega) h66 (by omega)) ?_)
    rintro _ _ ⟨rfl, J23, rfl, hn23, ho23⟩
    refine z_putR (ci := 0) (kf := 3) dX0_add_26 rfl (by decide) (by decide) rfl (by decide) (fun _ => rfl) (fun _ => rfl) w_172 ?_
    rw [RF_up (Or.inl rfl)]
    have eL : (2 * sz).toNat = 2 * L := by omega
    rw [eL]
    exact Z.fg2 (L29 _ _ _ _ _ _ _ (by first | exact hR | (show zup Rd 40 3 (some n) 40 3 = _; exact zz)) (by first | exact hK | (rw [KF_dyn h66, zkp_eq]; done)) (by first | rfl | exact ho23 40 (by omega)) (by first | exact (fun _ _ => rfl) | exact (fun q hq => by rw [hn23, if_pos (by omega)])) (by omega) (by omega) (by first | exact Or.inl ⟨by omega, rfl, rfl, rfl, rfl, rfl, rfl⟩ | exact Or.inr ⟨by omega, rfl, rfl, rfl, rfl, rfl, rfl⟩) (by first | exact (fun _ _ => rfl) | exact ho23)) (zs1 rfl (zs1 rfl zs0))
end Cls24
