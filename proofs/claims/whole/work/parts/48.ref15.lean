section Ref15
variable {g : ZG} {l : Launch} {Kd : ZK} {Rd : ZR} {n s0 : Nat} {J P : Nat → Nat → Int}
theorem rest_step {J1 : Nat → Nat → Int} {m : Int} {f : Int → Nat} (hm : 2 ≤ m) (hR : ∀ k : Int, 2 ≤ k → k < m → J1 55 k.toNat = ((f k : Nat) : Int)) : ∀ k : Int, 2 ≤ k → k < m + 1 → zup J1 55 m.toNat ((f m : Nat) : Int) 55 k.toNat = ((f k : Nat) : Int) := fun k h1 h2 => by
  by_cases e : k = m
  · subst e; rw [zz]
  · rw [zzi (by omega)]; exact hR k h1 (by omega)
theorem emod_of_tmod {v m : Int} (hm : 0 < m) : v % m = if 0 ≤ v.tmod m then v.tmod m else v.tmod m + m := by
  have h := Int.tmod_eq_emod (a := v) (b := m)
  have h0 := Int.emod_nonneg v (show m ≠ 0 by omega)
  have h1 := Int.emod_lt_of_pos v hm
  split at h <;> split <;> omega
theorem tmod_bd {v m : Int} (hm : 0 < m) : -m < v.tmod m ∧ v.tmod m < m := by
  have h := Int.tmod_eq_emod (a := v) (b := m)
  have h0 := Int.emod_nonneg v (show m ≠ 0 by omega)
  have h1 := Int.emod_lt_of_pos v hm
  split at h
  · omega
  · rename_i hc
    have h2 : v % m ≠ 0 := fun e => hc (Or.inr (Int.dvd_of_emod_eq_zero e))
    omega
set_option maxHeartbeats 4000000 in
set_option maxRecDepth 100000 in
theorem cMX9_layRests {p : Int} (hp : 0 ≤ p ∧ p < 74) (h1 : 1 ≤ J 44 p.toNat) (hF : okF (J 44 p.toNat) (eE J p)) : ZC g l MX9_layRests [.ref 42, .int (iZ p)] (KF Kd, zi J, zj P, RF Rd, n, s0) (fun rr hh => rr = none ∧ ∃ J' P', hh = (KF Kd, zi J', zj P', RF Rd, n, s0) ∧ RS (J 44 p.toNat) (eE J p) J' ∧ (∀ a, a ≠ 55 → J' a = J a) ∧ ∀ a, a ≠ 51 → P' a = P a) := by
  refine ZC.of (by decide) (Nat.le_of_ble_eq_true rfl) ?_
  generalize hQ0 : (fun rr hh => rr = none ∧ ∃ J' P', hh = (KF Kd, zi J', zj P', RF Rd, n, s0) ∧ RS (J 44 p.toNat) (eE J p) J' ∧ (∀ a, a ≠ 55 → J' a = J a) ∧ ∀ a, a ≠ 51 → P' a = P a : Option Value → ZH → Prop) = Q0
  show Z g l MX9_layRests 0 [some (.ref 42), some (.int (iZ p)), none] [] (KF Kd, zi J, zj P, RF Rd, n, s0) Q0
  refine c_iconst dX9_layRests_0 ?_
  refine z_istore_n dX9_layRests_1 rfl (by decide) rfl ?_
  have L2 : ∀ (m2 : Nat), ∀ (m : Int) (J1 P1 : Nat → Nat → Int), (17 - m).toNat = m2 → (2 ≤ m ∧ m ≤ 17) → (∀ k : Int, 2 ≤ k → k < m → J1 55 k.toNat = ((restS (J 44 p.toNat) (eE J p) k : Nat) : Int)) → (∀ a, a ≠ 55 → J1 a = J a) → (∀ a, a ≠ 51 → P1 a = P a) → Z g l MX9_layRests 2 [some (.ref 42), some (.int (iZ p)), some (.int (iZ m))] [] (KF Kd, zi J1, zj P1, RF Rd, n, s0) Q0 := by
    intro m2
    induction m2 using Nat.strongRecOn with
    | ind m2 ih2 =>
      intro m J1 P1 hm2 hm hR hoff hP1
      refine z_iload_n dX9_layRests_2 rfl rfl ?_
      refine c_bipush dX9_layRests_3 (by decide) ?_
      refine c_icmp_gt (tgt := 26) dX9_layRests_5 (by decide) (by omega) (by omega) (fun h5 => ?_) (fun h5 => ?_)
      · refine z_return dX9_layRests_26 rfl ?_
        subst hQ0; refine ⟨rfl, J1, P1, rfl, fun k k1 k2 => hR k k1 (by omega), hoff, hP1⟩
      · refine z_aload_n dX9_layRests_8 rfl rfl ?_
        refine z_getR (ci := 9) (kf := 20) dX9_layRests_9 rfl (by decide) (by decide) rfl w_796 rfl ?_
        refine z_iload_n dX9_layRests_12 rfl rfl ?_
        refine z_aload_n dX9_layRests_13 rfl rfl ?_
        refine z_iload_n dX9_layRests_14 rfl rfl ?_
        refine z_iload_n dX9_layRests_15 rfl rfl ?_
        have e44 : J1 44 p.toNat = J 44 p.toNat := by rw [hoff 44 (by decide)]
        have eE1 : eE J1 p = eE J p := by unfold eE; rw [hoff 43 (by decide)]
        have hp16 := hp
        have hm16 : 2 ≤ m ∧ m ≤ 16 := by omega
        have h116 : 1 ≤ J1 44 p.toNat := by rw [e44]; exact h1
        have hF16 : okF (J1 44 p.toNat) (eE J1 p) := by rw [e44, eE1]; exact hF
        refine z_callv (N := MX9_restsBy) (ci := 9) (nas := 2) (as := [_, _]) dX9_layRests_16 w_1059 w_1056 w_1058 ws_37 w_8 (by decide +kernel) rfl rfl rfl (by decide) (Nat.le_of_ble_eq_true rfl) (by decide) (by decide) (ZC.mono (cMX9_restsBy hp16 hm16 h116 hF16) ?_)
        rintro _ _ ⟨P16, rfl, rfl, hP16⟩
        rw [e44, eE1]
        refine c_iast dX9_layRests_19 rfl (by omega) (by decide) ?_
        refine c_iinc dX9_layRests_20 rfl (by decide) rfl ?_
        refine z_goto (tgt := 2) dX9_layRests_23 (by decide) ?_
        exact Z.fg2 (ih2 _ (by omega) _ _ _ rfl (by omega) (rest_step hm.1 hR) (fun a ha => by rw [zup_ne ha]; exact hoff a ha) (fun a ha => (hP16 a ha).trans (hP1 a ha))) (zs1 rfl (zs1 rfl (zs1 rfl zs0)))
  exact Z.fg2 (L2 _ _ _ _ rfl (by omega) (fun k h1 h2 => absurd h1 (by omega)) (fun _ _ => rfl) (fun _ _ => rfl)) (zs1 rfl (zs1 rfl (zs1 rfl zs0)))
set_option maxHeartbeats 4000000 in
set_option maxRecDepth 100000 in
theorem cMX9_barredBy {v : Int} {nl : Int} {E : Nat → Int} (hv : rI v) (hR : RS nl E J) (hp : ∀ x, 0 ≤ wv E x) : ZC g l MX9_barredBy [.ref 42, .int (iZ v)] (KF Kd, zi J, zj P, RF Rd, n, s0) (fun rr hh => rr = some (.int (iZ (barS nl E v))) ∧ hh = (KF Kd, zi J, zj P, RF Rd, n, s0)) := by
  refine ZC.of (by decide) (Nat.le_of_ble_eq_true rfl) ?_
  generalize hQ0 : (fun rr hh => rr = some (.int (iZ (barS nl E v))) ∧ hh = (KF Kd, zi J, zj P, RF Rd, n, s0) : Option Value → ZH → Prop) = Q0
  show Z g l MX9_barredBy 0 [some (.ref 42), some (.int (iZ v)), none, none, none] [] (KF Kd, zi J, zj P, RF Rd, n, s0) Q0
  refine c_iconst dX9_barredBy_0 ?_
  refine z_istore_n dX9_barredBy_1 rfl (by decide) rfl ?_
  refine c_bipush dX9_barredBy_2 (by decide) ?_
  refine z_istore_n dX9_barredBy_4 rfl (by decide) rfl ?_
  have L5 : ∀ (m5 : Nat), ∀ (m b : Int), (m).toNat = m5 → (1 ≤ m ∧ m ≤ 16) → (b = barD (restS nl E) v (16 - m).toNat) → Z g l MX9_barredBy 5 [some (.ref 42), some (.int (iZ v)), some (.int (iZ b)), some (.int (iZ m)), none] [] (KF Kd, zi J, zj P, RF Rd, n, s0) Q0 := by
    intro m5
    induction m5 using Nat.strongRecOn with
    | ind m5 ih5 =>
      intro m b hm5 hm hb
      refine z_iload_n dX9_barredBy_5 rfl rfl ?_
      refine c_iconst dX9_barredBy_6 ?_
      refine c_icmp_lt (tgt := 57) dX9_barredBy_7 (by decide) (by omega) (by omega) (fun h7 => ?_) (fun h7 => ?_)
      · refine z_iload_n dX9_barredBy_57 rfl rfl ?_
        refine c_ireturn dX9_barredBy_58 rfl ?_
        subst hQ0; refine ⟨?_, rfl⟩; unfold barS; rw [hb, show (16 - m).toNat = 15 by omega]
      · refine z_iload_n dX9_barredBy_10 rfl rfl ?_
        refine z_iload_n dX9_barredBy_11 rfl rfl ?_
        refine c_irem dX9_barredBy_12 (by omega) (by omega) (by omega) (by omega) ?_
        have htm := tmod_bd (v := v) (m := m) (by omega)
        have L29 : ∀ (r : Int), (r = v % m) → Z g l MX9_barredBy 29 [some (.ref 42), some (.int (iZ v)), some (.int (iZ b)), some (.int (iZ m)), none] [.int (iZ r)] (KF Kd, zi J, zj P, RF Rd, n, s0) Q0 := by
          intro r hr
          subst hr
          have hm0 := Int.emod_nonneg v (show m ≠ 0 by omega)
          have hm1 := Int.emod_lt_of_pos v (show 0 < m by omega)
          refine z_istore dX9_barredBy_29 (by decide) rfl ?_
          refine z_aload_n dX9_barredBy_31 rfl rfl ?_
          refine z_getR (ci := 9) (kf := 20) dX9_barredBy_32 rfl (by decide) (by decide) rfl w_796 rfl ?_
          refine z_iload_n dX9_barredBy_35 rfl rfl ?_
          refine c_iald dX9_barredBy_36 rfl (by omega) (by decide) ?_
          rw [hR m (by omega) (by omega)]
          refine z_iload dX9_barredBy_37 rfl ?_
          refine z_ishr dX9_barredBy_39 ?_
          refine c_iconst dX9_barredBy_40 ?_
          refine z_iand dX9_barredBy_41 ?_
          have hlt : restS nl E m < 2147483648 := Nat.lt_trans (resS_lt (by omega) hp _) (by decide)
          rw [iZ_bit hlt hm0 (by omega)]
          have hxb : ((if (restS nl E m).testBit (v % m).toNat then (1 : Int) else 0) = 1 ∧ (restS nl E m).testBit (v % m).toNat = true) ∨ ((if (restS nl E m).testBit (v % m).toNat then (1 : Int) else 0) = 0 ∧ ¬ (restS nl E m).testBit (v % m).toNat = true) := by split <;> simp_all
          generalize (if (restS nl E m).testBit (v % m).toNat then (1 : Int) else 0) = xb at hxb ⊢
          refine c_if_ne (tgt := 49) dX9_barredBy_42 (by decide) (by omega) (fun h42 => ?_) (fun h42 => ?_)
          · refine z_iload_n dX9_barredBy_49 rfl rfl ?_
            refine z_istore_n dX9_barredBy_50 rfl (by decide) rfl ?_
            refine c_iinc dX9_barredBy_51 rfl (by decide) rfl ?_
            refine z_goto (tgt := 5) dX9_barredBy_54 (by decide) ?_
            exact Z.fg2 (ih5 _ (by omega) _ _ rfl (by omega) (by rw [show (16 - (m + -1)).toNat = (16 - m).toNat + 1 by omega, barD, show (16 : Int) - ((16 - m).toNat : Nat) = m by omega]; first | rw [if_pos (hxb.resolve_right (fun z => by have := z.1; omega)).2, hb] | rw [if_neg (hxb.resolve_left (fun z => by have := z.1; omega)).2])) (zs1 rfl (zs1 rfl (zs1 rfl (zs1 rfl (zsn zs0)))))
          · refine z_iload_n dX9_barredBy_45 rfl rfl ?_
            refine z_goto (tgt := 50) dX9_barredBy_46 (by decide) ?_
            refine z_istore_n dX9_barredBy_50 rfl (by decide) rfl ?_
            refine c_iinc dX9_barredBy_51 rfl (by decide) rfl ?_
            refine z_goto (tgt := 5) dX9_barredBy_54 (by decide) ?_
            exact Z.fg2 (ih5 _ (by omega) _ _ rfl (by omega) (by rw [show (16 - (m + -1)).toNat = (16 - m).toNat + 1 by omega, barD, show (16 : Int) - ((16 - m).toNat : Nat) = m by omega]; first | rw [if_pos (hxb.resolve_right (fun z => by have := z.1; omega)).2, hb] | rw [if_neg (hxb.resolve_left (fun z => by have := z.1; omega)).2])) (zs1 rfl (zs1 rfl (zs1 rfl (zs1 rfl (zsn zs0)))))
        refine z_istore dX9_barredBy_13 (by decide) rfl ?_
        refine z_iload dX9_barredBy_15 rfl ?_
        refine c_if_ge (tgt := 27) dX9_barredBy_17 (by decide) (by omega) (fun h17 => ?_) (fun h17 => ?_)
        · refine z_iload dX9_barredBy_27 rfl ?_
          exact Z.fg2 (L29 _ (by rw [emod_of_tmod (by omega)]; first | rw [if_pos (by omega)] | rw [if_neg (by omega)])) (zs1 rfl (zs1 rfl (zs1 rfl (zs1 rfl (zsn zs0)))))
        · refine z_iload dX9_barredBy_20 rfl ?_
          refine z_iload_n dX9_barredBy_22 rfl rfl ?_
          refine c_iadd dX9_barredBy_23 ?_
          refine z_goto (tgt := 29) dX9_barredBy_24 (by decide) ?_
          exact Z.fg2 (L29 _ (by rw [emod_of_tmod (by omega)]; first | rw [if_pos (by omega)] | rw [if_neg (by omega)])) (zs1 rfl (zs1 rfl (zs1 rfl (zs1 rfl (zsn zs0)))))
  exact Z.fg2 (L5 _ _ _ rfl (by omega) rfl) (zs1 rfl (zs1 rfl (zs1 rfl (zs1 rfl (zsn zs0)))))
set_option maxHeartbeats 4000000 in
set_option maxRecDepth 100000 in
theorem cMX9_residues {s m : Int} (hs : rI s) (hm : rI m) (hL : okJ J) : ZC g l MX9_residues [.ref 42, .int (iZ s), .int (iZ m)] (KF Kd, zi J, zj P, RF Rd, n, s0) (fun rr hh => ∃ J' P', hh = (KF Kd, zi J', zj P', RF Rd, n, s0) ∧ rr = some (.int (iZ (aResidues J s m))) ∧ pq J J' ∧ pp P P') := by
  refine ZC.of (by decide) (Nat.le_of_ble_eq_true rfl) ?_
  generalize hQ0 : (fun rr hh => ∃ J' P', hh = (KF Kd, zi J', zj P', RF Rd, n, s0) ∧ rr = some (.int (iZ (aResidues J s m))) ∧ pq J J' ∧ pp P P' : Option Value → ZH → Prop) = Q0
  show Z g l MX9_residues 0 [some (.ref 42), some (.int (iZ s)), some (.int (iZ m))] [] (KF Kd, zi J, zj P, RF Rd, n, s0) Q0
  refine z_aload_n dX9_residues_0 rfl rfl ?_
  refine z_iload_n dX9_residues_1 rfl rfl ?_
  refine z_callv (N := MX9_hasForm) (ci := 9) (nas := 1) (as := [_]) dX9_residues_2 w_948 w_945 w_947 ws_28 w_8 (by decide +kernel) rfl rfl rfl (by decide) (Nat.le_of_ble_eq_true rfl) (by decide) (by decide) (ZC.mono (b_hasForm (by omega) hL) ?_)
  rintro _ _ ⟨b2, rfl, rfl, hb2⟩
  refine c_if_eq (tgt := 31) dX9_residues_5 (by decide) (by omega) (fun h5 => ?_) (fun h5 => ?_)
  · have g2 := (hb2.resolve_left (fun z => by have := z.1; omega)).2
    clear hb2
    refine c_iconst dX9_residues_31 ?_
    refine c_ireturn dX9_residues_32 rfl ?_
    subst hQ0; refine ⟨_, _, rfl, ?_⟩; unfold aResidues; first | (rw [cif_neg (by omega)]; exact ⟨rfl, pq_refl _, pp_refl _⟩) | (rw [cif_pos (by omega)]; exact ⟨rfl, pq_refl _, fun a ha => hP25 a (by omega)⟩)
  · have g2 := (hb2.resolve_right (fun z => by have := z.1; omega)).2
    clear hb2
    refine z_iload_n dX9_residues_8 rfl rfl ?_
    refine c_i2l dX9_residues_9 (by omega) ?_
    refine c_ldc2 (z := 2) dX9_residues_10 w_936 (by decide) ?_
    refine c_ldc2 (z := 16) dX9_residues_13 w_1072 (by decide) ?_
    refine z_calls (N := MX9_in) (nas := 3) (as := [_, _, _]) dX9_residues_16 w_889 w_887 w_888 w_8 (by decide +kernel) rfl rfl (Nat.le_of_ble_eq_true rfl) (by decide) (by decide) (ZC.mono (b_in (by omega) (by omega) (by omega)) ?_)
    rintro _ _ ⟨b16, rfl, rfl, hb16⟩
    refine c_if_eq (tgt := 31) dX9_residues_19 (by decide) (by omega) (fun h19 => ?_) (fun h19 => ?_)
    · have g16 := (hb16.resolve_left (fun z => by have := z.1; omega)).2
      clear hb16
      refine c_iconst dX9_residues_31 ?_
      refine c_ireturn dX9_residues_32 rfl ?_
      subst hQ0; refine ⟨_, _, rfl, ?_⟩; unfold aResidues; first | (rw [cif_neg (by omega)]; exact ⟨rfl, pq_refl _, pp_refl _⟩) | (rw [cif_pos (by omega)]; exact ⟨rfl, pq_refl _, fun a ha => hP25 a (by omega)⟩)
    · have g16 := (hb16.resolve_right (fun z => by have := z.1; omega)).2
      clear hb16
      have hp25 : 0 ≤ s ∧ s < 74 := by omega
      have h125 : 1 ≤ J 44 s.toNat := by omega
      have hF25 := okJ_form hL (s := s) (by omega) (by omega)
      have hm25 : 2 ≤ m ∧ m ≤ 16 := by omega
      refine z_aload_n dX9_residues_22 rfl rfl ?_
      refine z_iload_n dX9_residues_23 rfl rfl ?_
      refine z_iload_n dX9_residues_24 rfl rfl ?_
      refine z_callv (N := MX9_restsBy) (ci := 9) (nas := 2) (as := [_, _]) dX9_residues_25 w_1059 w_1056 w_1058 ws_37 w_8 (by decide +kernel) rfl rfl rfl (by decide) (Nat.le_of_ble_eq_true rfl) (by decide) (by decide) (ZC.mono (cMX9_restsBy hp25 hm25 h125 hF25) ?_)
      rintro _ _ ⟨P25, rfl, rfl, hP25⟩
      refine z_goto (tgt := 32) dX9_residues_28 (by decide) ?_
      refine c_ireturn dX9_residues_32 rfl ?_
      subst hQ0; refine ⟨_, _, rfl, ?_⟩; unfold aResidues; first | (rw [cif_neg (by omega)]; exact ⟨rfl, pq_refl _, pp_refl _⟩) | (rw [cif_pos (by omega)]; exact ⟨rfl, pq_refl _, fun a ha => hP25 a (by omega)⟩)
set_option maxHeartbeats 4000000 in
set_option maxRecDepth 100000 in
theorem cMX9_barred {s v : Int} (hs : rI s) (hv : rI v) (hL : okJ J) : ZC g l MX9_barred [.ref 42, .int (iZ s), .int (iZ v)] (KF Kd, zi J, zj P, RF Rd, n, s0) (fun rr hh => ∃ J' P', hh = (KF Kd, zi J', zj P', RF Rd, n, s0) ∧ rr = some (.int (iZ (aBarred J s v))) ∧ pq J J' ∧ pp P P') := by
  refine ZC.of (by decide) (Nat.le_of_ble_eq_true rfl) ?_
  generalize hQ0 : (fun rr hh => ∃ J' P', hh = (KF Kd, zi J', zj P', RF Rd, n, s0) ∧ rr = some (.int (iZ (aBarred J s v))) ∧ pq J J' ∧ pp P P' : Option Value → ZH → Prop) = Q0
  show Z g l MX9_barred 0 [some (.ref 42), some (.int (iZ s)), some (.int (iZ v)), none] [] (KF Kd, zi J, zj P, RF Rd, n, s0) Q0
  refine z_aload_n dX9_barred_0 rfl rfl ?_
  refine z_iload_n dX9_barred_1 rfl rfl ?_
  refine z_callv (N := MX9_hasForm) (ci := 9) (nas := 1) (as := [_]) dX9_barred_2 w_948 w_945 w_947 ws_28 w_8 (by decide +kernel) rfl rfl rfl (by decide) (Nat.le_of_ble_eq_true rfl) (by decide) (by decide) (ZC.mono (b_hasForm (by omega) hL) ?_)
  rintro _ _ ⟨b2, rfl, rfl, hb2⟩
  refine c_if_ne (tgt := 10) dX9_barred_5 (by decide) (by omega) (fun h5 => ?_) (fun h5 => ?_)
  · have g2 := (hb2.resolve_right (fun z => by have := z.1; omega)).2
    clear hb2
    have hp12 : 0 ≤ s ∧ s < 74 := by omega
    have h112 : 1 ≤ J 44 s.toNat := by omega
    have hF12 := okJ_form hL (s := s) (by omega) (by omega)
    have hps := okF_pos h112 hF12
    have hbb : 0 ≤ barS (J 44 s.toNat) (eE J s) v ∧ barS (J 44 s.toNat) (eE J s) v ≤ 16 := barD_bd _ _ 15 (by omega)
    refine z_aload_n dX9_barred_10 rfl rfl ?_
    refine z_iload_n dX9_barred_11 rfl rfl ?_
    refine z_callv (N := MX9_layRests) (ci := 9) (nas := 1) (as := [_]) dX9_barred_12 w_1055 w_1052 w_1054 ws_36 w_8 (by decide +kernel) rfl rfl rfl (by decide) (Nat.le_of_ble_eq_true rfl) (by decide) (by decide) (ZC.mono (cMX9_layRests hp12 h112 hF12) ?_)
    rintro _ _ ⟨rfl, J3, P3, rfl, hR3, hO3, hPo3⟩
    refine z_aload_n dX9_barred_15 rfl rfl ?_
    refine z_iload_n dX9_barred_16 rfl rfl ?_
    refine z_callv (N := MX9_barredBy) (ci := 9) (nas := 1) (as := [_]) dX9_barred_17 w_1063 w_1060 w_1062 ws_38 w_8 (by decide +kernel) rfl rfl rfl (by decide) (Nat.le_of_ble_eq_true rfl) (by decide) (by decide) (ZC.mono (cMX9_barredBy (by omega) hR3 hps) ?_)
    rintro _ _ ⟨rfl, rfl⟩
    refine z_istore_n dX9_barred_20 rfl (by decide) rfl ?_
    refine z_iload_n dX9_barred_21 rfl rfl ?_
    refine c_if_ne (tgt := 30) dX9_barred_22 (by decide) (by omega) (fun h22 => ?_) (fun h22 => ?_)
    · refine z_iload_n dX9_barred_30 rfl rfl ?_
      refine c_ireturn dX9_barred_31 rfl ?_
      subst hQ0; refine ⟨_, _, rfl, ?_⟩; unfold aBarred; rw [cif_pos (by omega)]; refine ⟨?_, pq_off (fun a ha => hO3 a (by intro e; subst e; rcases ha with h | h | h | h; exact absurd h (by decide); all_goals omega)), fun a ha => hPo3 a (by omega)⟩; first | rw [if_pos (by omega)] | rw [if_neg (by omega)]
    · refine c_bipush dX9_barred_25 (by decide) ?_
      refine z_goto (tgt := 31) dX9_barred_27 (by decide) ?_
      refine c_ireturn dX9_barred_31 rfl ?_
      subst hQ0; refine ⟨_, _, rfl, ?_⟩; unfold aBarred; rw [cif_pos (by omega)]; refine ⟨?_, pq_off (fun a ha => hO3 a (by intro e; subst e; rcases ha with h | h | h | h; exact absurd h (by decide); all_goals omega)), fun a ha => hPo3 a (by omega)⟩; first | rw [if_pos (by omega)] | rw [if_neg (by omega)]
  · have g2 := (hb2.resolve_left (fun z => by have := z.1; omega)).2
    clear hb2
    refine c_iconst dX9_barred_8 ?_
    refine c_ireturn dX9_barred_9 rfl ?_
    subst hQ0; refine ⟨_, _, rfl, ?_⟩; unfold aBarred; rw [cif_neg (by omega)]; exact ⟨rfl, pq_refl _, pp_refl _⟩
set_option maxHeartbeats 4000000 in
set_option maxRecDepth 100000 in
theorem cMX9_exceptions {s m w : Int} (hs : rI s) (hm : rI m) (hw : rI w) (hL : okJ J) : ZC g l MX9_exceptions [.ref 42, .int (iZ s), .int (iZ m), .int (iZ w)] (KF Kd, zi J, zj P, RF Rd, n, s0) (fun rr hh => ∃ J' P', hh = (KF Kd, zi J', zj P', RF Rd, n, s0) ∧ rr = some (.int (iZ (aExceptions J s m w))) ∧ pq J J' ∧ pp P P') := by
  refine ZC.of (by decide) (Nat.le_of_ble_eq_true rfl) ?_
  generalize hQ0 : (fun rr hh => ∃ J' P', hh = (KF Kd, zi J', zj P', RF Rd, n, s0) ∧ rr = some (.int (iZ (aExceptions J s m w))) ∧ pq J J' ∧ pp P P' : Option Value → ZH → Prop) = Q0
  show Z g l MX9_exceptions 0 [some (.ref 42), some (.int (iZ s)), some (.int (iZ m)), some (.int (iZ w)), none, none, none, none] [] (KF Kd, zi J, zj P, RF Rd, n, s0) Q0
  refine z_aload_n dX9_exceptions_0 rfl rfl ?_
  refine z_iload_n dX9_exceptions_1 rfl rfl ?_
  refine z_callv (N := MX9_hasForm) (ci := 9) (nas := 1) (as := [_]) dX9_exceptions_2 w_948 w_945 w_947 ws_28 w_8 (by decide +kernel) rfl rfl rfl (by decide) (Nat.le_of_ble_eq_true rfl) (by decide) (by decide) (ZC.mono (b_hasForm (by omega) hL) ?_)
  rintro _ _ ⟨b2, rfl, rfl, hb2⟩
  refine c_if_eq (tgt := 32) dX9_exceptions_5 (by decide) (by omega) (fun h5 => ?_) (fun h5 => ?_)
  · have g2 := (hb2.resolve_left (fun z => by have := z.1; omega)).2
    clear hb2
    refine c_iconst dX9_exceptions_32 ?_
    refine c_ireturn dX9_exceptions_33 rfl ?_
    subst hQ0; refine ⟨_, _, rfl, ?_⟩; unfold aExceptions; rw [cif_neg (by omega)]; exact ⟨rfl, pq_refl _, pp_refl _⟩
  · have g2 := (hb2.resolve_right (fun z => by have := z.1; omega)).2
    clear hb2
    refine z_iload_n dX9_exceptions_8 rfl rfl ?_
    refine c_i2l dX9_exceptions_9 (by omega) ?_
    refine c_lconst1 dX9_exceptions_10 ?_
    refine c_ldc2 (z := 100) dX9_exceptions_11 w_930 (by decide) ?_
    refine z_calls (N := MX9_in) (nas := 3) (as := [_, _, _]) dX9_exceptions_14 w_889 w_887 w_888 w_8 (by decide +kernel) rfl rfl (Nat.le_of_ble_eq_true rfl) (by decide) (by decide) (ZC.mono (b_in (by omega) (by omega) (by omega)) ?_)
    rintro _ _ ⟨b14, rfl, rfl, hb14⟩
    refine c_if_eq (tgt := 32) dX9_exceptions_17 (by decide) (by omega) (fun h17 => ?_) (fun h17 => ?_)
    · have g14 := (hb14.resolve_left (fun z => by have := z.1; omega)).2
      clear hb14
      refine c_iconst dX9_exceptions_32 ?_
      refine c_ireturn dX9_exceptions_33 rfl ?_
      subst hQ0; refine ⟨_, _, rfl, ?_⟩; unfold aExceptions; rw [cif_neg (by omega)]; exact ⟨rfl, pq_refl _, pp_refl _⟩
    · have g14 := (hb14.resolve_right (fun z => by have := z.1; omega)).2
      clear hb14
      refine z_iload_n dX9_exceptions_20 rfl rfl ?_
      refine c_i2l dX9_exceptions_21 (by omega) ?_
      refine c_lconst0 dX9_exceptions_22 ?_
      refine c_ldc2 (z := 2) dX9_exceptions_23 w_936 (by decide) ?_
      refine z_calls (N := MX9_in) (nas := 3) (as := [_, _, _]) dX9_exceptions_26 w_889 w_887 w_888 w_8 (by decide +kernel) rfl rfl (Nat.le_of_ble_eq_true rfl) (by decide) (by decide) (ZC.mono (b_in (by omega) (by omega) (by omega)) ?_)
      rintro _ _ ⟨b26, rfl, rfl, hb26⟩
      refine c_if_ne (tgt := 34) dX9_exceptions_29 (by decide) (by omega) (fun h29 => ?_) (fun h29 => ?_)
      · have g26 := (hb26.resolve_right (fun z => by have := z.1; omega)).2
        clear hb26
        have hp36 : 0 ≤ s ∧ s < 74 := by omega
        have h136 : 1 ≤ J 44 s.toNat := by omega
        have hF36 := okJ_form hL (s := s) (by omega) (by omega)
        have hps := okF_pos h136 hF36
        refine z_aload_n dX9_exceptions_34 rfl rfl ?_
        refine z_iload_n dX9_exceptions_35 rfl rfl ?_
        refine z_callv (N := MX9_layCounts) (ci := 9) (nas := 1) (as := [_]) dX9_exceptions_36 w_1023 w_1020 w_1022 ws_32 w_8 (by decide +kernel) rfl rfl rfl (by decide) (Nat.le_of_ble_eq_true rfl) (by decide) (by decide) (ZC.mono (cLay hp36 h136 hF36) ?_)
        rintro _ _ ⟨rfl, J2, P2, rfl, hC, hO, hPo⟩
        have e44 : J2 44 = J 44 := hO.1 44 (by decide) (by decide) (by decide)
        have eE2 : eE J2 s = eE J s := by unfold eE; rw [hO.1 43 (by decide) (by decide) (by decide)]
        have hp41 := hp36
        have h141 : 1 ≤ J2 44 s.toNat := by rw [e44]; exact h136
        have hF41 : okF (J2 44 s.toNat) (eE J2 s) := by rw [e44, eE2]; exact hF36
        refine z_aload_n dX9_exceptions_39 rfl rfl ?_
        refine z_iload_n dX9_exceptions_40 rfl rfl ?_
        refine z_callv (N := MX9_layRests) (ci := 9) (nas := 1) (as := [_]) dX9_exceptions_41 w_1055 w_1052 w_1054 ws_36 w_8 (by decide +kernel) rfl rfl rfl (by decide) (Nat.le_of_ble_eq_true rfl) (by decide) (by decide) (ZC.mono (cMX9_layRests hp41 h141 hF41) ?_)
        rintro _ _ ⟨rfl, J3, P3, rfl, hR3, hO3, hPo3⟩
        rw [e44, eE2] at hR3
        refine c_iconst dX9_exceptions_44 ?_
        refine z_istore dX9_exceptions_45 (by decide) rfl ?_
        refine c_iconst dX9_exceptions_47 ?_
        refine z_istore dX9_exceptions_48 (by decide) rfl ?_
        refine c_iconst dX9_exceptions_50 ?_
        refine z_istore dX9_exceptions_51 (by decide) rfl ?_
        refine c_iconst dX9_exceptions_53 ?_
        refine z_istore dX9_exceptions_54 (by decide) rfl ?_
        have L56 : ∀ (m56 : Nat), ∀ (k a b c : Int), (m + 1 - k).toNat = m56 → (1 ≤ k ∧ k ≤ m + 1) → (a = exN (cF (J 44 s.toNat) (eE J s)) (k - 1).toNat) → (b = exB (cF (J 44 s.toNat) (eE J s)) (barS (J 44 s.toNat) (eE J s)) (k - 1).toNat) → (c = exG (cF (J 44 s.toNat) (eE J s)) (k - 1).toNat) → Z g l MX9_exceptions 56 [some (.ref 42), some (.int (iZ s)), some (.int (iZ m)), some (.int (iZ w)), some (.int (iZ a)), some (.int (iZ b)), some (.int (iZ c)), some (.int (iZ k))] [] (KF Kd, zi J3, zj P3, RF Rd, n, s0) Q0 := by
          intro m56
          induction m56 using Nat.strongRecOn with
          | ind m56 ih56 =>
            intro k a b c hm56 hk ha hb hc
            refine z_iload dX9_exceptions_56 rfl ?_
            refine z_iload_n dX9_exceptions_58 rfl rfl ?_
            refine c_icmp_gt (tgt := 104) dX9_exceptions_59 (by decide) (by omega) (by omega) (fun h59 => ?_) (fun h59 => ?_)
            · refine z_iload_n dX9_exceptions_104 rfl rfl ?_
              refine c_if_ne (tgt := 113) dX9_exceptions_105 (by decide) (by omega) (fun h105 => ?_) (fun h105 => ?_)
              · refine z_iload_n dX9_exceptions_113 rfl rfl ?_
                refine c_iconst dX9_exceptions_114 ?_
                refine c_icmp_ne (tgt := 123) dX9_exceptions_115 (by decide) (by omega) (by omega) (fun h115 => ?_) (fun h115 => ?_)
                · refine z_iload dX9_exceptions_123 rfl ?_
                  refine c_ireturn dX9_exceptions_125 rfl ?_
                  subst hQ0; refine ⟨_, _, rfl, ?_⟩; unfold aExceptions; rw [cif_pos (by omega)]; refine ⟨?_, pq_trans (pq_offC hO) (pq_off (fun a ha => hO3 a (by intro e; subst e; rcases ha with h | h | h | h; exact absurd h (by decide); all_goals omega))), pp_trans (pp_offP hPo) (fun a ha => hPo3 a (by omega))⟩; rw [show m.toNat = (k - 1).toNat by omega, ← ha, ← hb, ← hc]; repeat (first | rw [if_pos (by omega)] | rw [if_neg (by omega)])
                · refine z_iload dX9_exceptions_118 rfl ?_
                  refine z_goto (tgt := 125) dX9_exceptions_120 (by decide) ?_
                  refine c_ireturn dX9_exceptions_125 rfl ?_
                  subst hQ0; refine ⟨_, _, rfl, ?_⟩; unfold aExceptions; rw [cif_pos (by omega)]; refine ⟨?_, pq_trans (pq_offC hO) (pq_off (fun a ha => hO3 a (by intro e; subst e; rcases ha with h | h | h | h; exact absurd h (by decide); all_goals omega))), pp_trans (pp_offP hPo) (fun a ha => hPo3 a (by omega))⟩; rw [show m.toNat = (k - 1).toNat by omega, ← ha, ← hb, ← hc]; repeat (first | rw [if_pos (by omega)] | rw [if_neg (by omega)])
              · refine z_iload dX9_exceptions_108 rfl ?_
                refine z_goto (tgt := 125) dX9_exceptions_110 (by decide) ?_
                refine c_ireturn dX9_exceptions_125 rfl ?_
                subst hQ0; refine ⟨_, _, rfl, ?_⟩; unfold aExceptions; rw [cif_pos (by omega)]; refine ⟨?_, pq_trans (pq_offC hO) (pq_off (fun a ha => hO3 a (by intro e; subst e; rcases ha with h | h | h | h; exact absurd h (by decide); all_goals omega))), pp_trans (pp_offP hPo) (fun a ha => hPo3 a (by omega))⟩; rw [show m.toNat = (k - 1).toNat by omega, ← ha, ← hb, ← hc]; repeat (first | rw [if_pos (by omega)] | rw [if_neg (by omega)])
            · have hcv := hC k.toNat (by omega)
              have h52 : J3 52 = J2 52 := hO3 52 (by decide)
              have hbb : 0 ≤ barS (J 44 s.toNat) (eE J s) k ∧ barS (J 44 s.toNat) (eE J s) k ≤ 16 := barD_bd _ _ 15 (by omega)
              refine z_aload_n dX9_exceptions_62 rfl rfl ?_
              refine z_getR (ci := 9) (kf := 14) dX9_exceptions_63 rfl (by decide) (by decide) rfl w_790 rfl ?_
              refine z_iload dX9_exceptions_66 rfl ?_
              refine c_iald dX9_exceptions_68 rfl (by omega) (by omega) ?_
              rw [h52]
              refine c_if_ne (tgt := 98) dX9_exceptions_69 (by decide) (by omega) (fun h69 => ?_) (fun h69 => ?_)
              · refine c_iinc dX9_exceptions_98 rfl (by decide) rfl ?_
                refine z_goto (tgt := 56) dX9_exceptions_101 (by decide) ?_
                exact Z.fg2 (ih56 _ (by omega) _ _ _ _ rfl (by omega) (by rw [show (k + 1 - 1).toNat = (k - 1).toNat + 1 by omega, exN, show (k - 1).toNat + 1 = k.toNat by omega]; first | rw [if_pos (by omega), ha] | rw [if_neg (by omega), ha]) (by rw [show (k + 1 - 1).toNat = (k - 1).toNat + 1 by omega, exB, show (k - 1).toNat + 1 = k.toNat by omega, show ((k.toNat : Nat) : Int) = k by omega]; first | rw [if_neg (by omega), hb] | (rw [if_pos (by omega), hb]; first | rw [if_pos (by omega)] | rw [if_neg (by omega)])) (by rw [show (k + 1 - 1).toNat = (k - 1).toNat + 1 by omega, exG, show (k - 1).toNat + 1 = k.toNat by omega, show ((k.toNat : Nat) : Int) = k by omega]; first | rw [if_pos (by omega)] | rw [if_neg (by omega), hc])) (zs1 rfl (zs1 rfl (zs1 rfl (zs1 rfl (zs1 rfl (zs1 rfl (zs1 rfl (zs1 rfl zs0))))))))
              · refine c_iinc dX9_exceptions_72 rfl (by decide) rfl ?_
                refine z_iload dX9_exceptions_75 rfl ?_
                refine z_aload_n dX9_exceptions_77 rfl rfl ?_
                refine z_iload dX9_exceptions_78 rfl ?_
                refine z_callv (N := MX9_barredBy) (ci := 9) (nas := 1) (as := [_]) dX9_exceptions_80 w_1063 w_1060 w_1062 ws_38 w_8 (by decide +kernel) rfl rfl rfl (by decide) (Nat.le_of_ble_eq_true rfl) (by decide) (by decide) (ZC.mono (cMX9_barredBy (by omega) hR3 hps) ?_)
                rintro _ _ ⟨rfl, rfl⟩
                refine c_if_le (tgt := 90) dX9_exceptions_83 (by decide) (by omega) (fun h83 => ?_) (fun h83 => ?_)
                · refine c_iconst dX9_exceptions_90 ?_
                  refine c_iadd dX9_exceptions_91 ?_
                  refine z_istore dX9_exceptions_92 (by decide) rfl ?_
                  refine z_iload dX9_exceptions_94 rfl ?_
                  refine z_istore dX9_exceptions_96 (by decide) rfl ?_
                  refine c_iinc dX9_exceptions_98 rfl (by decide) rfl ?_
                  refine z_goto (tgt := 56) dX9_exceptions_101 (by decide) ?_
                  exact Z.fg2 (ih56 _ (by omega) _ _ _ _ rfl (by omega) (by rw [show (k + 1 - 1).toNat = (k - 1).toNat + 1 by omega, exN, show (k - 1).toNat + 1 = k.toNat by omega]; first | rw [if_pos (by omega), ha] | rw [if_neg (by omega), ha]) (by rw [show (k + 1 - 1).toNat = (k - 1).toNat + 1 by omega, exB, show (k - 1).toNat + 1 = k.toNat by omega, show ((k.toNat : Nat) : Int) = k by omega]; first | rw [if_neg (by omega), hb] | (rw [if_pos (by omega), hb]; first | rw [if_pos (by omega)] | rw [if_neg (by omega)])) (by rw [show (k + 1 - 1).toNat = (k - 1).toNat + 1 by omega, exG, show (k - 1).toNat + 1 = k.toNat by omega, show ((k.toNat : Nat) : Int) = k by omega]; first | rw [if_pos (by omega)] | rw [if_neg (by omega), hc])) (zs1 rfl (zs1 rfl (zs1 rfl (zs1 rfl (zs1 rfl (zs1 rfl (zs1 rfl (zs1 rfl zs0))))))))
                · refine c_iconst dX9_exceptions_86 ?_
                  refine z_goto (tgt := 91) dX9_exceptions_87 (by decide) ?_
                  refine c_iadd dX9_exceptions_91 ?_
                  refine z_istore dX9_exceptions_92 (by decide) rfl ?_
                  refine z_iload dX9_exceptions_94 rfl ?_
                  refine z_istore dX9_exceptions_96 (by decide) rfl ?_
                  refine c_iinc dX9_exceptions_98 rfl (by decide) rfl ?_
                  refine z_goto (tgt := 56) dX9_exceptions_101 (by decide) ?_
                  exact Z.fg2 (ih56 _ (by omega) _ _ _ _ rfl (by omega) (by rw [show (k + 1 - 1).toNat = (k - 1).toNat + 1 by omega, exN, show (k - 1).toNat + 1 = k.toNat by omega]; first | rw [if_pos (by omega), ha] | rw [if_neg (by omega), ha]) (by rw [show (k + 1 - 1).toNat = (k - 1).toNat + 1 by omega, exB, show (k - 1).toNat + 1 = k.toNat by omega, show ((k.toNat : Nat) : Int) = k by omega]; first | rw [if_neg (by omega), hb] | (rw [if_pos (by omega), hb]; first | rw [if_pos (by omega)] | rw [if_neg (by omega)])) (by rw [show (k + 1 - 1).toNat = (k - 1).toNat + 1 by omega, exG, show (k - 1).toNat + 1 = k.toNat by omega, show ((k.toNat : Nat) : Int) = k by omega]; first | rw [if_pos (by omega)] | rw [if_neg (by omega), hc])) (zs1 rfl (zs1 rfl (zs1 rfl (zs1 rfl (zs1 rfl (zs1 rfl (zs1 rfl (zs1 rfl zs0))))))))
        exact Z.fg2 (L56 _ _ _ _ _ rfl (by omega) rfl rfl rfl) (zs1 rfl (zs1 rfl (zs1 rfl (zs1 rfl (zs1 rfl (zs1 rfl (zs1 rfl (zs1 rfl zs0))))))))
      · have g26 := (hb26.resolve_left (fun z => by have := z.1; omega)).2
        clear hb26
        refine c_iconst dX9_exceptions_32 ?_
        refine c_ireturn dX9_exceptions_33 rfl ?_
        subst hQ0; refine ⟨_, _, rfl, ?_⟩; unfold aExceptions; rw [cif_neg (by omega)]; exact ⟨rfl, pq_refl _, pp_refl _⟩
end Ref15
