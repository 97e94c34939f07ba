section Ref13
variable {g : ZG} {l : Launch} {Kd : ZK} {Rd : ZR} {n s0 : Nat} {J P : Nat → Nat → Int}
set_option maxHeartbeats 4000000 in
set_option maxRecDepth 100000 in
theorem cMX9_truantOf {p : Int} (hp : 0 ≤ p ∧ p < 74) (h1 : 1 ≤ J 44 p.toNat) (hF : okF (J 44 p.toNat) (eE J p)) : ZC g l MX9_truantOf [.ref 42, .int (iZ p)] (KF Kd, zi J, zj P, RF Rd, n, s0) (fun rr hh => rr = some (.int (iZ (truF (J 44 p.toNat) (eE J p)))) ∧ ∃ J' P', hh = (KF Kd, zi J', zj P', RF Rd, n, s0) ∧ CN (J 44 p.toNat) (eE J p) J' ∧ offC J J' ∧ offP P P') := by
  refine ZC.of (by decide) (Nat.le_of_ble_eq_true rfl) ?_
  generalize hQ0 : (fun rr hh => rr = some (.int (iZ (truF (J 44 p.toNat) (eE J p)))) ∧ ∃ J' P', hh = (KF Kd, zi J', zj P', RF Rd, n, s0) ∧ CN (J 44 p.toNat) (eE J p) J' ∧ offC J J' ∧ offP P P' : Option Value → ZH → Prop) = Q0
  show Z g l MX9_truantOf 0 [some (.ref 42), some (.int (iZ p)), none, none] [] (KF Kd, zi J, zj P, RF Rd, n, s0) Q0
  refine z_aload_n dX9_truantOf_0 rfl rfl ?_
  refine z_iload_n dX9_truantOf_1 rfl rfl ?_
  have hp2 := hp
  have h12 := h1
  have hF2 := hF
  refine z_callv (N := MX9_layCounts) (ci := 9) (nas := 1) (as := [_]) dX9_truantOf_2 w_1023 w_1020 w_1022 ws_32 w_8 (by decide +kernel) rfl rfl rfl (by decide) (Nat.le_of_ble_eq_true rfl) (by decide) (by decide) (ZC.mono (cLay hp2 h12 hF2) ?_)
  rintro _ _ ⟨rfl, J2, P2, rfl, hC, hO, hPo⟩
  refine c_iconst dX9_truantOf_5 ?_
  refine z_istore_n dX9_truantOf_6 rfl (by decide) rfl ?_
  refine c_bipush dX9_truantOf_7 (by decide) ?_
  refine z_istore_n dX9_truantOf_9 rfl (by decide) rfl ?_
  have L10 : ∀ (m10 : Nat), ∀ (m t : Int), (m).toNat = m10 → (0 ≤ m ∧ m ≤ 100) → (lackD (cF (J 44 p.toNat) (eE J p)) (100 - m).toNat = t) → Z g l MX9_truantOf 10 [some (.ref 42), some (.int (iZ p)), some (.int (iZ t)), some (.int (iZ m))] [] (KF Kd, zi J2, zj P2, RF Rd, n, s0) Q0 := by
    intro m10
    induction m10 using Nat.strongRecOn with
    | ind m10 ih10 =>
      intro m t hm10 hm ht
      refine z_iload_n dX9_truantOf_10 rfl rfl ?_
      refine c_if_le (tgt := 35) dX9_truantOf_11 (by decide) (by omega) (fun h11 => ?_) (fun h11 => ?_)
      · refine z_iload_n dX9_truantOf_35 rfl rfl ?_
        refine c_ireturn dX9_truantOf_36 rfl ?_
        subst hQ0; refine ⟨?_, J2, P2, rfl, hC, hO, hPo⟩; unfold truF; rw [← ht, show (100 - m).toNat = 100 by omega]
      · have hcv := hC m.toNat (by omega)
        refine z_aload_n dX9_truantOf_14 rfl rfl ?_
        refine z_getR (ci := 9) (kf := 14) dX9_truantOf_15 rfl (by decide) (by decide) rfl w_790 rfl ?_
        refine z_iload_n dX9_truantOf_18 rfl rfl ?_
        refine c_iald dX9_truantOf_19 rfl (by omega) (by decide) ?_
        refine c_if_ne (tgt := 27) dX9_truantOf_20 (by decide) (by omega) (fun h20 => ?_) (fun h20 => ?_)
        · refine z_iload_n dX9_truantOf_27 rfl rfl ?_
          refine z_istore_n dX9_truantOf_28 rfl (by decide) rfl ?_
          refine c_iinc dX9_truantOf_29 rfl (by decide) rfl ?_
          refine z_goto (tgt := 10) dX9_truantOf_32 (by decide) ?_
          exact Z.fg2 (ih10 _ (by omega) _ _ rfl (by omega) (by rw [show (100 - (m + -1)).toNat = (100 - m).toNat + 1 by omega, lackD, show 100 - (100 - m).toNat = m.toNat by omega, ← hcv.1]; first | (rw [if_pos (by omega)]; omega) | (rw [if_neg (by omega)]; exact ht))) (zs1 rfl (zs1 rfl (zs1 rfl (zs1 rfl zs0))))
        · refine z_iload_n dX9_truantOf_23 rfl rfl ?_
          refine z_goto (tgt := 28) dX9_truantOf_24 (by decide) ?_
          refine z_istore_n dX9_truantOf_28 rfl (by decide) rfl ?_
          refine c_iinc dX9_truantOf_29 rfl (by decide) rfl ?_
          refine z_goto (tgt := 10) dX9_truantOf_32 (by decide) ?_
          exact Z.fg2 (ih10 _ (by omega) _ _ rfl (by omega) (by rw [show (100 - (m + -1)).toNat = (100 - m).toNat + 1 by omega, lackD, show 100 - (100 - m).toNat = m.toNat by omega, ← hcv.1]; first | (rw [if_pos (by omega)]; omega) | (rw [if_neg (by omega)]; exact ht))) (zs1 rfl (zs1 rfl (zs1 rfl (zs1 rfl zs0))))
  exact Z.fg2 (L10 _ _ _ rfl (by omega) rfl) (zs1 rfl (zs1 rfl (zs1 rfl (zs1 rfl zs0))))
set_option maxHeartbeats 4000000 in
set_option maxRecDepth 100000 in
theorem cMX9_truant {s : Int} (hs : rI s) (hL : okJ J) : ZC g l MX9_truant [.ref 42, .int (iZ s)] (KF Kd, zi J, zj P, RF Rd, n, s0) (fun rr hh => ∃ J' P', hh = (KF Kd, zi J', zj P', RF Rd, n, s0) ∧ rr = some (.int (iZ (aTruant J s))) ∧ pq J J' ∧ pp P P') := by
  refine ZC.of (by decide) (Nat.le_of_ble_eq_true rfl) ?_
  generalize hQ0 : (fun rr hh => ∃ J' P', hh = (KF Kd, zi J', zj P', RF Rd, n, s0) ∧ rr = some (.int (iZ (aTruant J s))) ∧ pq J J' ∧ pp P P' : Option Value → ZH → Prop) = Q0
  show Z g l MX9_truant 0 [some (.ref 42), some (.int (iZ s)), none] [] (KF Kd, zi J, zj P, RF Rd, n, s0) Q0
  refine z_aload_n dX9_truant_0 rfl rfl ?_
  refine z_iload_n dX9_truant_1 rfl rfl ?_
  refine z_callv (N := MX9_hasForm) (ci := 9) (nas := 1) (as := [_]) dX9_truant_2 w_948 w_945 w_947 ws_28 w_8 (by decide +kernel) rfl rfl rfl (by decide) (Nat.le_of_ble_eq_true rfl) (by decide) (by decide) (ZC.mono (b_hasForm (by omega) hL) ?_)
  rintro _ _ ⟨b2, rfl, rfl, hb2⟩
  refine c_if_ne (tgt := 10) dX9_truant_5 (by decide) (by omega) (fun h5 => ?_) (fun h5 => ?_)
  · have g2 := (hb2.resolve_right (fun z => by have := z.1; omega)).2
    clear hb2
    have hp12 : 0 ≤ s ∧ s < 74 := by omega
    have h112 : 1 ≤ J 44 s.toNat := by omega
    have hF12 := okJ_form hL (s := s) (by omega) (by omega)
    have hb := truF_bd (J 44 s.toNat) (eE J s)
    refine z_aload_n dX9_truant_10 rfl rfl ?_
    refine z_iload_n dX9_truant_11 rfl rfl ?_
    refine z_callv (N := MX9_truantOf) (ci := 9) (nas := 1) (as := [_]) dX9_truant_12 w_1047 w_1044 w_1046 ws_35 w_8 (by decide +kernel) rfl rfl rfl (by decide) (Nat.le_of_ble_eq_true rfl) (by decide) (by decide) (ZC.mono (cMX9_truantOf hp12 h112 hF12) ?_)
    rintro _ _ ⟨rfl, J2, P2, rfl, hC, hO, hPo⟩
    refine z_istore_n dX9_truant_15 rfl (by decide) rfl ?_
    refine z_iload_n dX9_truant_16 rfl rfl ?_
    refine c_if_ne (tgt := 25) dX9_truant_17 (by decide) (by omega) (fun h17 => ?_) (fun h17 => ?_)
    · refine z_iload_n dX9_truant_25 rfl rfl ?_
      refine c_ireturn dX9_truant_26 rfl ?_
      subst hQ0; refine ⟨_, _, rfl, ?_⟩; unfold aTruant; rw [cif_pos (by omega)]; first | (rw [if_pos (by omega)]; exact ⟨rfl, pq_offC hO, pp_offP hPo⟩) | (rw [if_neg (by omega)]; exact ⟨rfl, pq_offC hO, pp_offP hPo⟩)
    · refine c_bipush dX9_truant_20 (by decide) ?_
      refine z_goto (tgt := 26) dX9_truant_22 (by decide) ?_
      refine c_ireturn dX9_truant_26 rfl ?_
      subst hQ0; refine ⟨_, _, rfl, ?_⟩; unfold aTruant; rw [cif_pos (by omega)]; first | (rw [if_pos (by omega)]; exact ⟨rfl, pq_offC hO, pp_offP hPo⟩) | (rw [if_neg (by omega)]; exact ⟨rfl, pq_offC hO, pp_offP hPo⟩)
  · have g2 := (hb2.resolve_left (fun z => by have := z.1; omega)).2
    clear hb2
    refine c_iconst dX9_truant_8 ?_
    refine c_ireturn dX9_truant_9 rfl ?_
    subst hQ0; refine ⟨_, _, rfl, ?_⟩; unfold aTruant; rw [cif_neg (by omega)]; exact ⟨rfl, pq_refl _, pp_refl _⟩
set_option maxHeartbeats 4000000 in
set_option maxRecDepth 100000 in
theorem cMX9_takes {s m : Int} (hs : rI s) (hm : rI m) (hL : okJ J) : ZC g l MX9_takes [.ref 42, .int (iZ s), .int (iZ m)] (KF Kd, zi J, zj P, RF Rd, n, s0) (fun rr hh => ∃ J' P', hh = (KF Kd, zi J', zj P', RF Rd, n, s0) ∧ rr = some (.int (iZ (aTakes J s m))) ∧ pq J J' ∧ pp P P') := by
  refine ZC.of (by decide) (Nat.le_of_ble_eq_true rfl) ?_
  generalize hQ0 : (fun rr hh => ∃ J' P', hh = (KF Kd, zi J', zj P', RF Rd, n, s0) ∧ rr = some (.int (iZ (aTakes J s m))) ∧ pq J J' ∧ pp P P' : Option Value → ZH → Prop) = Q0
  show Z g l MX9_takes 0 [some (.ref 42), some (.int (iZ s)), some (.int (iZ m))] [] (KF Kd, zi J, zj P, RF Rd, n, s0) Q0
  refine z_aload_n dX9_takes_0 rfl rfl ?_
  refine z_iload_n dX9_takes_1 rfl rfl ?_
  refine z_callv (N := MX9_hasForm) (ci := 9) (nas := 1) (as := [_]) dX9_takes_2 w_948 w_945 w_947 ws_28 w_8 (by decide +kernel) rfl rfl rfl (by decide) (Nat.le_of_ble_eq_true rfl) (by decide) (by decide) (ZC.mono (b_hasForm (by omega) hL) ?_)
  rintro _ _ ⟨b2, rfl, rfl, hb2⟩
  refine c_if_eq (tgt := 20) dX9_takes_5 (by decide) (by omega) (fun h5 => ?_) (fun h5 => ?_)
  · have g2 := (hb2.resolve_left (fun z => by have := z.1; omega)).2
    clear hb2
    refine c_iconst dX9_takes_20 ?_
    refine c_ireturn dX9_takes_21 rfl ?_
    subst hQ0; refine ⟨_, _, rfl, ?_⟩; unfold aTakes; rw [cif_neg (by omega)]; exact ⟨rfl, pq_refl _, pp_refl _⟩
  · have g2 := (hb2.resolve_right (fun z => by have := z.1; omega)).2
    clear hb2
    refine z_iload_n dX9_takes_8 rfl rfl ?_
    refine c_i2l dX9_takes_9 (by omega) ?_
    refine c_lconst0 dX9_takes_10 ?_
    refine c_ldc2 (z := 100) dX9_takes_11 w_930 (by decide) ?_
    refine z_calls (N := MX9_in) (nas := 3) (as := [_, _, _]) dX9_takes_14 w_889 w_887 w_888 w_8 (by decide +kernel) rfl rfl (Nat.le_of_ble_eq_true rfl) (by decide) (by decide) (ZC.mono (b_in (by omega) (by omega) (by omega)) ?_)
    rintro _ _ ⟨b14, rfl, rfl, hb14⟩
    refine c_if_ne (tgt := 22) dX9_takes_17 (by decide) (by omega) (fun h17 => ?_) (fun h17 => ?_)
    · have g14 := (hb14.resolve_right (fun z => by have := z.1; omega)).2
      clear hb14
      have hp24 : 0 ≤ s ∧ s < 74 := by omega
      have h124 : 1 ≤ J 44 s.toNat := by omega
      have hF24 := okJ_form hL (s := s) (by omega) (by omega)
      refine z_aload_n dX9_takes_22 rfl rfl ?_
      refine z_iload_n dX9_takes_23 rfl rfl ?_
      refine z_callv (N := MX9_layCounts) (ci := 9) (nas := 1) (as := [_]) dX9_takes_24 w_1023 w_1020 w_1022 ws_32 w_8 (by decide +kernel) rfl rfl rfl (by decide) (Nat.le_of_ble_eq_true rfl) (by decide) (by decide) (ZC.mono (cLay hp24 h124 hF24) ?_)
      rintro _ _ ⟨rfl, J2, P2, rfl, hC, hO, hPo⟩
      refine z_aload_n dX9_takes_27 rfl rfl ?_
      refine z_getR (ci := 9) (kf := 14) dX9_takes_28 rfl (by decide) (by decide) rfl w_790 rfl ?_
      refine z_iload_n dX9_takes_31 rfl rfl ?_
      refine c_iald dX9_takes_32 rfl (by omega) (by decide) ?_
      rw [(hC m.toNat (by omega)).1]
      refine c_ireturn dX9_takes_33 rfl ?_
      subst hQ0; refine ⟨_, _, rfl, ?_⟩; unfold aTakes; rw [cif_pos (by omega)]; exact ⟨rfl, pq_offC hO, pp_offP hPo⟩
    · have g14 := (hb14.resolve_left (fun z => by have := z.1; omega)).2
      clear hb14
      refine c_iconst dX9_takes_20 ?_
      refine c_ireturn dX9_takes_21 rfl ?_
      subst hQ0; refine ⟨_, _, rfl, ?_⟩; unfold aTakes; rw [cif_neg (by omega)]; exact ⟨rfl, pq_refl _, pp_refl _⟩
set_option maxHeartbeats 4000000 in
set_option maxRecDepth 100000 in
theorem cMX9_vector {s m j : Int} (hs : rI s) (hm : rI m) (hj : rI j) (hL : okJ J) : ZC g l MX9_vector [.ref 42, .int (iZ s), .int (iZ m), .int (iZ j)] (KF Kd, zi J, zj P, RF Rd, n, s0) (fun rr hh => ∃ J' P', hh = (KF Kd, zi J', zj P', RF Rd, n, s0) ∧ rr = some (.int (iZ (aVector J s m j))) ∧ pq J J' ∧ pp P P') := by
  refine ZC.of (by decide) (Nat.le_of_ble_eq_true rfl) ?_
  generalize hQ0 : (fun rr hh => ∃ J' P', hh = (KF Kd, zi J', zj P', RF Rd, n, s0) ∧ rr = some (.int (iZ (aVector J s m j))) ∧ pq J J' ∧ pp P P' : Option Value → ZH → Prop) = Q0
  show Z g l MX9_vector 0 [some (.ref 42), some (.int (iZ s)), some (.int (iZ m)), some (.int (iZ j))] [] (KF Kd, zi J, zj P, RF Rd, n, s0) Q0
  refine z_aload_n dX9_vector_0 rfl rfl ?_
  refine z_iload_n dX9_vector_1 rfl rfl ?_
  refine z_callv (N := MX9_hasForm) (ci := 9) (nas := 1) (as := [_]) dX9_vector_2 w_948 w_945 w_947 ws_28 w_8 (by decide +kernel) rfl rfl rfl (by decide) (Nat.le_of_ble_eq_true rfl) (by decide) (by decide) (ZC.mono (b_hasForm (by omega) hL) ?_)
  rintro _ _ ⟨b2, rfl, rfl, hb2⟩
  refine c_if_eq (tgt := 29) dX9_vector_5 (by decide) (by omega) (fun h5 => ?_) (fun h5 => ?_)
  · have g2 := (hb2.resolve_left (fun z => by have := z.1; omega)).2
    clear hb2
    refine c_ldc (z := -2147483648) dX9_vector_29 w_965 (by decide) ?_
    refine c_ireturn dX9_vector_31 rfl ?_
    subst hQ0; refine ⟨_, _, rfl, ?_⟩; unfold aVector; rw [cif_neg (by omega)]; exact ⟨rfl, pq_refl _, pp_refl _⟩
  · have g2 := (hb2.resolve_right (fun z => by have := z.1; omega)).2
    clear hb2
    have hl4 := okJ_let hL (q := s.toNat) (by omega)
    refine z_iload_n dX9_vector_8 rfl rfl ?_
    refine c_i2l dX9_vector_9 (by omega) ?_
    refine c_lconst0 dX9_vector_10 ?_
    refine c_ldc2 (z := 100) dX9_vector_11 w_930 (by decide) ?_
    refine z_calls (N := MX9_in) (nas := 3) (as := [_, _, _]) dX9_vector_14 w_889 w_887 w_888 w_8 (by decide +kernel) rfl rfl (Nat.le_of_ble_eq_true rfl) (by decide) (by decide) (ZC.mono (b_in (by omega) (by omega) (by omega)) ?_)
    rintro _ _ ⟨b14, rfl, rfl, hb14⟩
    refine c_if_eq (tgt := 29) dX9_vector_17 (by decide) (by omega) (fun h17 => ?_) (fun h17 => ?_)
    · have g14 := (hb14.resolve_left (fun z => by have := z.1; omega)).2
      clear hb14
      refine c_ldc (z := -2147483648) dX9_vector_29 w_965 (by decide) ?_
      refine c_ireturn dX9_vector_31 rfl ?_
      subst hQ0; refine ⟨_, _, rfl, ?_⟩; unfold aVector; rw [cif_neg (by omega)]; exact ⟨rfl, pq_refl _, pp_refl _⟩
    · have g14 := (hb14.resolve_right (fun z => by have := z.1; omega)).2
      clear hb14
      refine z_aload_n dX9_vector_20 rfl rfl ?_
      refine z_iload_n dX9_vector_21 rfl rfl ?_
      refine z_iload_n dX9_vector_22 rfl rfl ?_
      refine z_callv (N := MX9_isLetter) (ci := 9) (nas := 2) (as := [_, _]) dX9_vector_23 w_960 w_957 w_959 ws_29 w_8 (by decide +kernel) rfl rfl rfl (by decide) (Nat.le_of_ble_eq_true rfl) (by decide) (by decide) (ZC.mono (b_isLetter (by omega) (by omega) hL) ?_)
      rintro _ _ ⟨b23, rfl, rfl, hb23⟩
      refine c_if_ne (tgt := 32) dX9_vector_26 (by decide) (by omega) (fun h26 => ?_) (fun h26 => ?_)
      · have g23 := (hb23.resolve_right (fun z => by have := z.1; omega)).2
        clear hb23
        have hp34 : 0 ≤ s ∧ s < 74 := by omega
        have h134 : 1 ≤ J 44 s.toNat := by omega
        have hF34 := okJ_form hL (s := s) (by omega) (by omega)
        refine z_aload_n dX9_vector_32 rfl rfl ?_
        refine z_iload_n dX9_vector_33 rfl rfl ?_
        refine z_callv (N := MX9_layCounts) (ci := 9) (nas := 1) (as := [_]) dX9_vector_34 w_1023 w_1020 w_1022 ws_32 w_8 (by decide +kernel) rfl rfl rfl (by decide) (Nat.le_of_ble_eq_true rfl) (by decide) (by decide) (ZC.mono (cLay hp34 h134 hF34) ?_)
        rintro _ _ ⟨rfl, J2, P2, rfl, hC, hO, hPo⟩
        refine z_aload_n dX9_vector_37 rfl rfl ?_
        refine z_getR (ci := 9) (kf := 14) dX9_vector_38 rfl (by decide) (by decide) rfl w_790 rfl ?_
        refine z_iload_n dX9_vector_41 rfl rfl ?_
        refine c_iald dX9_vector_42 rfl (by omega) (by decide) ?_
        have hcv := hC m.toNat (by omega)
        refine c_if_ne (tgt := 51) dX9_vector_43 (by decide) (by omega) (fun h43 => ?_) (fun h43 => ?_)
        · refine z_aload_n dX9_vector_51 rfl rfl ?_
          refine z_getR (ci := 9) (kf := 16) dX9_vector_52 rfl (by decide) (by decide) rfl w_792 rfl ?_
          refine c_iconst dX9_vector_55 ?_
          refine z_iload_n dX9_vector_56 rfl rfl ?_
          refine c_imul dX9_vector_57 ?_
          refine z_iload_n dX9_vector_58 rfl rfl ?_
          refine c_iadd dX9_vector_59 ?_
          refine c_iald dX9_vector_60 rfl (by omega) (by decide) ?_
          refine c_ireturn dX9_vector_61 rfl ?_
          subst hQ0; refine ⟨_, _, rfl, ?_⟩; unfold aVector; rw [cif_pos (by omega)]
          first
          | (rw [if_pos (by omega)]; exact ⟨rfl, pq_offC hO, pp_offP hPo⟩)
          | (rw [if_neg (by omega)]; refine ⟨?_, pq_offC hO, pp_offP hPo⟩; have hq := hcv.2.2.2 (by omega); unfold vAt; rcases (show j = 0 ∨ j = 1 ∨ j = 2 ∨ j = 3 by omega) with e | e | e | e <;> subst e <;> simp only [Int.reduceEq, if_true, if_false]
             · rw [show (4 * m + 0).toNat = 4 * m.toNat by omega, hq.1]
             · rw [show (4 * m + 1).toNat = 4 * m.toNat + 1 by omega, hq.2.1]
             · rw [show (4 * m + 2).toNat = 4 * m.toNat + 2 by omega, hq.2.2.1]
             · rw [show (4 * m + 3).toNat = 4 * m.toNat + 3 by omega, hq.2.2.2])
        · refine c_ldc (z := -2147483648) dX9_vector_46 w_965 (by decide) ?_
          refine z_goto (tgt := 61) dX9_vector_48 (by decide) ?_
          refine c_ireturn dX9_vector_61 rfl ?_
          subst hQ0; refine ⟨_, _, rfl, ?_⟩; unfold aVector; rw [cif_pos (by omega)]
          first
          | (rw [if_pos (by omega)]; exact ⟨rfl, pq_offC hO, pp_offP hPo⟩)
          | (rw [if_neg (by omega)]; refine ⟨?_, pq_offC hO, pp_offP hPo⟩; have hq := hcv.2.2.2 (by omega); unfold vAt; rcases (show j = 0 ∨ j = 1 ∨ j = 2 ∨ j = 3 by omega) with e | e | e | e <;> subst e <;> simp only [Int.reduceEq, if_true, if_false]
             · rw [show (4 * m + 0).toNat = 4 * m.toNat by omega, hq.1]
             · rw [show (4 * m + 1).toNat = 4 * m.toNat + 1 by omega, hq.2.1]
             · rw [show (4 * m + 2).toNat = 4 * m.toNat + 2 by omega, hq.2.2.1]
             · rw [show (4 * m + 3).toNat = 4 * m.toNat + 3 by omega, hq.2.2.2])
      · have g23 := (hb23.resolve_left (fun z => by have := z.1; omega)).2
        clear hb23
        refine c_ldc (z := -2147483648) dX9_vector_29 w_965 (by decide) ?_
        refine c_ireturn dX9_vector_31 rfl ?_
        subst hQ0; refine ⟨_, _, rfl, ?_⟩; unfold aVector; rw [cif_neg (by omega)]; exact ⟨rfl, pq_refl _, pp_refl _⟩
set_option maxHeartbeats 4000000 in
set_option maxRecDepth 100000 in
theorem cMX9_unlike {s t : Int} (hs : rI s) (ht : rI t) (hL : okJ J) : ZC g l MX9_unlike [.ref 42, .int (iZ s), .int (iZ t)] (KF Kd, zi J, zj P, RF Rd, n, s0) (fun rr hh => ∃ J' P', hh = (KF Kd, zi J', zj P', RF Rd, n, s0) ∧ rr = some (.int (iZ (aUnlike J s t))) ∧ pq J J' ∧ pp P P') := by
  refine ZC.of (by decide) (Nat.le_of_ble_eq_true rfl) ?_
  generalize hQ0 : (fun rr hh => ∃ J' P', hh = (KF Kd, zi J', zj P', RF Rd, n, s0) ∧ rr = some (.int (iZ (aUnlike J s t))) ∧ pq J J' ∧ pp P P' : Option Value → ZH → Prop) = Q0
  show Z g l MX9_unlike 0 [some (.ref 42), some (.int (iZ s)), some (.int (iZ t)), none] [] (KF Kd, zi J, zj P, RF Rd, n, s0) Q0
  refine z_aload_n dX9_unlike_0 rfl rfl ?_
  refine z_iload_n dX9_unlike_1 rfl rfl ?_
  refine z_callv (N := MX9_hasForm) (ci := 9) (nas := 1) (as := [_]) dX9_unlike_2 w_948 w_945 w_947 ws_28 w_8 (by decide +kernel) rfl rfl rfl (by decide) (Nat.le_of_ble_eq_true rfl) (by decide) (by decide) (ZC.mono (b_hasForm (by omega) hL) ?_)
  rintro _ _ ⟨b2, rfl, rfl, hb2⟩
  refine c_if_eq (tgt := 16) dX9_unlike_5 (by decide) (by omega) (fun h5 => ?_) (fun h5 => ?_)
  · have g2 := (hb2.resolve_left (fun z => by have := z.1; omega)).2
    clear hb2
    refine c_iconst dX9_unlike_16 ?_
    refine c_ireturn dX9_unlike_17 rfl ?_
    subst hQ0; refine ⟨_, _, rfl, ?_⟩; unfold aUnlike; rw [cif_neg (by omega)]; exact ⟨rfl, pq_refl _, pp_refl _⟩
  · have g2 := (hb2.resolve_right (fun z => by have := z.1; omega)).2
    clear hb2
    have hl4 := okJ_let hL (q := s.toNat) (by omega)
    refine z_aload_n dX9_unlike_8 rfl rfl ?_
    refine z_iload_n dX9_unlike_9 rfl rfl ?_
    refine z_callv (N := MX9_hasForm) (ci := 9) (nas := 1) (as := [_]) dX9_unlike_10 w_948 w_945 w_947 ws_28 w_8 (by decide +kernel) rfl rfl rfl (by decide) (Nat.le_of_ble_eq_true rfl) (by decide) (by decide) (ZC.mono (b_hasForm (by omega) hL) ?_)
    rintro _ _ ⟨b10, rfl, rfl, hb10⟩
    refine c_if_ne (tgt := 18) dX9_unlike_13 (by decide) (by omega) (fun h13 => ?_) (fun h13 => ?_)
    · have g10 := (hb10.resolve_right (fun z => by have := z.1; omega)).2
      clear hb10
      have hp20 : 0 ≤ s ∧ s < 74 := by omega
      have h120 : 1 ≤ J 44 s.toNat := by omega
      have hF20 := okJ_form hL (s := s) (by omega) (by omega)
      refine z_aload_n dX9_unlike_18 rfl rfl ?_
      refine z_iload_n dX9_unlike_19 rfl rfl ?_
      refine z_callv (N := MX9_layCounts) (ci := 9) (nas := 1) (as := [_]) dX9_unlike_20 w_1023 w_1020 w_1022 ws_32 w_8 (by decide +kernel) rfl rfl rfl (by decide) (Nat.le_of_ble_eq_true rfl) (by decide) (by decide) (ZC.mono (cLay hp20 h120 hF20) ?_)
      rintro _ _ ⟨rfl, J2, P2, rfl, hC, hO, hPo⟩
      refine c_iconst dX9_unlike_23 ?_
      refine z_istore_n dX9_unlike_24 rfl (by decide) rfl ?_
      have L25 : ∀ (m25 : Nat), ∀ (k : Int) (J1 : Nat → Nat → Int), (101 - k).toNat = m25 → (0 ≤ k ∧ k ≤ 101) → (J1 = (fun a q => if a = 53 ∧ q < k.toNat then J2 52 q else J2 a q)) → Z g l MX9_unlike 25 [some (.ref 42), some (.int (iZ s)), some (.int (iZ t)), some (.int (iZ k))] [] (KF Kd, zi J1, zj P2, RF Rd, n, s0) Q0 := by
        intro m25
        induction m25 using Nat.strongRecOn with
        | ind m25 ih25 =>
          intro k J1 hm25 hk hJ
          refine z_iload_n dX9_unlike_25 rfl rfl ?_
          refine c_bipush dX9_unlike_26 (by decide) ?_
          refine c_icmp_ge (tgt := 49) dX9_unlike_28 (by decide) (by omega) (by omega) (fun h28 => ?_) (fun h28 => ?_)
          · have e44 : J1 44 = J 44 := by subst hJ; funext q; dsimp only; rw [if_neg (by omega), hO.1 44 (by decide) (by decide) (by decide)]
            have eE1 : eE J1 t = eE J t := by unfold eE; subst hJ; funext q; dsimp only; rw [if_neg (by omega), hO.1 43 (by decide) (by decide) (by decide)]
            have hp51 : 0 ≤ t ∧ t < 74 := by omega
            have h151 : 1 ≤ J1 44 t.toNat := by rw [e44]; omega
            have hF51 : okF (J1 44 t.toNat) (eE J1 t) := by rw [e44, eE1]; exact okJ_form hL (s := t) (by omega) (by omega)
            have h53 : ∀ v : Nat, v ≤ 100 → J1 53 v = J2 52 v := by intro v hv; subst hJ; dsimp only; rw [if_pos (by omega)]
            have hO1 : pq J J1 := pq_trans (pq_offC hO) (by subst hJ; exact pq_off (fun a ha => by funext q; rw [if_neg (by intro h; rcases ha with h1 | h1 | h1 | h1; (exact absurd h1 (by rw [h.1]; decide)); all_goals omega)]))
            clear hJ
            refine z_aload_n dX9_unlike_49 rfl rfl ?_
            refine z_iload_n dX9_unlike_50 rfl rfl ?_
            refine z_callv (N := MX9_layCounts) (ci := 9) (nas := 1) (as := [_]) dX9_unlike_51 w_1023 w_1020 w_1022 ws_32 w_8 (by decide +kernel) rfl rfl rfl (by decide) (Nat.le_of_ble_eq_true rfl) (by decide) (by decide) (ZC.mono (cLay hp51 h151 hF51) ?_)
            rintro _ _ ⟨rfl, J3, P3, rfl, hC3, hO3, hPo3⟩
            rw [e44, eE1] at hC3
            refine c_iconst dX9_unlike_54 ?_
            refine z_istore_n dX9_unlike_55 rfl (by decide) rfl ?_
            have L56 : ∀ (m56 : Nat), ∀ (m : Int), (101 - m).toNat = m56 → (0 ≤ m ∧ m ≤ 101) → (diffD (cF (J 44 s.toNat) (eE J s)) (cF (J 44 t.toNat) (eE J t)) 101 = diffD (cF (J 44 s.toNat) (eE J s)) (cF (J 44 t.toNat) (eE J t)) (101 - m).toNat) → Z g l MX9_unlike 56 [some (.ref 42), some (.int (iZ s)), some (.int (iZ t)), some (.int (iZ m))] [] (KF Kd, zi J3, zj P3, RF Rd, n, s0) Q0 := by
              intro m56
              induction m56 using Nat.strongRecOn with
              | ind m56 ih56 =>
                intro m hm56 hm hd
                refine z_iload_n dX9_unlike_56 rfl rfl ?_
                refine c_bipush dX9_unlike_57 (by decide) ?_
                refine c_icmp_ge (tgt := 85) dX9_unlike_59 (by decide) (by omega) (by omega) (fun h59 => ?_) (fun h59 => ?_)
                · refine c_bipush dX9_unlike_85 (by decide) ?_
                  refine c_ireturn dX9_unlike_87 rfl ?_
                  subst hQ0; refine ⟨_, _, rfl, ?_, pq_trans hO1 (pq_offC hO3), pp_trans (pp_offP hPo) (pp_offP hPo3)⟩; unfold aUnlike; rw [cif_pos (by omega), hd, show (101 - m).toNat = 0 by omega, diffD]
                · have hcv := hC3 m.toNat (by omega)
                  have hcw := hC m.toNat (by omega)
                  have h63 : J3 53 m.toNat = J2 52 m.toNat := by rw [hO3.1 53 (by decide) (by decide) (by decide)]; exact h53 _ (by omega)
                  refine z_aload_n dX9_unlike_62 rfl rfl ?_
                  refine z_getR (ci := 9) (kf := 14) dX9_unlike_63 rfl (by decide) (by decide) rfl w_790 rfl ?_
                  refine z_iload_n dX9_unlike_66 rfl rfl ?_
                  refine c_iald dX9_unlike_67 rfl (by omega) (by decide) ?_
                  refine z_aload_n dX9_unlike_68 rfl rfl ?_
                  refine z_getR (ci := 9) (kf := 15) dX9_unlike_69 rfl (by decide) (by decide) rfl w_791 rfl ?_
                  refine z_iload_n dX9_unlike_72 rfl rfl ?_
                  refine c_iald dX9_unlike_73 rfl (by omega) (by decide) ?_
                  refine c_icmp_eq (tgt := 79) dX9_unlike_74 (by decide) (by omega) (by omega) (fun h74 => ?_) (fun h74 => ?_)
                  · refine c_iinc dX9_unlike_79 rfl (by decide) rfl ?_
                    refine z_goto (tgt := 56) dX9_unlike_82 (by decide) ?_
                    exact Z.fg2 (ih56 _ (by omega) _ rfl (by omega) (by rw [hd, show (101 - m).toNat = (101 - (m + 1)).toNat + 1 by omega, diffD, show 100 - (101 - (m + 1)).toNat = m.toNat by omega, if_pos (by omega)])) (zs1 rfl (zs1 rfl (zs1 rfl (zs1 rfl zs0))))
                  · refine z_iload_n dX9_unlike_77 rfl rfl ?_
                    refine c_ireturn dX9_unlike_78 rfl ?_
                    subst hQ0; refine ⟨_, _, rfl, ?_, pq_trans hO1 (pq_offC hO3), pp_trans (pp_offP hPo) (pp_offP hPo3)⟩; unfold aUnlike; rw [cif_pos (by omega), hd, show (101 - m).toNat = (101 - (m + 1)).toNat + 1 by omega, diffD, show 100 - (101 - (m + 1)).toNat = m.toNat by omega, if_neg (by omega), show ((m.toNat : Nat) : Int) = m by omega]
            exact Z.fg2 (L56 _ _ rfl (by omega) rfl) (zs1 rfl (zs1 rfl (zs1 rfl (zs1 rfl zs0))))
          · refine z_aload_n dX9_unlike_31 rfl rfl ?_
            refine z_getR (ci := 9) (kf := 15) dX9_unlike_32 rfl (by decide) (by decide) rfl w_791 rfl ?_
            refine z_iload_n dX9_unlike_35 rfl rfl ?_
            refine z_aload_n dX9_unlike_36 rfl rfl ?_
            refine z_getR (ci := 9) (kf := 14) dX9_unlike_37 rfl (by decide) (by decide) rfl w_790 rfl ?_
            refine z_iload_n dX9_unlike_40 rfl rfl ?_
            refine c_iald dX9_unlike_41 rfl (by omega) (by decide) ?_
            refine c_iast dX9_unlike_42 rfl (by omega) (by decide) ?_
            refine c_iinc dX9_unlike_43 rfl (by decide) rfl ?_
            refine z_goto (tgt := 25) dX9_unlike_46 (by decide) ?_
            exact Z.fg2 (ih25 _ (by omega) _ _ rfl (by omega) (by clear ih25 hQ0 hC hO hPo hL; subst hJ; funext a q; simp only [zup]; grind)) (zs1 rfl (zs1 rfl (zs1 rfl (zs1 rfl zs0))))
      exact Z.fg2 (L25 _ _ _ rfl (by omega) (by funext a q; rw [if_neg (by omega)])) (zs1 rfl (zs1 rfl (zs1 rfl (zs1 rfl zs0))))
    · have g10 := (hb10.resolve_left (fun z => by have := z.1; omega)).2
      clear hb10
      refine c_iconst dX9_unlike_16 ?_
      refine c_ireturn dX9_unlike_17 rfl ?_
      subst hQ0; refine ⟨_, _, rfl, ?_⟩; unfold aUnlike; rw [cif_neg (by omega)]; exact ⟨rfl, pq_refl _, pp_refl _⟩
set_option maxHeartbeats 4000000 in
set_option maxRecDepth 100000 in
theorem cMX9_exception {s i : Int} (hs : rI s) (hi : rI i) (hL : okJ J) : ZC g l MX9_exception [.ref 42, .int (iZ s), .int (iZ i)] (KF Kd, zi J, zj P, RF Rd, n, s0) (fun rr hh => ∃ J' P', hh = (KF Kd, zi J', zj P', RF Rd, n, s0) ∧ rr = some (.int (iZ (aException J s i))) ∧ pq J J' ∧ pp P P') := by
  refine ZC.of (by decide) (Nat.le_of_ble_eq_true rfl) ?_
  generalize hQ0 : (fun rr hh => ∃ J' P', hh = (KF Kd, zi J', zj P', RF Rd, n, s0) ∧ rr = some (.int (iZ (aException J s i))) ∧ pq J J' ∧ pp P P' : Option Value → ZH → Prop) = Q0
  show Z g l MX9_exception 0 [some (.ref 42), some (.int (iZ s)), some (.int (iZ i)), none, none] [] (KF Kd, zi J, zj P, RF Rd, n, s0) Q0
  refine z_aload_n dX9_exception_0 rfl rfl ?_
  refine z_iload_n dX9_exception_1 rfl rfl ?_
  refine z_callv (N := MX9_hasForm) (ci := 9) (nas := 1) (as := [_]) dX9_exception_2 w_948 w_945 w_947 ws_28 w_8 (by decide +kernel) rfl rfl rfl (by decide) (Nat.le_of_ble_eq_true rfl) (by decide) (by decide) (ZC.mono (b_hasForm (by omega) hL) ?_)
  rintro _ _ ⟨b2, rfl, rfl, hb2⟩
  refine c_if_ne (tgt := 10) dX9_exception_5 (by decide) (by omega) (fun h5 => ?_) (fun h5 => ?_)
  · have g2 := (hb2.resolve_right (fun z => by have := z.1; omega)).2
    clear hb2
    have hp12 : 0 ≤ s ∧ s < 74 := by omega
    have h112 : 1 ≤ J 44 s.toNat := by omega
    have hF12 := okJ_form hL (s := s) (by omega) (by omega)
    refine z_aload_n dX9_exception_10 rfl rfl ?_
    refine z_iload_n dX9_exception_11 rfl rfl ?_
    refine z_callv (N := MX9_layCounts) (ci := 9) (nas := 1) (as := [_]) dX9_exception_12 w_1023 w_1020 w_1022 ws_32 w_8 (by decide +kernel) rfl rfl rfl (by decide) (Nat.le_of_ble_eq_true rfl) (by decide) (by decide) (ZC.mono (cLay hp12 h112 hF12) ?_)
    rintro _ _ ⟨rfl, J2, P2, rfl, hC, hO, hPo⟩
    refine c_iconst dX9_exception_15 ?_
    refine z_istore_n dX9_exception_16 rfl (by decide) rfl ?_
    refine c_iconst dX9_exception_17 ?_
    refine z_istore dX9_exception_18 (by decide) rfl ?_
    have L20 : ∀ (m20 : Nat), ∀ (m c : Int), (101 - m).toNat = m20 → (1 ≤ m ∧ m ≤ 101) → (-1 ≤ c ∧ c < m) → (excD (cF (J 44 s.toNat) (eE J s)) i 100 0 = excD (cF (J 44 s.toNat) (eE J s)) i (101 - m).toNat (c + 1)) → Z g l MX9_exception 20 [some (.ref 42), some (.int (iZ s)), some (.int (iZ i)), some (.int (iZ c)), some (.int (iZ m))] [] (KF Kd, zi J2, zj P2, RF Rd, n, s0) Q0 := by
      intro m20
      induction m20 using Nat.strongRecOn with
      | ind m20 ih20 =>
        intro m c hm20 hm hc hd
        refine z_iload dX9_exception_20 rfl ?_
        refine c_bipush dX9_exception_22 (by decide) ?_
        refine c_icmp_gt (tgt := 69) dX9_exception_24 (by decide) (by omega) (by omega) (fun h24 => ?_) (fun h24 => ?_)
        · refine c_bipush dX9_exception_69 (by decide) ?_
          refine c_ireturn dX9_exception_71 rfl ?_
          subst hQ0; refine ⟨_, _, rfl, ?_, pq_offC hO, pp_offP hPo⟩; unfold aException; rw [cif_pos (by omega), hd, show (101 - m).toNat = 0 by omega, excD]
        · have hcv := hC m.toNat (by omega)
          refine z_iload_n dX9_exception_27 rfl rfl ?_
          refine z_aload_n dX9_exception_28 rfl rfl ?_
          refine z_getR (ci := 9) (kf := 14) dX9_exception_29 rfl (by decide) (by decide) rfl w_790 rfl ?_
          refine z_iload dX9_exception_32 rfl ?_
          refine c_iald dX9_exception_34 rfl (by omega) (by decide) ?_
          refine c_if_ne (tgt := 42) dX9_exception_35 (by decide) (by omega) (fun h35 => ?_) (fun h35 => ?_)
          · refine c_iconst dX9_exception_42 ?_
            refine c_iadd dX9_exception_43 ?_
            refine z_istore_n dX9_exception_44 rfl (by decide) rfl ?_
            refine z_aload_n dX9_exception_45 rfl rfl ?_
            refine z_getR (ci := 9) (kf := 14) dX9_exception_46 rfl (by decide) (by decide) rfl w_790 rfl ?_
            refine z_iload dX9_exception_49 rfl ?_
            refine c_iald dX9_exception_51 rfl (by omega) (by decide) ?_
            refine c_if_ne (tgt := 63) dX9_exception_52 (by decide) (by omega) (fun h52 => ?_) (fun h52 => ?_)
            · refine c_iinc dX9_exception_63 rfl (by decide) rfl ?_
              refine z_goto (tgt := 20) dX9_exception_66 (by decide) ?_
              exact Z.fg2 (ih20 _ (by omega) _ _ rfl (by omega) (by omega) (by rw [hd, show (101 - m).toNat = (101 - (m + 1)).toNat + 1 by omega, excD, show 100 - (101 - (m + 1)).toNat = m.toNat by omega]; first | (exfalso; omega) | (rw [if_pos (by omega), if_neg (by omega)]) | (rw [if_neg (by omega), Int.add_zero]))) (zs1 rfl (zs1 rfl (zs1 rfl (zs1 rfl (zs1 rfl zs0)))))
            · refine z_iload_n dX9_exception_55 rfl rfl ?_
              refine z_iload_n dX9_exception_56 rfl rfl ?_
              refine c_icmp_ne (tgt := 63) dX9_exception_57 (by decide) (by omega) (by omega) (fun h57 => ?_) (fun h57 => ?_)
              · refine c_iinc dX9_exception_63 rfl (by decide) rfl ?_
                refine z_goto (tgt := 20) dX9_exception_66 (by decide) ?_
                exact Z.fg2 (ih20 _ (by omega) _ _ rfl (by omega) (by omega) (by rw [hd, show (101 - m).toNat = (101 - (m + 1)).toNat + 1 by omega, excD, show 100 - (101 - (m + 1)).toNat = m.toNat by omega]; first | (exfalso; omega) | (rw [if_pos (by omega), if_neg (by omega)]) | (rw [if_neg (by omega), Int.add_zero]))) (zs1 rfl (zs1 rfl (zs1 rfl (zs1 rfl (zs1 rfl zs0)))))
              · refine z_iload dX9_exception_60 rfl ?_
                refine c_ireturn dX9_exception_62 rfl ?_
                subst hQ0; refine ⟨_, _, rfl, ?_, pq_offC hO, pp_offP hPo⟩; unfold aException; rw [cif_pos (by omega), hd, show (101 - m).toNat = (101 - (m + 1)).toNat + 1 by omega, excD, show 100 - (101 - (m + 1)).toNat = m.toNat by omega, if_pos (by omega), if_pos (by omega), show ((m.toNat : Nat) : Int) = m by omega]
          · refine c_iconst dX9_exception_38 ?_
            refine z_goto (tgt := 43) dX9_exception_39 (by decide) ?_
            refine c_iadd dX9_exception_43 ?_
            refine z_istore_n dX9_exception_44 rfl (by decide) rfl ?_
            refine z_aload_n dX9_exception_45 rfl rfl ?_
            refine z_getR (ci := 9) (kf := 14) dX9_exception_46 rfl (by decide) (by decide) rfl w_790 rfl ?_
            refine z_iload dX9_exception_49 rfl ?_
            refine c_iald dX9_exception_51 rfl (by omega) (by decide) ?_
            refine c_if_ne (tgt := 63) dX9_exception_52 (by decide) (by omega) (fun h52 => ?_) (fun h52 => ?_)
            · refine c_iinc dX9_exception_63 rfl (by decide) rfl ?_
              refine z_goto (tgt := 20) dX9_exception_66 (by decide) ?_
              exact Z.fg2 (ih20 _ (by omega) _ _ rfl (by omega) (by omega) (by rw [hd, show (101 - m).toNat = (101 - (m + 1)).toNat + 1 by omega, excD, show 100 - (101 - (m + 1)).toNat = m.toNat by omega]; first | (exfalso; omega) | (rw [if_pos (by omega), if_neg (by omega)]) | (rw [if_neg (by omega), Int.add_zero]))) (zs1 rfl (zs1 rfl (zs1 rfl (zs1 rfl (zs1 rfl zs0)))))
            · refine z_iload_n dX9_exception_55 rfl rfl ?_
              refine z_iload_n dX9_exception_56 rfl rfl ?_
              refine c_icmp_ne (tgt := 63) dX9_exception_57 (by decide) (by omega) (by omega) (fun h57 => ?_) (fun h57 => ?_)
              · refine c_iinc dX9_exception_63 rfl (by decide) rfl ?_
                refine z_goto (tgt := 20) dX9_exception_66 (by decide) ?_
                exact Z.fg2 (ih20 _ (by omega) _ _ rfl (by omega) (by omega) (by rw [hd, show (101 - m).toNat = (101 - (m + 1)).toNat + 1 by omega, excD, show 100 - (101 - (m + 1)).toNat = m.toNat by omega]; first | (exfalso; omega) | (rw [if_pos (by omega), if_neg (by omega)]) | (rw [if_neg (by omega), Int.add_zero]))) (zs1 rfl (zs1 rfl (zs1 rfl (zs1 rfl (zs1 rfl zs0)))))
              · refine z_iload dX9_exception_60 rfl ?_
                refine c_ireturn dX9_exception_62 rfl ?_
                subst hQ0; refine ⟨_, _, rfl, ?_, pq_offC hO, pp_offP hPo⟩; unfold aException; rw [cif_pos (by omega), hd, show (101 - m).toNat = (101 - (m + 1)).toNat + 1 by omega, excD, show 100 - (101 - (m + 1)).toNat = m.toNat by omega, if_pos (by omega), if_pos (by omega), show ((m.toNat : Nat) : Int) = m by omega]
    exact Z.fg2 (L20 _ _ _ rfl (by omega) (by omega) rfl) (zs1 rfl (zs1 rfl (zs1 rfl (zs1 rfl (zs1 rfl zs0)))))
  · have g2 := (hb2.resolve_left (fun z => by have := z.1; omega)).2
    clear hb2
    refine c_iconst dX9_exception_8 ?_
    refine c_ireturn dX9_exception_9 rfl ?_
    subst hQ0; refine ⟨_, _, rfl, ?_⟩; unfold aException; rw [cif_neg (by omega)]; exact ⟨rfl, pq_refl _, pp_refl _⟩
end Ref13
