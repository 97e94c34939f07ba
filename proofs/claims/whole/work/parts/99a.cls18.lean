section Cls18
variable {g : ZG} {l : Launch} {Kd : ZK} {Rd : ZR} {n s0 c : Nat} {A J P : Nat → Nat → Int}
theorem cF_bd {nl : Int} {E : Nat → Int} (h : okF nl E) (m : Nat) : 0 ≤ cF nl E m ∧ cF nl E m ≤ 1000000 := by
  have a := cntL_bd E (vecF nl E) m
  have b := vecF_len h.2.1.2.2
  unfold cF; omega
theorem TK_pub {Kd' : ZK} {J' : Nat → Nat → Int} {Rd' : ZR} {n' r t cc ff : Nat} {s : Int} (hf : FA A Kd J Rd n s.toNat r) (hF : 1 ≤ A 44 s.toNat ∧ okF (A 44 s.toNat) (eE A s)) (hD : TKD Kd' J' Rd' n' (J r 0) (J (ent Rd r)) t cc ff) : (∀ m : Nat, m ≤ 100 → J' cc m = cF (A 44 s.toNat) (eE A s) m ∧ 0 ≤ cF (A 44 s.toNat) (eE A s) m ∧ cF (A 44 s.toNat) (eE A s) m ≤ 2000000) ∧ KF Kd' ff = (1, 101 * (A 44 s.toNat).toNat) ∧ ∀ m : Nat, m ≤ 100 → 0 < cF (A 44 s.toNat) (eE A s) m → ∀ j : Nat, (j : Int) < A 44 s.toNat → J' ff ((A 44 s.toNat).toNat * m + j) = vAt (fF (A 44 s.toNat) (eE A s) m) j := by
  obtain ⟨_, _, _, d4, d5⟩ := hD
  have cg : ∀ k, k < 16 → J (ent Rd r) k = eE A s k := fun k hk => hf.2.2 k hk
  have e1 : cF (J r 0) (J (ent Rd r)) = cF (A 44 s.toNat) (eE A s) := by rw [hf.2.1]; exact cF_congr hF.2.1 cg
  have e2 : fF (J r 0) (J (ent Rd r)) = fF (A 44 s.toNat) (eE A s) := by rw [hf.2.1]; exact fF_congr hF.2.1 cg
  unfold TkV at d5
  rw [e1, e2, hf.2.1] at d5
  rw [hf.2.1] at d4
  exact ⟨fun m hm => ⟨(d5 m hm).1, (cF_bd hF.2 m).1, by have := (cF_bd hF.2 m).2; omega⟩, d4.1, fun m hm => (d5 m hm).2⟩
set_option maxHeartbeats 4000000 in
set_option maxRecDepth 100000 in
theorem cMX8_takes {s m : Int} (hs : rI s) (hm : rI m) (hW : WD A c Kd J Rd n s0) : ZC g l MX8_takes [.ref 4, .int (iZ s), .int (iZ m)] (KF Kd, zi J, zj P, RF Rd, n, s0) (PW A (c + 1) J P (.int (iZ (aTakes A s m)))) := by
  refine ZC.of (by decide) (Nat.le_of_ble_eq_true rfl) ?_
  generalize hQ0 : (PW A (c + 1) J P (.int (iZ (aTakes A s m))) : Option Value → ZH → Prop) = Q0
  show Z g l MX8_takes 0 [some (.ref 4), some (.int (iZ s)), some (.int (iZ m)), none] [] (KF Kd, zi J, zj P, RF Rd, n, s0) Q0
  refine z_aload_n dX8_takes_0 rfl rfl ?_
  refine z_iload_n dX8_takes_1 rfl rfl ?_
  refine z_callv (N := MX8_held) (ci := 8) (nas := 1) (as := [_]) dX8_takes_2 w_333 w_330 w_332 ws_2 w_1 (by decide +kernel) rfl rfl rfl (by decide) (Nat.le_of_ble_eq_true rfl) (by decide) (by decide) (ZC.mono (cMX8_held (by omega) hW) ?_)
  rintro _ _ ⟨rfl, hd2⟩
  rcases hd2 with ⟨hf2, rfl⟩ | ⟨hf2, r2, rfl, hr2⟩
  · skip
    refine z_astore_nN dX8_takes_5 rfl (by decide) rfl ?_
    refine z_aload_nN dX8_takes_6 rfl rfl ?_
    refine z_ifnullN (tgt := 20) dX8_takes_7 (by decide) ?_
    refine c_iconst dX8_takes_20 ?_
    refine c_ireturn dX8_takes_21 rfl ?_
    subst hQ0; unfold aTakes; rw [cif_neg (by omega)]; exact PW_id hW
  · have hK2 := FA_K1 hr2.1
    have hE2 := WD_ent hW hr2.1
    have hF2 := FA_okF hW hr2
    have hl2 := hF2.2.1
    refine z_astore_n dX8_takes_5 rfl (by decide) rfl ?_
    refine z_aload_n dX8_takes_6 rfl rfl ?_
    refine z_ifnull dX8_takes_7 ?_
    refine z_iload_n dX8_takes_10 rfl rfl ?_
    refine c_if_lt (tgt := 20) dX8_takes_11 (by decide) (by omega) (fun h11 => ?_) (fun h11 => ?_)
    · refine c_iconst dX8_takes_20 ?_
      refine c_ireturn dX8_takes_21 rfl ?_
      subst hQ0; unfold aTakes; rw [cif_neg (by omega)]; exact PW_id hW
    · refine z_iload_n dX8_takes_14 rfl rfl ?_
      refine c_bipush dX8_takes_15 (by decide) ?_
      refine c_icmp_le (tgt := 22) dX8_takes_17 (by decide) (by omega) (by omega) (fun h17 => ?_) (fun h17 => ?_)
      · refine z_aload_n dX8_takes_22 rfl rfl ?_
        refine z_aload_n dX8_takes_23 rfl rfl ?_
        refine z_callv (N := MX8_takenBy) (ci := 8) (nas := 1) (as := [_]) dX8_takes_24 w_445 w_442 w_444 ws_3 w_1 (by decide +kernel) rfl rfl rfl (by decide) (Nat.le_of_ble_eq_true rfl) (by decide) (by decide) (ZC.mono (cMX8_takenBy hr2.1 hW) ?_)
        rintro _ _ ⟨K24, J24, P24, R24, n24, s24, t24, c24, f24, rfl, rfl, hW24, hE24, hD24, hk24, hP24⟩
        have hT24 := TK_pub hr2 hF2 hD24
        refine z_getR (ci := 6) (kf := 0) dX8_takes_27 hD24.1.1 (by decide) (by decide) rfl w_484 hD24.1.2.1 ?_
        refine z_iload_n dX8_takes_30 rfl rfl ?_
        refine c_iald dX8_takes_31 hD24.2.2.1.1 (by omega) (by decide) ?_
        refine c_ireturn dX8_takes_32 rfl ?_
        subst hQ0; unfold aTakes; rw [cif_pos (by omega), (hT24.1 m.toNat (by omega)).1]; exact ⟨rfl, _, _, _, _, _, _, rfl, WD_mono hW24, cs_Ev hE24, fun a a1 a2 => hP24 a (by omega) a2⟩
      · refine c_iconst dX8_takes_20 ?_
        refine c_ireturn dX8_takes_21 rfl ?_
        subst hQ0; unfold aTakes; rw [cif_neg (by omega)]; exact PW_id hW
set_option maxHeartbeats 4000000 in
set_option maxRecDepth 100000 in
theorem cMX8_vector {s m j : Int} (hs : rI s) (hm : rI m) (hj : rI j) (hW : WD A c Kd J Rd n s0) : ZC g l MX8_vector [.ref 4, .int (iZ s), .int (iZ m), .int (iZ j)] (KF Kd, zi J, zj P, RF Rd, n, s0) (PW A (c + 1) J P (.int (iZ (aVector A s m j)))) := by
  refine ZC.of (by decide) (Nat.le_of_ble_eq_true rfl) ?_
  generalize hQ0 : (PW A (c + 1) J P (.int (iZ (aVector A s m j))) : Option Value → ZH → Prop) = Q0
  show Z g l MX8_vector 0 [some (.ref 4), some (.int (iZ s)), some (.int (iZ m)), some (.int (iZ j)), none, none] [] (KF Kd, zi J, zj P, RF Rd, n, s0) Q0
  refine z_aload_n dX8_vector_0 rfl rfl ?_
  refine z_iload_n dX8_vector_1 rfl rfl ?_
  refine z_callv (N := MX8_held) (ci := 8) (nas := 1) (as := [_]) dX8_vector_2 w_333 w_330 w_332 ws_2 w_1 (by decide +kernel) rfl rfl rfl (by decide) (Nat.le_of_ble_eq_true rfl) (by decide) (by decide) (ZC.mono (cMX8_held (by omega) hW) ?_)
  rintro _ _ ⟨rfl, hd2⟩
  rcases hd2 with ⟨hf2, rfl⟩ | ⟨hf2, r2, rfl, hr2⟩
  · skip
    refine z_astoreN dX8_vector_5 (by decide) rfl ?_
    refine z_aloadN dX8_vector_7 rfl ?_
    refine z_ifnullN (tgt := 31) dX8_vector_9 (by decide) ?_
    refine c_ldc (z := -2147483648) dX8_vector_31 w_360 (by decide) ?_
    refine c_ireturn dX8_vector_33 rfl ?_
    subst hQ0; unfold aVector; rw [cif_neg (by omega)]; exact PW_id hW
  · have hK2 := FA_K1 hr2.1
    have hE2 := WD_ent hW hr2.1
    have hF2 := FA_okF hW hr2
    have hl2 := hF2.2.1
    refine z_astore dX8_vector_5 (by decide) rfl ?_
    refine z_aload dX8_vector_7 rfl ?_
    refine z_ifnull dX8_vector_9 ?_
    refine z_iload_n dX8_vector_12 rfl rfl ?_
    refine c_if_lt (tgt := 31) dX8_vector_13 (by decide) (by omega) (fun h13 => ?_) (fun h13 => ?_)
    · refine c_ldc (z := -2147483648) dX8_vector_31 w_360 (by decide) ?_
      refine c_ireturn dX8_vector_33 rfl ?_
      subst hQ0; unfold aVector; rw [cif_neg (by omega)]; exact PW_id hW
    · refine z_iload_n dX8_vector_16 rfl rfl ?_
      refine c_bipush dX8_vector_17 (by decide) ?_
      refine c_icmp_gt (tgt := 31) dX8_vector_19 (by decide) (by omega) (by omega) (fun h19 => ?_) (fun h19 => ?_)
      · refine c_ldc (z := -2147483648) dX8_vector_31 w_360 (by decide) ?_
        refine c_ireturn dX8_vector_33 rfl ?_
        subst hQ0; unfold aVector; rw [cif_neg (by omega)]; exact PW_id hW
      · refine z_aload dX8_vector_22 rfl ?_
        refine z_iload_n dX8_vector_24 rfl rfl ?_
        refine z_calls (N := MX8_isLetter) (nas := 2) (as := [_, _]) dX8_vector_25 w_348 w_346 w_347 w_1 (by decide +kernel) rfl rfl (Nat.le_of_ble_eq_true rfl) (by decide) (by decide) (ZC.mono (cMX8_isLetter (by omega) hK2 (by have := hr2.2.1; omega)) ?_)
        rintro _ _ ⟨b25, rfl, rfl, hb25⟩
        rw [hr2.2.1] at hb25
        refine c_if_ne (tgt := 34) dX8_vector_28 (by decide) (by omega) (fun h28 => ?_) (fun h28 => ?_)
        · have g25 := (hb25.resolve_right (fun z => by have := z.1; omega)).2
          clear hb25
          refine z_aload_n dX8_vector_34 rfl rfl ?_
          refine z_aload dX8_vector_35 rfl ?_
          refine z_callv (N := MX8_takenBy) (ci := 8) (nas := 1) (as := [_]) dX8_vector_37 w_445 w_442 w_444 ws_3 w_1 (by decide +kernel) rfl rfl rfl (by decide) (Nat.le_of_ble_eq_true rfl) (by decide) (by decide) (ZC.mono (cMX8_takenBy hr2.1 hW) ?_)
          rintro _ _ ⟨K37, J37, P37, R37, n37, s37, t37, c37, f37, rfl, rfl, hW37, hE37, hD37, hk37, hP37⟩
          have hT37 := TK_pub hr2 hF2 hD37
          refine z_astore dX8_vector_40 (by decide) rfl ?_
          refine z_aload dX8_vector_42 rfl ?_
          refine z_getR (ci := 6) (kf := 0) dX8_vector_44 hD37.1.1 (by decide) (by decide) rfl w_484 hD37.1.2.1 ?_
          refine z_iload_n dX8_vector_47 rfl rfl ?_
          refine c_iald dX8_vector_48 hD37.2.2.1.1 (by omega) (by decide) ?_
          have h48 := hT37.1 m.toNat (by omega)
          rw [h48.1]
          refine c_if_ne (tgt := 57) dX8_vector_49 (by decide) (by omega) (fun h49 => ?_) (fun h49 => ?_)
          · refine z_aload dX8_vector_57 rfl ?_
            refine z_getR (ci := 6) (kf := 1) dX8_vector_59 hD37.1.1 (by decide) (by decide) rfl w_486 hD37.1.2.2 ?_
            refine z_aload dX8_vector_62 rfl ?_
            refine c_getI (ci := 3) (kf := 0) dX8_vector_64 (FA_K1 (Ev_isF hE37 hr2.1)) (by decide) (by decide) rfl w_280 ?_
            rw [show J37 r2 0 = A 44 s.toNat by rw [(hE37.2.1 r2 hr2.1).2.1]; exact hr2.2.1]
            have hnl : 0 ≤ A 44 s.toNat * m + j ∧ A 44 s.toNat * m + j < ((101 * (A 44 s.toNat).toNat : Nat) : Int) ∧ (A 44 s.toNat * m + j).toNat = (A 44 s.toNat).toNat * m.toNat + j.toNat := by
              have q1 := hF2.1
              have q2 := hF2.2.1
              generalize A 44 s.toNat = nl at *
              rcases (show nl = 1 ∨ nl = 2 ∨ nl = 3 ∨ nl = 4 by omega) with rfl | rfl | rfl | rfl <;> (simp only [show (1 : Int).toNat = 1 from rfl, show (2 : Int).toNat = 2 from rfl, show (3 : Int).toNat = 3 from rfl, show (4 : Int).toNat = 4 from rfl]; omega)
            refine z_iload_n dX8_vector_67 rfl rfl ?_
            refine c_imul dX8_vector_68 ?_
            refine z_iload_n dX8_vector_69 rfl rfl ?_
            refine c_iadd dX8_vector_70 ?_
            refine c_iald dX8_vector_71 hT37.2.1 (by omega) (by have := hF2.2.1; omega) ?_
            refine c_ireturn dX8_vector_72 rfl ?_
            subst hQ0; unfold aVector; rw [cif_pos (by omega)]; first | (rw [if_pos (by omega)]; exact ⟨rfl, _, _, _, _, _, _, rfl, WD_mono hW37, cs_Ev hE37, fun a a1 a2 => hP37 a (by omega) a2⟩) | (rw [if_neg (by omega), hnl.2.2, hT37.2.2 m.toNat (by omega) (by omega) j.toNat (by omega), Int.toNat_of_nonneg (by omega)]; exact ⟨rfl, _, _, _, _, _, _, rfl, WD_mono hW37, cs_Ev hE37, fun a a1 a2 => hP37 a (by omega) a2⟩)
          · refine c_ldc (z := -2147483648) dX8_vector_52 w_360 (by decide) ?_
            refine z_goto (tgt := 72) dX8_vector_54 (by decide) ?_
            refine c_ireturn dX8_vector_72 rfl ?_
            subst hQ0; unfold aVector; rw [cif_pos (by omega)]; first | (rw [if_pos (by omega)]; exact ⟨rfl, _, _, _, _, _, _, rfl, WD_mono hW37, cs_Ev hE37, fun a a1 a2 => hP37 a (by omega) a2⟩) | (rw [if_neg (by omega), hnl.2.2, hT37.2.2 m.toNat (by omega) (by omega) j.toNat (by omega), Int.toNat_of_nonneg (by omega)]; exact ⟨rfl, _, _, _, _, _, _, rfl, WD_mono hW37, cs_Ev hE37, fun a a1 a2 => hP37 a (by omega) a2⟩)
        · have g25 := (hb25.resolve_left (fun z => by have := z.1; omega)).2
          clear hb25
          refine c_ldc (z := -2147483648) dX8_vector_31 w_360 (by decide) ?_
          refine c_ireturn dX8_vector_33 rfl ?_
          subst hQ0; unfold aVector; rw [cif_neg (by omega)]; exact PW_id hW
set_option maxHeartbeats 4000000 in
set_option maxRecDepth 100000 in
theorem cMX8_truant {s : Int} (hs : rI s) (hW : WD A c Kd J Rd n s0) : ZC g l MX8_truant [.ref 4, .int (iZ s)] (KF Kd, zi J, zj P, RF Rd, n, s0) (PW A (c + 1) J P (.int (iZ (aTruant A s)))) := by
  refine ZC.of (by decide) (Nat.le_of_ble_eq_true rfl) ?_
  generalize hQ0 : (PW A (c + 1) J P (.int (iZ (aTruant A s))) : Option Value → ZH → Prop) = Q0
  show Z g l MX8_truant 0 [some (.ref 4), some (.int (iZ s)), none, none] [] (KF Kd, zi J, zj P, RF Rd, n, s0) Q0
  refine z_aload_n dX8_truant_0 rfl rfl ?_
  refine z_iload_n dX8_truant_1 rfl rfl ?_
  refine z_callv (N := MX8_held) (ci := 8) (nas := 1) (as := [_]) dX8_truant_2 w_333 w_330 w_332 ws_2 w_1 (by decide +kernel) rfl rfl rfl (by decide) (Nat.le_of_ble_eq_true rfl) (by decide) (by decide) (ZC.mono (cMX8_held (by omega) hW) ?_)
  rintro _ _ ⟨rfl, hd2⟩
  rcases hd2 with ⟨hf2, rfl⟩ | ⟨hf2, r2, rfl, hr2⟩
  · skip
    refine z_astore_nN dX8_truant_5 rfl (by decide) rfl ?_
    refine z_aload_nN dX8_truant_6 rfl rfl ?_
    refine z_ifnonnullN dX8_truant_7 ?_
    refine c_iconst dX8_truant_10 ?_
    refine c_ireturn dX8_truant_11 rfl ?_
    subst hQ0; unfold aTruant; rw [cif_neg (by omega)]; exact PW_id hW
  · have hK2 := FA_K1 hr2.1
    have hE2 := WD_ent hW hr2.1
    have hF2 := FA_okF hW hr2
    have hl2 := hF2.2.1
    refine z_astore_n dX8_truant_5 rfl (by decide) rfl ?_
    refine z_aload_n dX8_truant_6 rfl rfl ?_
    refine z_ifnonnull (tgt := 12) dX8_truant_7 (by decide) ?_
    refine z_aload_n dX8_truant_12 rfl rfl ?_
    refine z_aload_n dX8_truant_13 rfl rfl ?_
    refine z_callv (N := MX8_takenBy) (ci := 8) (nas := 1) (as := [_]) dX8_truant_14 w_445 w_442 w_444 ws_3 w_1 (by decide +kernel) rfl rfl rfl (by decide) (Nat.le_of_ble_eq_true rfl) (by decide) (by decide) (ZC.mono (cMX8_takenBy hr2.1 hW) ?_)
    rintro _ _ ⟨K14, J14, P14, R14, n14, s14, t14, c14, f14, rfl, rfl, hW14, hE14, hD14, hk14, hP14⟩
    have hT14 := TK_pub hr2 hF2 hD14
    refine z_callv (N := MX6_firstLacking) (ci := 6) (nas := 0) (as := []) dX8_truant_17 w_507 w_504 w_505 w_506 w_13 (by decide +kernel) rfl rfl hD14.1.1 (by decide) (Nat.le_of_ble_eq_true rfl) (by decide) (by decide) (ZC.mono (cMX6_firstLacking (f := (cF (A 44 s.toNat) (eE A s))) hD14.1.1 hD14.1.2.1 hD14.2.2.1.1 hT14.1) ?_)
    rintro _ _ ⟨rfl, rfl⟩
    rw [show lackD (cF (A 44 s.toNat) (eE A s)) 100 = truF (A 44 s.toNat) (eE A s) from rfl]
    have htr := truF_bd (A 44 s.toNat) (eE A s)
    refine z_istore_n dX8_truant_20 rfl (by decide) rfl ?_
    refine z_iload_n dX8_truant_21 rfl rfl ?_
    refine c_if_ne (tgt := 30) dX8_truant_22 (by decide) (by omega) (fun h22 => ?_) (fun h22 => ?_)
    · refine z_iload_n dX8_truant_30 rfl rfl ?_
      refine c_ireturn dX8_truant_31 rfl ?_
      subst hQ0; unfold aTruant; rw [cif_pos (by omega)]; first | (rw [if_pos (by omega)]; exact ⟨rfl, _, _, _, _, _, _, rfl, WD_mono hW14, cs_Ev hE14, fun a a1 a2 => hP14 a (by omega) a2⟩) | (rw [if_neg (by omega)]; exact ⟨rfl, _, _, _, _, _, _, rfl, WD_mono hW14, cs_Ev hE14, fun a a1 a2 => hP14 a (by omega) a2⟩)
    · refine c_bipush dX8_truant_25 (by decide) ?_
      refine z_goto (tgt := 31) dX8_truant_27 (by decide) ?_
      refine c_ireturn dX8_truant_31 rfl ?_
      subst hQ0; unfold aTruant; rw [cif_pos (by omega)]; first | (rw [if_pos (by omega)]; exact ⟨rfl, _, _, _, _, _, _, rfl, WD_mono hW14, cs_Ev hE14, fun a a1 a2 => hP14 a (by omega) a2⟩) | (rw [if_neg (by omega)]; exact ⟨rfl, _, _, _, _, _, _, rfl, WD_mono hW14, cs_Ev hE14, fun a a1 a2 => hP14 a (by omega) a2⟩)
set_option maxHeartbeats 4000000 in
set_option maxRecDepth 100000 in
theorem cMX8_unlike {s t : Int} (hs : rI s) (ht : rI t) (hW : WD A c Kd J Rd n s0) : ZC g l MX8_unlike [.ref 4, .int (iZ s), .int (iZ t)] (KF Kd, zi J, zj P, RF Rd, n, s0) (PW A (c + 1) J P (.int (iZ (aUnlike A s t)))) := by
  refine ZC.of (by decide) (Nat.le_of_ble_eq_true rfl) ?_
  generalize hQ0 : (PW A (c + 1) J P (.int (iZ (aUnlike A s t))) : Option Value → ZH → Prop) = Q0
  show Z g l MX8_unlike 0 [some (.ref 4), some (.int (iZ s)), some (.int (iZ t)), none, none, none, none, none] [] (KF Kd, zi J, zj P, RF Rd, n, s0) Q0
  refine z_aload_n dX8_unlike_0 rfl rfl ?_
  refine z_iload_n dX8_unlike_1 rfl rfl ?_
  refine z_callv (N := MX8_held) (ci := 8) (nas := 1) (as := [_]) dX8_unlike_2 w_333 w_330 w_332 ws_2 w_1 (by decide +kernel) rfl rfl rfl (by decide) (Nat.le_of_ble_eq_true rfl) (by decide) (by decide) (ZC.mono (cMX8_held (by omega) hW) ?_)
  rintro _ _ ⟨rfl, hd2⟩
  rcases hd2 with ⟨hf2, rfl⟩ | ⟨hf2, r2, rfl, hr2⟩
  · skip
    refine z_astore_nN dX8_unlike_5 rfl (by decide) rfl ?_
    refine z_aload_n dX8_unlike_6 rfl rfl ?_
    refine z_iload_n dX8_unlike_7 rfl rfl ?_
    refine z_callv (N := MX8_held) (ci := 8) (nas := 1) (as := [_]) dX8_unlike_8 w_333 w_330 w_332 ws_2 w_1 (by decide +kernel) rfl rfl rfl (by decide) (Nat.le_of_ble_eq_true rfl) (by decide) (by decide) (ZC.mono (cMX8_held (by omega) hW) ?_)
    rintro _ _ ⟨rfl, hd8⟩
    rcases hd8 with ⟨hf8, rfl⟩ | ⟨hf8, r8, rfl, hr8⟩
    · skip
      refine z_astoreN dX8_unlike_11 (by decide) rfl ?_
      refine z_aload_nN dX8_unlike_13 rfl rfl ?_
      refine z_ifnullN (tgt := 22) dX8_unlike_14 (by decide) ?_
      refine c_iconst dX8_unlike_22 ?_
      refine c_ireturn dX8_unlike_23 rfl ?_
      subst hQ0; unfold aUnlike; rw [cif_neg (by omega)]; exact PW_id hW
    · have hK8 := FA_K1 hr8.1
      have hE8 := WD_ent hW hr8.1
      have hF8 := FA_okF hW hr8
      have hl8 := hF8.2.1
      refine z_astore dX8_unlike_11 (by decide) rfl ?_
      refine z_aload_nN dX8_unlike_13 rfl rfl ?_
      refine z_ifnullN (tgt := 22) dX8_unlike_14 (by decide) ?_
      refine c_iconst dX8_unlike_22 ?_
      refine c_ireturn dX8_unlike_23 rfl ?_
      subst hQ0; unfold aUnlike; rw [cif_neg (by omega)]; exact PW_id hW
  · have hK2 := FA_K1 hr2.1
    have hE2 := WD_ent hW hr2.1
    have hF2 := FA_okF hW hr2
    have hl2 := hF2.2.1
    refine z_astore_n dX8_unlike_5 rfl (by decide) rfl ?_
    refine z_aload_n dX8_unlike_6 rfl rfl ?_
    refine z_iload_n dX8_unlike_7 rfl rfl ?_
    refine z_callv (N := MX8_held) (ci := 8) (nas := 1) (as := [_]) dX8_unlike_8 w_333 w_330 w_332 ws_2 w_1 (by decide +kernel) rfl rfl rfl (by decide) (Nat.le_of_ble_eq_true rfl) (by decide) (by decide) (ZC.mono (cMX8_held (by omega) hW) ?_)
    rintro _ _ ⟨rfl, hd8⟩
    rcases hd8 with ⟨hf8, rfl⟩ | ⟨hf8, r8, rfl, hr8⟩
    · skip
      refine z_astoreN dX8_unlike_11 (by decide) rfl ?_
      refine z_aload_n dX8_unlike_13 rfl rfl ?_
      refine z_ifnull dX8_unlike_14 ?_
      refine z_aloadN dX8_unlike_17 rfl ?_
      refine z_ifnonnullN dX8_unlike_19 ?_
      refine c_iconst dX8_unlike_22 ?_
      refine c_ireturn dX8_unlike_23 rfl ?_
      subst hQ0; unfold aUnlike; rw [cif_neg (by omega)]; exact PW_id hW
    · have hK8 := FA_K1 hr8.1
      have hE8 := WD_ent hW hr8.1
      have hF8 := FA_okF hW hr8
      have hl8 := hF8.2.1
      refine z_astore dX8_unlike_11 (by decide) rfl ?_
      refine z_aload_n dX8_unlike_13 rfl rfl ?_
      refine z_ifnull dX8_unlike_14 ?_
      refine z_aload dX8_unlike_17 rfl ?_
      refine z_ifnonnull (tgt := 24) dX8_unlike_19 (by decide) ?_
      refine z_aload_n dX8_unlike_24 rfl rfl ?_
      refine z_aload_n dX8_unlike_25 rfl rfl ?_
      refine z_callv (N := MX8_takenBy) (ci := 8) (nas := 1) (as := [_]) dX8_unlike_26 w_445 w_442 w_444 ws_3 w_1 (by decide +kernel) rfl rfl rfl (by decide) (Nat.le_of_ble_eq_true rfl) (by decide) (by decide) (ZC.mono (cMX8_takenBy hr2.1 hW) ?_)
      rintro _ _ ⟨K26, J26, P26, R26, n26, s26, t26, c26, f26, rfl, rfl, hW26, hE26, hD26, hk26, hP26⟩
      have hT26 := TK_pub hr2 hF2 hD26
      refine z_getR (ci := 6) (kf := 0) dX8_unlike_29 hD26.1.1 (by decide) (by decide) rfl w_484 hD26.1.2.1 ?_
      refine z_astore dX8_unlike_32 (by decide) rfl ?_
      refine z_aload_n dX8_unlike_34 rfl rfl ?_
      refine z_aload dX8_unlike_35 rfl ?_
      refine z_callv (N := MX8_takenBy) (ci := 8) (nas := 1) (as := [_]) dX8_unlike_37 w_445 w_442 w_444 ws_3 w_1 (by decide +kernel) rfl rfl rfl (by decide) (Nat.le_of_ble_eq_true rfl) (by decide) (by decide) (ZC.mono (cMX8_takenBy (Ev_FA hE26 hr8).1 hW26) ?_)
      rintro _ _ ⟨K37, J37, P37, R37, n37, s37, t37, c37, f37, rfl, rfl, hW37, hE37, hD37, hk37, hP37⟩
      have hT37 := TK_pub (Ev_FA hE26 hr8) hF8 hD37
      have hq26 := hk37 c26 hD26.2.2.1.2.1 hD26.2.2.1.2.2
      have kc26 : KF K37 c26 = (1, 101) := by rw [KF_dyn hD26.2.2.1.2.1, hq26.1]; exact (KF_dyn hD26.2.2.1.2.1).symm.trans hD26.2.2.1.1
      refine z_getR (ci := 6) (kf := 0) dX8_unlike_40 hD37.1.1 (by decide) (by decide) rfl w_484 hD37.1.2.1 ?_
      refine z_astore dX8_unlike_43 (by decide) rfl ?_
      refine c_iconst dX8_unlike_45 ?_
      refine z_istore dX8_unlike_46 (by decide) rfl ?_
      have L48 : ∀ (m48 : Nat), ∀ (m : Int), (101 - m).toNat = m48 → (0 ≤ m ∧ m ≤ 101) → (diffD (cF (A 44 s.toNat) (eE A s)) (cF (A 44 t.toNat) (eE A t)) 101 = diffD (cF (A 44 s.toNat) (eE A s)) (cF (A 44 t.toNat) (eE A t)) (101 - m).toNat) → Z g l MX8_unlike 48 [some (.ref 4), some (.int (iZ s)), some (.int (iZ t)), some (.ref r2), some (.ref r8), some (.ref c26), some (.ref c37), some (.int (iZ m))] [] (KF K37, zi J37, zj P37, RF R37, n37, s37) Q0 := by
        intro m48
        induction m48 using Nat.strongRecOn with
        | ind m48 ih48 =>
          intro m hm48 hm hd
          refine z_iload dX8_unlike_48 rfl ?_
          refine c_bipush dX8_unlike_50 (by decide) ?_
          refine c_icmp_gt (tgt := 77) dX8_unlike_52 (by decide) (by omega) (by omega) (fun h52 => ?_) (fun h52 => ?_)
          · refine c_bipush dX8_unlike_77 (by decide) ?_
            refine c_ireturn dX8_unlike_79 rfl ?_
            subst hQ0; unfold aUnlike; rw [cif_pos (by omega), hd, show (101 - m).toNat = 0 by omega]; exact ⟨rfl, _, _, _, _, _, _, rfl, WD_mono hW37, cs_trans (cs_Ev hE26) (cs_Ev hE37), fun a a1 a2 => (hP37 a (by omega) a2).trans (hP26 a (by omega) a2)⟩
          · refine z_aload dX8_unlike_55 rfl ?_
            refine z_iload dX8_unlike_57 rfl ?_
            refine c_iald dX8_unlike_59 kc26 (by omega) (by decide) ?_
            have v26 := hT26.1 m.toNat (by omega)
            rw [hq26.2, v26.1]
            refine z_aload dX8_unlike_60 rfl ?_
            refine z_iload dX8_unlike_62 rfl ?_
            refine c_iald dX8_unlike_64 hD37.2.2.1.1 (by omega) (by decide) ?_
            have v37 := hT37.1 m.toNat (by omega)
            rw [v37.1]
            have hdd : diffD (cF (A 44 s.toNat) (eE A s)) (cF (A 44 t.toNat) (eE A t)) (101 - m).toNat = if (cF (A 44 s.toNat) (eE A s)) m.toNat = (cF (A 44 t.toNat) (eE A t)) m.toNat then diffD (cF (A 44 s.toNat) (eE A s)) (cF (A 44 t.toNat) (eE A t)) (101 - (m + 1)).toNat else m := by
              rw [show (101 - m).toNat = (101 - (m + 1)).toNat + 1 by omega, diffD, show 100 - (101 - (m + 1)).toNat = m.toNat by omega, Int.toNat_of_nonneg (by omega)]
            refine c_icmp_eq (tgt := 71) dX8_unlike_65 (by decide) (by omega) (by omega) (fun h65 => ?_) (fun h65 => ?_)
            · refine c_iinc dX8_unlike_71 rfl (by decide) rfl ?_
              refine z_goto (tgt := 48) dX8_unlike_74 (by decide) ?_
              exact Z.fg2 (ih48 _ (by omega) _ rfl (by omega) (by rw [hd, hdd, if_pos h65])) (zs1 rfl (zs1 rfl (zs1 rfl (zs1 rfl (zs1 rfl (zs1 rfl (zs1 rfl (zs1 rfl zs0))))))))
            · refine z_iload dX8_unlike_68 rfl ?_
              refine c_ireturn dX8_unlike_70 rfl ?_
              subst hQ0; unfold aUnlike; rw [cif_pos (by omega), hd, hdd, if_neg h65]; exact ⟨rfl, _, _, _, _, _, _, rfl, WD_mono hW37, cs_trans (cs_Ev hE26) (cs_Ev hE37), fun a a1 a2 => (hP37 a (by omega) a2).trans (hP26 a (by omega) a2)⟩
      exact Z.fg2 (L48 _ _ rfl (by omega) rfl) (zs1 rfl (zs1 rfl (zs1 rfl (zs1 rfl (zs1 rfl (zs1 rfl (zs1 rfl (zs1 rfl zs0))))))))
set_option maxHeartbeats 4000000 in
set_option maxRecDepth 100000 in
theorem cMX8_exception {s i : Int} (hs : rI s) (hi : rI i) (hW : WD A c Kd J Rd n s0) : ZC g l MX8_exception [.ref 4, .int (iZ s), .int (iZ i)] (KF Kd, zi J, zj P, RF Rd, n, s0) (PW A (c + 1) J P (.int (iZ (aException A s i)))) := by
  refine ZC.of (by decide) (Nat.le_of_ble_eq_true rfl) ?_
  generalize hQ0 : (PW A (c + 1) J P (.int (iZ (aException A s i))) : Option Value → ZH → Prop) = Q0
  show Z g l MX8_exception 0 [some (.ref 4), some (.int (iZ s)), some (.int (iZ i)), none, none, none, none] [] (KF Kd, zi J, zj P, RF Rd, n, s0) Q0
  refine z_aload_n dX8_exception_0 rfl rfl ?_
  refine z_iload_n dX8_exception_1 rfl rfl ?_
  refine z_callv (N := MX8_held) (ci := 8) (nas := 1) (as := [_]) dX8_exception_2 w_333 w_330 w_332 ws_2 w_1 (by decide +kernel) rfl rfl rfl (by decide) (Nat.le_of_ble_eq_true rfl) (by decide) (by decide) (ZC.mono (cMX8_held (by omega) hW) ?_)
  rintro _ _ ⟨rfl, hd2⟩
  rcases hd2 with ⟨hf2, rfl⟩ | ⟨hf2, r2, rfl, hr2⟩
  · skip
    refine z_astore_nN dX8_exception_5 rfl (by decide) rfl ?_
    refine z_aload_nN dX8_exception_6 rfl rfl ?_
    refine z_ifnonnullN dX8_exception_7 ?_
    refine c_iconst dX8_exception_10 ?_
    refine c_ireturn dX8_exception_11 rfl ?_
    subst hQ0; unfold aException; rw [cif_neg (by omega)]; exact PW_id hW
  · have hK2 := FA_K1 hr2.1
    have hE2 := WD_ent hW hr2.1
    have hF2 := FA_okF hW hr2
    have hl2 := hF2.2.1
    refine z_astore_n dX8_exception_5 rfl (by decide) rfl ?_
    refine z_aload_n dX8_exception_6 rfl rfl ?_
    refine z_ifnonnull (tgt := 12) dX8_exception_7 (by decide) ?_
    refine z_aload_n dX8_exception_12 rfl rfl ?_
    refine z_aload_n dX8_exception_13 rfl rfl ?_
    refine z_callv (N := MX8_takenBy) (ci := 8) (nas := 1) (as := [_]) dX8_exception_14 w_445 w_442 w_444 ws_3 w_1 (by decide +kernel) rfl rfl rfl (by decide) (Nat.le_of_ble_eq_true rfl) (by decide) (by decide) (ZC.mono (cMX8_takenBy hr2.1 hW) ?_)
    rintro _ _ ⟨K14, J14, P14, R14, n14, s14, t14, c14, f14, rfl, rfl, hW14, hE14, hD14, hk14, hP14⟩
    have hT14 := TK_pub hr2 hF2 hD14
    refine z_getR (ci := 6) (kf := 0) dX8_exception_17 hD14.1.1 (by decide) (by decide) rfl w_484 hD14.1.2.1 ?_
    refine z_astore dX8_exception_20 (by decide) rfl ?_
    refine c_iconst dX8_exception_22 ?_
    refine z_istore dX8_exception_23 (by decide) rfl ?_
    refine c_iconst dX8_exception_25 ?_
    refine z_istore dX8_exception_26 (by decide) rfl ?_
    have L28 : ∀ (m28 : Nat), ∀ (m p : Int), (101 - m).toNat = m28 → (1 ≤ m ∧ m ≤ 101) → (0 ≤ p ∧ p < m) → (excD (cF (A 44 s.toNat) (eE A s)) i 100 0 = excD (cF (A 44 s.toNat) (eE A s)) i (101 - m).toNat p) → Z g l MX8_exception 28 [some (.ref 4), some (.int (iZ s)), some (.int (iZ i)), some (.ref r2), some (.ref c14), some (.int (iZ p)), some (.int (iZ m))] [] (KF K14, zi J14, zj P14, RF R14, n14, s14) Q0 := by
      intro m28
      induction m28 using Nat.strongRecOn with
      | ind m28 ih28 =>
        intro m p hm28 hm hp hd
        refine z_iload dX8_exception_28 rfl ?_
        refine c_bipush dX8_exception_30 (by decide) ?_
        refine c_icmp_gt (tgt := 61) dX8_exception_32 (by decide) (by omega) (by omega) (fun h32 => ?_) (fun h32 => ?_)
        · refine c_bipush dX8_exception_61 (by decide) ?_
          refine c_ireturn dX8_exception_63 rfl ?_
          subst hQ0; unfold aException; rw [cif_pos (by omega), hd, show (101 - m).toNat = 0 by omega]; exact ⟨rfl, _, _, _, _, _, _, rfl, WD_mono hW14, cs_Ev hE14, fun a a1 a2 => hP14 a (by omega) a2⟩
        · refine z_aload dX8_exception_35 rfl ?_
          refine z_iload dX8_exception_37 rfl ?_
          refine c_iald dX8_exception_39 hD14.2.2.1.1 (by omega) (by decide) ?_
          have v14 := hT14.1 m.toNat (by omega)
          rw [v14.1]
          have hdd : excD (cF (A 44 s.toNat) (eE A s)) i (101 - m).toNat p = if (cF (A 44 s.toNat) (eE A s)) m.toNat = 0 then (if p = i then m else excD (cF (A 44 s.toNat) (eE A s)) i (101 - (m + 1)).toNat (p + 1)) else excD (cF (A 44 s.toNat) (eE A s)) i (101 - (m + 1)).toNat p := by
            rw [show (101 - m).toNat = (101 - (m + 1)).toNat + 1 by omega, excD, show 100 - (101 - (m + 1)).toNat = m.toNat by omega, Int.toNat_of_nonneg (by omega)]
          refine c_if_ne (tgt := 55) dX8_exception_40 (by decide) (by omega) (fun h40 => ?_) (fun h40 => ?_)
          · refine c_iinc dX8_exception_55 rfl (by decide) rfl ?_
            refine z_goto (tgt := 28) dX8_exception_58 (by decide) ?_
            exact Z.fg2 (ih28 _ (by omega) _ _ rfl (by omega) (by omega) (by first | (rw [hd, hdd, if_neg (by omega)]; done) | (rw [hd, hdd, if_pos (by omega), if_neg (by omega)]; done))) (zs1 rfl (zs1 rfl (zs1 rfl (zs1 rfl (zs1 rfl (zs1 rfl (zs1 rfl zs0)))))))
          · refine z_iload dX8_exception_43 rfl ?_
            refine z_iload_n dX8_exception_45 rfl rfl ?_
            refine c_icmp_ne (tgt := 52) dX8_exception_46 (by decide) (by omega) (by omega) (fun h46 => ?_) (fun h46 => ?_)
            · refine c_iinc dX8_exception_52 rfl (by decide) rfl ?_
              refine c_iinc dX8_exception_55 rfl (by decide) rfl ?_
              refine z_goto (tgt := 28) dX8_exception_58 (by decide) ?_
              exact Z.fg2 (ih28 _ (by omega) _ _ rfl (by omega) (by omega) (by first | (rw [hd, hdd, if_neg (by omega)]; done) | (rw [hd, hdd, if_pos (by omega), if_neg (by omega)]; done))) (zs1 rfl (zs1 rfl (zs1 rfl (zs1 rfl (zs1 rfl (zs1 rfl (zs1 rfl zs0)))))))
            · refine z_iload dX8_exception_49 rfl ?_
              refine c_ireturn dX8_exception_51 rfl ?_
              subst hQ0; unfold aException; rw [cif_pos (by omega), hd, hdd, if_pos (by omega), if_pos (by omega)]; exact ⟨rfl, _, _, _, _, _, _, rfl, WD_mono hW14, cs_Ev hE14, fun a a1 a2 => hP14 a (by omega) a2⟩
    exact Z.fg2 (L28 _ _ _ rfl (by omega) (by omega) rfl) (zs1 rfl (zs1 rfl (zs1 rfl (zs1 rfl (zs1 rfl (zs1 rfl (zs1 rfl zs0)))))))
set_option maxHeartbeats 4000000 in
set_option maxRecDepth 100000 in
theorem cMX8_exceptions {s m w : Int} (hs : rI s) (hm : rI m) (hw : rI w) (hW : WD A c Kd J Rd n s0) : ZC g l MX8_exceptions [.ref 4, .int (iZ s), .int (iZ m), .int (iZ w)] (KF Kd, zi J, zj P, RF Rd, n, s0) (PW A (c + 1) J P (.int (iZ (aExceptions A s m w)))) := by
  refine ZC.of (by decide) (Nat.le_of_ble_eq_true rfl) ?_
  generalize hQ0 : (PW A (c + 1) J P (.int (iZ (aExceptions A s m w))) : Option Value → ZH → Prop) = Q0
  show Z g l MX8_exceptions 0 [some (.ref 4), some (.int (iZ s)), some (.int (iZ m)), some (.int (iZ w)), none, none, none, none, none, none] [] (KF Kd, zi J, zj P, RF Rd, n, s0) Q0
  refine z_aload_n dX8_exceptions_0 rfl rfl ?_
  refine z_iload_n dX8_exceptions_1 rfl rfl ?_
  refine z_callv (N := MX8_held) (ci := 8) (nas := 1) (as := [_]) dX8_exceptions_2 w_333 w_330 w_332 ws_2 w_1 (by decide +kernel) rfl rfl rfl (by decide) (Nat.le_of_ble_eq_true rfl) (by decide) (by decide) (ZC.mono (cMX8_held (by omega) hW) ?_)
  rintro _ _ ⟨rfl, hd2⟩
  rcases hd2 with ⟨hf2, rfl⟩ | ⟨hf2, r2, rfl, hr2⟩
  · skip
    refine z_astoreN dX8_exceptions_5 (by decide) rfl ?_
    refine z_aloadN dX8_exceptions_7 rfl ?_
    refine z_ifnullN (tgt := 32) dX8_exceptions_9 (by decide) ?_
    refine c_iconst dX8_exceptions_32 ?_
    refine c_ireturn dX8_exceptions_33 rfl ?_
    subst hQ0; unfold aExceptions; rw [cif_neg (by omega)]; exact PW_id hW
  · have hK2 := FA_K1 hr2.1
    have hE2 := WD_ent hW hr2.1
    have hF2 := FA_okF hW hr2
    have hl2 := hF2.2.1
    refine z_astore dX8_exceptions_5 (by decide) rfl ?_
    refine z_aload dX8_exceptions_7 rfl ?_
    refine z_ifnull dX8_exceptions_9 ?_
    refine z_iload_n dX8_exceptions_12 rfl rfl ?_
    refine c_iconst dX8_exceptions_13 ?_
    refine c_icmp_lt (tgt := 32) dX8_exceptions_14 (by decide) (by omega) (by omega) (fun h14 => ?_) (fun h14 => ?_)
    · refine c_iconst dX8_exceptions_32 ?_
      refine c_ireturn dX8_exceptions_33 rfl ?_
      subst hQ0; unfold aExceptions; rw [cif_neg (by omega)]; exact PW_id hW
    · refine z_iload_n dX8_exceptions_17 rfl rfl ?_
      refine c_bipush dX8_exceptions_18 (by decide) ?_
      refine c_icmp_gt (tgt := 32) dX8_exceptions_20 (by decide) (by omega) (by omega) (fun h20 => ?_) (fun h20 => ?_)
      · refine c_iconst dX8_exceptions_32 ?_
        refine c_ireturn dX8_exceptions_33 rfl ?_
        subst hQ0; unfold aExceptions; rw [cif_neg (by omega)]; exact PW_id hW
      · refine z_iload_n dX8_exceptions_23 rfl rfl ?_
        refine c_if_lt (tgt := 32) dX8_exceptions_24 (by decide) (by omega) (fun h24 => ?_) (fun h24 => ?_)
        · refine c_iconst dX8_exceptions_32 ?_
          refine c_ireturn dX8_exceptions_33 rfl ?_
          subst hQ0; unfold aExceptions; rw [cif_neg (by omega)]; exact PW_id hW
        · refine z_iload_n dX8_exceptions_27 rfl rfl ?_
          refine c_iconst dX8_exceptions_28 ?_
          refine c_icmp_le (tgt := 34) dX8_exceptions_29 (by decide) (by omega) (by omega) (fun h29 => ?_) (fun h29 => ?_)
          · refine z_aload_n dX8_exceptions_34 rfl rfl ?_
            refine z_aload dX8_exceptions_35 rfl ?_
            refine z_callv (N := MX8_takenBy) (ci := 8) (nas := 1) (as := [_]) dX8_exceptions_37 w_445 w_442 w_444 ws_3 w_1 (by decide +kernel) rfl rfl rfl (by decide) (Nat.le_of_ble_eq_true rfl) (by decide) (by decide) (ZC.mono (cMX8_takenBy hr2.1 hW) ?_)
            rintro _ _ ⟨K37, J37, P37, R37, n37, s37, t37, c37, f37, rfl, rfl, hW37, hE37, hD37, hk37, hP37⟩
            have hT37 := TK_pub hr2 hF2 hD37
            refine z_getR (ci := 6) (kf := 0) dX8_exceptions_40 hD37.1.1 (by decide) (by decide) rfl w_484 hD37.1.2.1 ?_
            refine z_astore dX8_exceptions_43 (by decide) rfl ?_
            refine c_iconst dX8_exceptions_45 ?_
            refine z_istore dX8_exceptions_46 (by decide) rfl ?_
            refine c_iconst dX8_exceptions_48 ?_
            refine z_istore dX8_exceptions_49 (by decide) rfl ?_
            refine c_iconst dX8_exceptions_51 ?_
            refine z_istore dX8_exceptions_52 (by decide) rfl ?_
            refine c_iconst dX8_exceptions_54 ?_
            refine z_istore dX8_exceptions_55 (by decide) rfl ?_
            have L57 : ∀ (m57 : Nat), ∀ (k a b gg : Int) (K1 : ZK) (J1 : Nat → Nat → Int) (R1 : ZR) (n1 s1 : Nat), (m + 1 - k).toNat = m57 → (1 ≤ k ∧ k ≤ m + 1) → (a = exN (cF (A 44 s.toNat) (eE A s)) (k - 1).toNat) → (w = 1 → b = exB (cF (A 44 s.toNat) (eE A s)) (barS (A 44 s.toNat) (eE A s)) (k - 1).toNat) → (gg = exG (cF (A 44 s.toNat) (eE A s)) (k - 1).toNat) → (WD A c K1 J1 R1 n1 s1) → (Ev Kd J Rd n K1 J1 R1 n1) → (K1 c37 = (1, 101) ∧ 66 ≤ c37 ∧ c37 < n1 ∧ ∀ m : Nat, m ≤ 100 → J1 c37 m = (cF (A 44 s.toNat) (eE A s)) m ∧ 0 ≤ (cF (A 44 s.toNat) (eE A s)) m ∧ (cF (A 44 s.toNat) (eE A s)) m ≤ 2000000) → Z g l MX8_exceptions 57 [some (.ref 4), some (.int (iZ s)), some (.int (iZ m)), some (.int (iZ w)), some (.ref r2), some (.ref c37), some (.int (iZ a)), some (.int (iZ b)), some (.int (iZ gg)), some (.int (iZ k))] [] (KF K1, zi J1, zj P37, RF R1, n1, s1) Q0 := by
              intro m57
              induction m57 using Nat.strongRecOn with
              | ind m57 ih57 =>
                intro k a b gg K1 J1 R1 n1 s1 hm57 hk ha hb0 hgg hW1 hE1 hc1
                refine z_iload dX8_exceptions_57 rfl ?_
                refine z_iload_n dX8_exceptions_59 rfl rfl ?_
                refine c_icmp_gt (tgt := 105) dX8_exceptions_60 (by decide) (by omega) (by omega) (fun h60 => ?_) (fun h60 => ?_)
                · refine z_iload_n dX8_exceptions_105 rfl rfl ?_
                  refine c_if_ne (tgt := 114) dX8_exceptions_106 (by decide) (by omega) (fun h106 => ?_) (fun h106 => ?_)
                  · refine z_iload_n dX8_exceptions_114 rfl rfl ?_
                    refine c_iconst dX8_exceptions_115 ?_
                    refine c_icmp_ne (tgt := 124) dX8_exceptions_116 (by decide) (by omega) (by omega) (fun h116 => ?_) (fun h116 => ?_)
                    · refine z_iload dX8_exceptions_124 rfl ?_
                      refine c_ireturn dX8_exceptions_126 rfl ?_
                      subst hQ0; unfold aExceptions; rw [cif_pos (by omega)]; have ekm : (k - 1).toNat = m.toNat := (by omega); rw [ekm] at ha hb0 hgg; first | (rw [if_pos (by omega), ← ha]; exact ⟨rfl, _, _, _, _, _, _, rfl, WD_mono hW1, cs_Ev hE1, fun a a1 a2 => hP37 a (by omega) a2⟩) | (rw [if_neg (by omega), if_pos (by omega), ← hb0 (by omega)]; exact ⟨rfl, _, _, _, _, _, _, rfl, WD_mono hW1, cs_Ev hE1, fun a a1 a2 => hP37 a (by omega) a2⟩) | (rw [if_neg (by omega), if_neg (by omega), ← hgg]; exact ⟨rfl, _, _, _, _, _, _, rfl, WD_mono hW1, cs_Ev hE1, fun a a1 a2 => hP37 a (by omega) a2⟩)
                    · refine z_iload dX8_exceptions_119 rfl ?_
                      refine z_goto (tgt := 126) dX8_exceptions_121 (by decide) ?_
                      refine c_ireturn dX8_exceptions_126 rfl ?_
                      subst hQ0; unfold aExceptions; rw [cif_pos (by omega)]; have ekm : (k - 1).toNat = m.toNat := (by omega); rw [ekm] at ha hb0 hgg; first | (rw [if_pos (by omega), ← ha]; exact ⟨rfl, _, _, _, _, _, _, rfl, WD_mono hW1, cs_Ev hE1, fun a a1 a2 => hP37 a (by omega) a2⟩) | (rw [if_neg (by omega), if_pos (by omega), ← hb0 (by omega)]; exact ⟨rfl, _, _, _, _, _, _, rfl, WD_mono hW1, cs_Ev hE1, fun a a1 a2 => hP37 a (by omega) a2⟩) | (rw [if_neg (by omega), if_neg (by omega), ← hgg]; exact ⟨rfl, _, _, _, _, _, _, rfl, WD_mono hW1, cs_Ev hE1, fun a a1 a2 => hP37 a (by omega) a2⟩)
                  · refine z_iload dX8_exceptions_109 rfl ?_
                    refine z_goto (tgt := 126) dX8_exceptions_111 (by decide) ?_
                    refine c_ireturn dX8_exceptions_126 rfl ?_
                    subst hQ0; unfold aExceptions; rw [cif_pos (by omega)]; have ekm : (k - 1).toNat = m.toNat := (by omega); rw [ekm] at ha hb0 hgg; first | (rw [if_pos (by omega), ← ha]; exact ⟨rfl, _, _, _, _, _, _, rfl, WD_mono hW1, cs_Ev hE1, fun a a1 a2 => hP37 a (by omega) a2⟩) | (rw [if_neg (by omega), if_pos (by omega), ← hb0 (by omega)]; exact ⟨rfl, _, _, _, _, _, _, rfl, WD_mono hW1, cs_Ev hE1, fun a a1 a2 => hP37 a (by omega) a2⟩) | (rw [if_neg (by omega), if_neg (by omega), ← hgg]; exact ⟨rfl, _, _, _, _, _, _, rfl, WD_mono hW1, cs_Ev hE1, fun a a1 a2 => hP37 a (by omega) a2⟩)
                · refine z_aload dX8_exceptions_63 rfl ?_
                  refine z_iload dX8_exceptions_65 rfl ?_
                  refine c_iald dX8_exceptions_67 (by rw [KF_dyn hc1.2.1]; exact hc1.1) (by omega) (by decide) ?_
                  have v1 := hc1.2.2.2 k.toNat (by omega)
                  rw [v1.1]
                  have ek : k.toNat = (k - 1).toNat + 1 := by omega
                  have x1 : exN (cF (A 44 s.toNat) (eE A s)) k.toNat = if (cF (A 44 s.toNat) (eE A s)) k.toNat = 0 then exN (cF (A 44 s.toNat) (eE A s)) (k - 1).toNat + 1 else exN (cF (A 44 s.toNat) (eE A s)) (k - 1).toNat := by rw [ek, exN]
                  have x2 : exB (cF (A 44 s.toNat) (eE A s)) (barS (A 44 s.toNat) (eE A s)) k.toNat = if (cF (A 44 s.toNat) (eE A s)) k.toNat = 0 then exB (cF (A 44 s.toNat) (eE A s)) (barS (A 44 s.toNat) (eE A s)) (k - 1).toNat + (if 0 < (barS (A 44 s.toNat) (eE A s)) k then 1 else 0) else exB (cF (A 44 s.toNat) (eE A s)) (barS (A 44 s.toNat) (eE A s)) (k - 1).toNat := by rw [ek, exB, ← ek, Int.toNat_of_nonneg (by omega)]
                  have x3 : exG (cF (A 44 s.toNat) (eE A s)) k.toNat = if (cF (A 44 s.toNat) (eE A s)) k.toNat = 0 then k else exG (cF (A 44 s.toNat) (eE A s)) (k - 1).toNat := by rw [ek, exG, ← ek, Int.toNat_of_nonneg (by omega)]
                  refine c_if_ne (tgt := 99) dX8_exceptions_68 (by decide) (by omega) (fun h68 => ?_) (fun h68 => ?_)
                  · refine c_iinc dX8_exceptions_99 rfl (by decide) rfl ?_
                    refine z_goto (tgt := 57) dX8_exceptions_102 (by decide) ?_
                    exact Z.fg2 (ih57 _ (by omega) _ _ _ _ _ _ _ _ _ rfl (by omega) (by rw [show (k + 1 - 1).toNat = k.toNat by omega, x1]; first | (rw [if_neg (by omega)]; exact ha) | (rw [if_pos (by omega), ha])) (fun hw1 => by rw [show (k + 1 - 1).toNat = k.toNat by omega, x2]; first | (rw [if_neg (by omega)]; exact hb0 hw1) | (exfalso; omega) | (rw [if_pos (by omega), hb0 hw1]; split at h93 <;> first | (exfalso; omega) | (rw [if_neg (by omega)]; omega) | (rw [if_pos (by omega)]))) (by rw [show (k + 1 - 1).toNat = k.toNat by omega, x3]; first | (rw [if_neg (by omega)]; exact hgg) | (rw [if_pos (by omega)])) (by first | exact hW2 | exact hW1) (by first | exact Ev_trans hE1 hE2 | exact hE1) (by first | exact hc2 | exact hc1)) (zs1 rfl (zs1 rfl (zs1 rfl (zs1 rfl (zs1 rfl (zs1 rfl (zs1 rfl (zs1 rfl (zs1 rfl (zs1 rfl zs0))))))))))
                  · refine c_iinc dX8_exceptions_71 rfl (by decide) rfl ?_
                    refine z_iload dX8_exceptions_74 rfl ?_
                    refine z_istore dX8_exceptions_76 (by decide) rfl ?_
                    refine z_iload_n dX8_exceptions_78 rfl rfl ?_
                    refine c_iconst dX8_exceptions_79 ?_
                    refine c_icmp_ne (tgt := 99) dX8_exceptions_80 (by decide) (by omega) (by omega) (fun h80 => ?_) (fun h80 => ?_)
                    · refine c_iinc dX8_exceptions_99 rfl (by decide) rfl ?_
                      refine z_goto (tgt := 57) dX8_exceptions_102 (by decide) ?_
                      exact Z.fg2 (ih57 _ (by omega) _ _ _ _ _ _ _ _ _ rfl (by omega) (by rw [show (k + 1 - 1).toNat = k.toNat by omega, x1]; first | (rw [if_neg (by omega)]; exact ha) | (rw [if_pos (by omega), ha])) (fun hw1 => by rw [show (k + 1 - 1).toNat = k.toNat by omega, x2]; first | (rw [if_neg (by omega)]; exact hb0 hw1) | (exfalso; omega) | (rw [if_pos (by omega), hb0 hw1]; split at h93 <;> first | (exfalso; omega) | (rw [if_neg (by omega)]; omega) | (rw [if_pos (by omega)]))) (by rw [show (k + 1 - 1).toNat = k.toNat by omega, x3]; first | (rw [if_neg (by omega)]; exact hgg) | (rw [if_pos (by omega)])) (by first | exact hW2 | exact hW1) (by first | exact Ev_trans hE1 hE2 | exact hE1) (by first | exact hc2 | exact hc1)) (zs1 rfl (zs1 rfl (zs1 rfl (zs1 rfl (zs1 rfl (zs1 rfl (zs1 rfl (zs1 rfl (zs1 rfl (zs1 rfl zs0))))))))))
                    · refine z_aload_n dX8_exceptions_83 rfl rfl ?_
                      refine z_aload dX8_exceptions_84 rfl ?_
                      refine z_iload dX8_exceptions_86 rfl ?_
                      refine z_callv (N := MX8_barrierOf) (ci := 8) (nas := 2) (as := [_, _]) dX8_exceptions_88 w_515 w_512 w_514 ws_7 w_1 (by decide +kernel) rfl rfl rfl (by decide) (Nat.le_of_ble_eq_true rfl) (by decide) (by decide) (ZC.mono (cMX8_barrierOf (Ev_isF hE1 hr2.1) (by omega) hW1) ?_)
                      rintro _ _ ⟨K2, J2, R2, n2, s2, rfl, rfl, hW2, hE2, hk2⟩
                      have hf1 := Ev_FA hE1 hr2
                      rw [hf1.2.1, barS_cg (F := eE A s) (fun q hq => hf1.2.2 q hq)]
                      have hbb : 0 ≤ (barS (A 44 s.toNat) (eE A s)) k ∧ (barS (A 44 s.toNat) (eE A s)) k ≤ 16 := barD_bd _ _ _ (by decide)
                      have hc2 : K2 c37 = (1, 101) ∧ 66 ≤ c37 ∧ c37 < n2 ∧ ∀ m : Nat, m ≤ 100 → J2 c37 m = (cF (A 44 s.toNat) (eE A s)) m ∧ 0 ≤ (cF (A 44 s.toNat) (eE A s)) m ∧ (cF (A 44 s.toNat) (eE A s)) m ≤ 2000000 := by
                        have q := hk2 c37 hc1.2.1 hc1.2.2.1
                        refine ⟨q.1.trans hc1.1, hc1.2.1, by have := hE2.1; have := hc1.2.2.1; omega, fun m hm => ?_⟩
                        rw [q.2 (by rw [hc1.1]; simp)]; exact hc1.2.2.2 m hm
                      refine c_bipush dX8_exceptions_91 (by decide) ?_
                      refine c_icmp_eq (tgt := 99) dX8_exceptions_93 (by decide) (by split <;> omega) (by omega) (fun h93 => ?_) (fun h93 => ?_)
                      · refine c_iinc dX8_exceptions_99 rfl (by decide) rfl ?_
                        refine z_goto (tgt := 57) dX8_exceptions_102 (by decide) ?_
                        exact Z.fg2 (ih57 _ (by omega) _ _ _ _ _ _ _ _ _ rfl (by omega) (by rw [show (k + 1 - 1).toNat = k.toNat by omega, x1]; first | (rw [if_neg (by omega)]; exact ha) | (rw [if_pos (by omega), ha])) (fun hw1 => by rw [show (k + 1 - 1).toNat = k.toNat by omega, x2]; first | (rw [if_neg (by omega)]; exact hb0 hw1) | (exfalso; omega) | (rw [if_pos (by omega), hb0 hw1]; split at h93 <;> first | (exfalso; omega) | (rw [if_neg (by omega)]; omega) | (rw [if_pos (by omega)]))) (by rw [show (k + 1 - 1).toNat = k.toNat by omega, x3]; first | (rw [if_neg (by omega)]; exact hgg) | (rw [if_pos (by omega)])) (by first | exact hW2 | exact hW1) (by first | exact Ev_trans hE1 hE2 | exact hE1) (by first | exact hc2 | exact hc1)) (zs1 rfl (zs1 rfl (zs1 rfl (zs1 rfl (zs1 rfl (zs1 rfl (zs1 rfl (zs1 rfl (zs1 rfl (zs1 rfl zs0))))))))))
                      · refine c_iinc dX8_exceptions_96 rfl (by decide) rfl ?_
                        refine c_iinc dX8_exceptions_99 rfl (by decide) rfl ?_
                        refine z_goto (tgt := 57) dX8_exceptions_102 (by decide) ?_
                        exact Z.fg2 (ih57 _ (by omega) _ _ _ _ _ _ _ _ _ rfl (by omega) (by rw [show (k + 1 - 1).toNat = k.toNat by omega, x1]; first | (rw [if_neg (by omega)]; exact ha) | (rw [if_pos (by omega), ha])) (fun hw1 => by rw [show (k + 1 - 1).toNat = k.toNat by omega, x2]; first | (rw [if_neg (by omega)]; exact hb0 hw1) | (exfalso; omega) | (rw [if_pos (by omega), hb0 hw1]; split at h93 <;> first | (exfalso; omega) | (rw [if_neg (by omega)]; omega) | (rw [if_pos (by omega)]))) (by rw [show (k + 1 - 1).toNat = k.toNat by omega, x3]; first | (rw [if_neg (by omega)]; exact hgg) | (rw [if_pos (by omega)])) (by first | exact hW2 | exact hW1) (by first | exact Ev_trans hE1 hE2 | exact hE1) (by first | exact hc2 | exact hc1)) (zs1 rfl (zs1 rfl (zs1 rfl (zs1 rfl (zs1 rfl (zs1 rfl (zs1 rfl (zs1 rfl (zs1 rfl (zs1 rfl zs0))))))))))
            exact Z.fg2 (L57 _ 1 0 0 0 _ _ _ _ _ rfl (by omega) rfl (fun _ => rfl) rfl hW37 hE37 ⟨(KF_dyn hD37.2.2.1.2.1).symm.trans hD37.2.2.1.1, hD37.2.2.1.2.1, hD37.2.2.1.2.2, hT37.1⟩) (zs1 rfl (zs1 rfl (zs1 rfl (zs1 rfl (zs1 rfl (zs1 rfl (zs1 rfl (zs1 rfl (zs1 rfl (zs1 rfl zs0))))))))))
          · refine c_iconst dX8_exceptions_32 ?_
            refine c_ireturn dX8_exceptions_33 rfl ?_
            subst hQ0; unfold aExceptions; rw [cif_neg (by omega)]; exact PW_id hW
end Cls18
