section Cls3
variable {g : ZG} {l : Launch} {Kd : ZK} {Rd : ZR} {n s0 : Nat} {J P : Nat → Nat → Int}
set_option maxHeartbeats 4000000 in
set_option maxRecDepth 100000 in
theorem cMX1_reduceOnce {nl : Int} {E : Nat → Int} (hn : 1 ≤ nl ∧ nl ≤ 4) (hg : gdF nl E) : ZC g l MX1_reduceOnce [.ref 26] (KF Kd, zi (dput J nl E), zj P, RF Rd, n, s0) (fun rr hh => (nst nl E < 0 ∧ rr = some (.int (iZ 0)) ∧ hh = (KF Kd, zi (dput J nl E), zj P, RF Rd, n, s0)) ∨ (0 ≤ nst nl E ∧ rr = some (.int (iZ 1)) ∧ hh = (KF Kd, zi (dput J nl (red1 nl E (nst nl E).toNat)), zj P, RF Rd, n, s0))) := by
  refine ZC.of (by decide) (Nat.le_of_ble_eq_true rfl) ?_
  generalize hQ0 : (fun rr hh => (nst nl E < 0 ∧ rr = some (.int (iZ 0)) ∧ hh = (KF Kd, zi (dput J nl E), zj P, RF Rd, n, s0)) ∨ (0 ≤ nst nl E ∧ rr = some (.int (iZ 1)) ∧ hh = (KF Kd, zi (dput J nl (red1 nl E (nst nl E).toNat)), zj P, RF Rd, n, s0)) : Option Value → ZH → Prop) = Q0
  show Z g l MX1_reduceOnce 0 [some (.ref 26), none, none, none, none, none] [] (KF Kd, zi (dput J nl E), zj P, RF Rd, n, s0) Q0
  refine c_iconst dX1_reduceOnce_0 ?_
  refine z_istore_n dX1_reduceOnce_1 rfl (by decide) rfl ?_
  have L2 : ∀ (m2 : Nat), ∀ (i : Int), (nl - i).toNat = m2 → (0 ≤ i ∧ i ≤ nl) → (nst nl E = nstD nl E (16 - 4 * i).toNat) → Z g l MX1_reduceOnce 2 [some (.ref 26), some (.int (iZ i)), none, none, none, none] [] (KF Kd, zi (dput J nl E), zj P, RF Rd, n, s0) Q0 := by
    intro m2
    induction m2 using Nat.strongRecOn with
    | ind m2 ih2 =>
      intro i hm2 hi hS
      refine z_iload_n dX1_reduceOnce_2 rfl rfl ?_
      refine z_aload_n dX1_reduceOnce_3 rfl rfl ?_
      refine c_getI (ci := 1) (kf := 0) dX1_reduceOnce_4 rfl (by decide) (by decide) rfl w_78 ?_
      rw [dput_let]
      refine c_icmp_ge (tgt := 108) dX1_reduceOnce_7 (by decide) (by omega) (by omega) (fun h7 => ?_) (fun h7 => ?_)
      · refine c_iconst dX1_reduceOnce_108 ?_
        refine c_zreturn dX1_reduceOnce_109 rfl (by omega) ?_
        subst hQ0; refine Or.inl ⟨?_, rfl, rfl⟩
        rw [hS, nstD_none _ (by omega) (fun q a b z => by have := z.1; omega)]; omega
      · refine c_iconst dX1_reduceOnce_10 ?_
        refine z_istore_n dX1_reduceOnce_11 rfl (by decide) rfl ?_
        have L12 : ∀ (m12 : Nat), ∀ (j : Int), (nl - j).toNat = m12 → (0 ≤ j ∧ j ≤ nl) → (nst nl E = nstD nl E (16 - 4 * i - j).toNat) → Z g l MX1_reduceOnce 12 [some (.ref 26), some (.int (iZ i)), some (.int (iZ j)), none, none, none] [] (KF Kd, zi (dput J nl E), zj P, RF Rd, n, s0) Q0 := by
          intro m12
          induction m12 using Nat.strongRecOn with
          | ind m12 ih12 =>
            intro j hm12 hj hS2
            refine z_iload_n dX1_reduceOnce_12 rfl rfl ?_
            refine z_aload_n dX1_reduceOnce_13 rfl rfl ?_
            refine c_getI (ci := 1) (kf := 0) dX1_reduceOnce_14 rfl (by decide) (by decide) rfl w_78 ?_
            rw [dput_let]
            refine c_icmp_ge (tgt := 102) dX1_reduceOnce_17 (by decide) (by omega) (by omega) (fun h17 => ?_) (fun h17 => ?_)
            · refine c_iinc dX1_reduceOnce_102 rfl (by decide) rfl ?_
              refine z_goto (tgt := 2) dX1_reduceOnce_105 (by decide) ?_
              exact Z.fg2 (ih2 _ (by omega) _ rfl (by omega) (by rw [hS2, show (16 - 4 * i - j).toNat = (16 - 4 * (i + 1)).toNat + (4 - nl).toNat by omega]; exact nstD_row _ _ (by omega) (fun q a b z => by have := z.2.1; omega))) (zs1 rfl (zs1 rfl (zsn (zsn (zsn (zsn zs0))))))
            · refine z_aload_n dX1_reduceOnce_20 rfl rfl ?_
              refine z_iload_n dX1_reduceOnce_21 rfl rfl ?_
              refine z_iload_n dX1_reduceOnce_22 rfl rfl ?_
              refine z_callv (N := MX1_get) (ci := 1) (nas := 2) (as := [_, _]) dX1_reduceOnce_23 w_250 w_247 w_248 w_249 w_4 (by decide +kernel) rfl rfl rfl (by decide) (Nat.le_of_ble_eq_true rfl) (by decide) (by decide) (ZC.mono (cMX1_get (by omega) (by omega)) ?_)
              rintro _ _ ⟨rfl, rfl⟩
              have e26 := hg.1 (4 * i.toNat + j.toNat) (by omega)
              refine z_calls (N := MJ9_abs_0f7a4) (nas := 1) (as := [_]) dX1_reduceOnce_26 w_388 w_432 w_387 w_12 (by decide +kernel) rfl rfl (Nat.le_of_ble_eq_true rfl) (by decide) (by decide) (ZC.mono (cMJ9_abs_0f7a4 (by omega)) ?_)
              rintro _ _ ⟨rfl, rfl⟩
              refine z_istore_n dX1_reduceOnce_29 rfl (by decide) rfl ?_
              refine z_aload_n dX1_reduceOnce_30 rfl rfl ?_
              refine z_iload_n dX1_reduceOnce_31 rfl rfl ?_
              refine z_iload_n dX1_reduceOnce_32 rfl rfl ?_
              refine z_callv (N := MX1_get) (ci := 1) (nas := 2) (as := [_, _]) dX1_reduceOnce_33 w_250 w_247 w_248 w_249 w_4 (by decide +kernel) rfl rfl rfl (by decide) (Nat.le_of_ble_eq_true rfl) (by decide) (by decide) (ZC.mono (cMX1_get (by omega) (by omega)) ?_)
              rintro _ _ ⟨rfl, rfl⟩
              have e36 := hg.1 (4 * j.toNat + j.toNat) (by omega)
              have e37 : 1 ≤ E (4 * j.toNat + j.toNat) := by
                have h := (PDQ_two hg.2.2.2 (symT_pad hg.2.1) (i := j.toNat) (j := if j.toNat = 0 then 1 else 0) (by omega) (by split <;> omega) (by split <;> omega)).1
                rw [padT_in (by omega)] at h
                exact h
              refine z_istore dX1_reduceOnce_36 (by decide) rfl ?_
              refine z_iload_n dX1_reduceOnce_38 rfl rfl ?_
              refine z_iload_n dX1_reduceOnce_39 rfl rfl ?_
              refine c_icmp_eq (tgt := 96) dX1_reduceOnce_40 (by decide) (by omega) (by omega) (fun h40 => ?_) (fun h40 => ?_)
              · refine c_iinc dX1_reduceOnce_96 rfl (by decide) rfl ?_
                refine z_goto (tgt := 12) dX1_reduceOnce_99 (by decide) ?_
                exact Z.fg2 (ih12 _ (by omega) _ rfl (by omega) (by rw [hS2, show (16 - 4 * i - j).toNat = (16 - 4 * i - (j + 1)).toNat + 1 by omega]; refine nstD_skip (fun z => ?_); obtain ⟨z1, z2, z3, z4⟩ := z; rw [show 15 - (16 - 4 * i - (j + 1)).toNat = 4 * i.toNat + j.toNat by omega] at z3 z4; rw [show 5 * ((4 * i.toNat + j.toNat) % 4) = 4 * j.toNat + j.toNat by omega] at z4; omega)) (zs1 rfl (zs1 rfl (zs1 rfl (zsn (zsn (zsn zs0))))))
              · refine z_iload dX1_reduceOnce_43 rfl ?_
                refine c_if_le (tgt := 96) dX1_reduceOnce_45 (by decide) (by omega) (fun h45 => ?_) (fun h45 => ?_)
                · exact absurd h45 (by omega)
                · refine c_iconst dX1_reduceOnce_48 ?_
                  refine z_iload_n dX1_reduceOnce_49 rfl rfl ?_
                  refine c_imul dX1_reduceOnce_50 ?_
                  refine z_iload dX1_reduceOnce_51 rfl ?_
                  refine c_icmp_le (tgt := 96) dX1_reduceOnce_53 (by decide) (by omega) (by omega) (fun h53 => ?_) (fun h53 => ?_)
                  · refine c_iinc dX1_reduceOnce_96 rfl (by decide) rfl ?_
                    refine z_goto (tgt := 12) dX1_reduceOnce_99 (by decide) ?_
                    exact Z.fg2 (ih12 _ (by omega) _ rfl (by omega) (by rw [hS2, show (16 - 4 * i - j).toNat = (16 - 4 * i - (j + 1)).toNat + 1 by omega]; refine nstD_skip (fun z => ?_); obtain ⟨z1, z2, z3, z4⟩ := z; rw [show 15 - (16 - 4 * i - (j + 1)).toNat = 4 * i.toNat + j.toNat by omega] at z3 z4; rw [show 5 * ((4 * i.toNat + j.toNat) % 4) = 4 * j.toNat + j.toNat by omega] at z4; omega)) (zs1 rfl (zs1 rfl (zs1 rfl (zsn (zsn (zsn zs0))))))
                  · have hst : nst nl E = 4 * i + j := by
                      rw [hS2, show (16 - 4 * i - j).toNat = (16 - 4 * i - (j + 1)).toNat + 1 by omega, nstD_hit (by rw [show 15 - (16 - 4 * i - (j + 1)).toNat = 4 * i.toNat + j.toNat by omega]; exact ⟨by omega, by omega, by omega, by rw [show 5 * ((4 * i.toNat + j.toNat) % 4) = 4 * j.toNat + j.toNat by omega]; omega⟩)]; omega
                    have hq := nstD_spec nl E 16 (by omega)
                    have hq2 : stepB nl E (4 * i.toNat + j.toNat) := by
                      rw [show 4 * i.toNat + j.toNat = (nstD nl E 16).toNat by show _ = (nst nl E).toNat; omega]
                      rcases hq with hq | hq
                      · exfalso; have : nst nl E = -1 := hq
                        omega
                      · exact hq.2.2
                    have hbd := redC_bd (a := ((E (4 * i.toNat + j.toNat)).natAbs : Int)) (b := E (4 * j.toNat + j.toNat)) (by omega) (by omega) rfl
                    refine c_iconst dX1_reduceOnce_56 ?_
                    refine z_iload_n dX1_reduceOnce_57 rfl rfl ?_
                    refine c_imul dX1_reduceOnce_58 ?_
                    refine z_iload dX1_reduceOnce_59 rfl ?_
                    refine c_iadd dX1_reduceOnce_61 ?_
                    refine c_iconst dX1_reduceOnce_62 ?_
                    refine c_isub dX1_reduceOnce_63 ?_
                    refine c_iconst dX1_reduceOnce_64 ?_
                    refine z_iload dX1_reduceOnce_65 rfl ?_
                    refine c_imul dX1_reduceOnce_67 ?_
                    refine c_idiv dX1_reduceOnce_68 (by omega) (by omega) (by omega) (by omega) ?_
                    refine z_istore dX1_reduceOnce_69 (by decide) rfl ?_
                    have L91 : ∀ (c : Int), (c = redC E (4 * i.toNat + j.toNat)) → Z g l MX1_reduceOnce 91 [some (.ref 26), some (.int (iZ i)), some (.int (iZ j)), none, none, none] [.int (iZ c), .int (iZ j), .int (iZ i), .ref 26] (KF Kd, zi (dput J nl E), zj P, RF Rd, n, s0) Q0 := by
                      intro c hc
                      have hcE : chgE E nl.toNat i.toNat j.toNat c = red1 nl E (nst nl E).toNat := by
                        unfold red1; rw [show (nst nl E).toNat = 4 * i.toNat + j.toNat by omega, hc, show (4 * i.toNat + j.toNat) / 4 = i.toNat by omega, show (4 * i.toNat + j.toNat) % 4 = j.toNat by omega]
                      refine z_callv (N := MX1_addLetter) (ci := 1) (nas := 3) (as := [_, _, _]) dX1_reduceOnce_91 w_397 w_433 w_395 w_396 w_4 (by decide +kernel) rfl rfl rfl (by decide) (Nat.le_of_ble_eq_true rfl) (by decide) (by decide) (ZC.mono (cMX1_addLetter (by omega) (by omega) (by omega) (by omega)) ?_)
                      rintro _ _ ⟨rfl, rfl⟩
                      refine c_iconst dX1_reduceOnce_94 ?_
                      refine c_zreturn dX1_reduceOnce_95 rfl (by omega) ?_
                      subst hQ0; refine Or.inr ⟨by omega, rfl, ?_⟩; rw [hcE]
                    refine z_aload_n dX1_reduceOnce_71 rfl rfl ?_
                    refine z_iload_n dX1_reduceOnce_72 rfl rfl ?_
                    refine z_iload_n dX1_reduceOnce_73 rfl rfl ?_
                    refine z_aload_n dX1_reduceOnce_74 rfl rfl ?_
                    refine z_iload_n dX1_reduceOnce_75 rfl rfl ?_
                    refine z_iload_n dX1_reduceOnce_76 rfl rfl ?_
                    refine z_callv (N := MX1_get) (ci := 1) (nas := 2) (as := [_, _]) dX1_reduceOnce_77 w_250 w_247 w_248 w_249 w_4 (by decide +kernel) rfl rfl rfl (by decide) (Nat.le_of_ble_eq_true rfl) (by decide) (by decide) (ZC.mono (cMX1_get (by omega) (by omega)) ?_)
                    rintro _ _ ⟨rfl, rfl⟩
                    refine c_if_le (tgt := 89) dX1_reduceOnce_80 (by decide) (by omega) (fun h80 => ?_) (fun h80 => ?_)
                    · refine z_iload dX1_reduceOnce_89 rfl ?_
                      exact Z.fg2 (L91 _ (by unfold redC; rw [show 5 * ((4 * i.toNat + j.toNat) % 4) = 4 * j.toNat + j.toNat by omega]; first | rw [if_neg (by omega)] | rw [if_pos (by omega)])) (zs1 rfl (zs1 rfl (zs1 rfl (zsn (zsn (zsn zs0))))))
                    · refine z_iload dX1_reduceOnce_83 rfl ?_
                      refine c_ineg dX1_reduceOnce_85 ?_
                      refine z_goto (tgt := 91) dX1_reduceOnce_86 (by decide) ?_
                      exact Z.fg2 (L91 _ (by unfold redC; rw [show 5 * ((4 * i.toNat + j.toNat) % 4) = 4 * j.toNat + j.toNat by omega]; first | rw [if_neg (by omega)] | rw [if_pos (by omega)])) (zs1 rfl (zs1 rfl (zs1 rfl (zsn (zsn (zsn zs0))))))
        exact Z.fg2 (L12 _ _ rfl (by omega) (by rw [hS]; congr 1; omega)) (zs1 rfl (zs1 rfl (zs1 rfl (zsn (zsn (zsn zs0))))))
  exact Z.fg2 (L2 _ _ rfl (by omega) rfl) (zs1 rfl (zs1 rfl (zsn (zsn (zsn (zsn zs0))))))
set_option maxHeartbeats 4000000 in
set_option maxRecDepth 100000 in
theorem cMX1_isInRange {nl : Int} {E : Nat → Int} (hR : ∀ k, k < 16 → rI (E k)) : ZC g l MX1_isInRange [.ref 26] (KF Kd, zi (dput J nl E), zj P, RF Rd, n, s0) (fun rr hh => ∃ b : Int, hh = (KF Kd, zi (dput J nl E), zj P, RF Rd, n, s0) ∧ rr = some (.int (iZ b)) ∧ (b = 1 ∧ entS E ∨ b = 0 ∧ ¬ entS E)) := by
  refine ZC.of (by decide) (Nat.le_of_ble_eq_true rfl) ?_
  generalize hQ0 : (fun rr hh => ∃ b : Int, hh = (KF Kd, zi (dput J nl E), zj P, RF Rd, n, s0) ∧ rr = some (.int (iZ b)) ∧ (b = 1 ∧ entS E ∨ b = 0 ∧ ¬ entS E) : Option Value → ZH → Prop) = Q0
  show Z g l MX1_isInRange 0 [some (.ref 26), none] [] (KF Kd, zi (dput J nl E), zj P, RF Rd, n, s0) Q0
  refine c_iconst dX1_isInRange_0 ?_
  refine z_istore_n dX1_isInRange_1 rfl (by decide) rfl ?_
  have L2 : ∀ (m2 : Nat), ∀ (i : Int), (16 - i).toNat = m2 → (0 ≤ i ∧ i ≤ 16) → (∀ q : Nat, (q : Int) < i → -99 ≤ E q ∧ E q ≤ 99) → Z g l MX1_isInRange 2 [some (.ref 26), some (.int (iZ i))] [] (KF Kd, zi (dput J nl E), zj P, RF Rd, n, s0) Q0 := by
    intro m2
    induction m2 using Nat.strongRecOn with
    | ind m2 ih2 =>
      intro i hm2 hi hS
      refine z_iload_n dX1_isInRange_2 rfl rfl ?_
      refine z_aload_n dX1_isInRange_3 rfl rfl ?_
      refine z_getR (ci := 1) (kf := 1) dX1_isInRange_4 rfl (by decide) (by decide) rfl w_81 rfl ?_
      refine c_alen dX1_isInRange_7 rfl (by decide) ?_
      refine c_icmp_ge (tgt := 41) dX1_isInRange_8 (by decide) (by omega) (by omega) (fun h8 => ?_) (fun h8 => ?_)
      · refine c_iconst dX1_isInRange_41 ?_
        refine c_zreturn dX1_isInRange_42 rfl (by omega) ?_
        subst hQ0; exact ⟨1, rfl, rfl, Or.inl ⟨rfl, fun q hq => hS q (by omega)⟩⟩
      · refine z_aload_n dX1_isInRange_11 rfl rfl ?_
        refine z_getR (ci := 1) (kf := 1) dX1_isInRange_12 rfl (by decide) (by decide) rfl w_81 rfl ?_
        refine z_iload_n dX1_isInRange_15 rfl rfl ?_
        have e16 := hR i.toNat (by omega)
        refine c_iald dX1_isInRange_16 rfl (by omega) (by decide) ?_
        rw [dput_in (by omega)]
        refine c_bipush dX1_isInRange_17 (by decide) ?_
        refine c_icmp_lt (tgt := 33) dX1_isInRange_19 (by decide) (by omega) (by omega) (fun h19 => ?_) (fun h19 => ?_)
        · refine c_iconst dX1_isInRange_33 ?_
          refine c_zreturn dX1_isInRange_34 rfl (by omega) ?_
          subst hQ0; refine ⟨0, rfl, rfl, Or.inr ⟨rfl, fun hl => ?_⟩⟩; have := hl i.toNat (by omega); omega
        · refine z_aload_n dX1_isInRange_22 rfl rfl ?_
          refine z_getR (ci := 1) (kf := 1) dX1_isInRange_23 rfl (by decide) (by decide) rfl w_81 rfl ?_
          refine z_iload_n dX1_isInRange_26 rfl rfl ?_
          refine c_iald dX1_isInRange_27 rfl (by omega) (by decide) ?_
          rw [dput_in (by omega)]
          refine c_bipush dX1_isInRange_28 (by decide) ?_
          refine c_icmp_le (tgt := 35) dX1_isInRange_30 (by decide) (by omega) (by omega) (fun h30 => ?_) (fun h30 => ?_)
          · refine c_iinc dX1_isInRange_35 rfl (by decide) rfl ?_
            refine z_goto (tgt := 2) dX1_isInRange_38 (by decide) ?_
            exact Z.fg2 (ih2 _ (by omega) _ rfl (by omega) (fun q hq => by by_cases hqk : (q : Int) < i; exact hS q hqk; (rw [show q = i.toNat by omega]; omega))) (zs1 rfl (zs1 rfl zs0))
          · refine c_iconst dX1_isInRange_33 ?_
            refine c_zreturn dX1_isInRange_34 rfl (by omega) ?_
            subst hQ0; refine ⟨0, rfl, rfl, Or.inr ⟨rfl, fun hl => ?_⟩⟩; have := hl i.toNat (by omega); omega
  exact Z.fg2 (L2 _ _ rfl (by omega) (fun q hq => absurd hq (by omega))) (zs1 rfl (zs1 rfl zs0))
set_option maxHeartbeats 4000000 in
set_option maxRecDepth 100000 in
theorem cMX1_eliminateBehind {q c last : Int} {T : Nat → Nat → Int} (hq : 0 ≤ q ∧ q < c ∧ c ≤ 4) (hl : rL last ∧ last ≠ 0) (hT : ∀ r s : Nat, q ≤ (r : Int) → r ≤ s → (s : Int) < c → P 28 (4 * r + s) = T r s) (hY : ∀ r s : Nat, q ≤ (r : Int) → (r : Int) < c → q ≤ (s : Int) → (s : Int) < c → T r s = T s r) (hB : q + 1 < c → ∀ r s : Nat, q ≤ (r : Int) → r ≤ s → (s : Int) < c → -2147483647 ≤ T r s ∧ T r s ≤ 2147483647) : ZC g l MX1_eliminateBehind [.ref 26, .int (iZ q), .int (iZ c), .long (lZ last)] (KF Kd, zi J, zj P, RF Rd, n, s0) (fun rr hh => rr = none ∧ ∃ P', hh = (KF Kd, zi J, zj P', RF Rd, n, s0) ∧ (∀ r s : Nat, q < (r : Int) → r ≤ s → (s : Int) < c → P' 28 (4 * r + s) = bstep T q.toNat last r s) ∧ ∀ a, a ≠ 28 → P' a = P a) := by
  refine ZC.of (by decide) (Nat.le_of_ble_eq_true rfl) ?_
  generalize hQ0 : (fun rr hh => rr = none ∧ ∃ P', hh = (KF Kd, zi J, zj P', RF Rd, n, s0) ∧ (∀ r s : Nat, q < (r : Int) → r ≤ s → (s : Int) < c → P' 28 (4 * r + s) = bstep T q.toNat last r s) ∧ ∀ a, a ≠ 28 → P' a = P a : Option Value → ZH → Prop) = Q0
  show Z g l MX1_eliminateBehind 0 [some (.ref 26), some (.int (iZ q)), some (.int (iZ c)), some (.long (lZ last)), none, none, none, none, none, none, none] [] (KF Kd, zi J, zj P, RF Rd, n, s0) Q0
  refine z_lload_n dX1_eliminateBehind_0 rfl rfl ?_
  refine c_lconst0 dX1_eliminateBehind_1 ?_
  refine c_lif_ne (tgt := 7) dX1_eliminateBehind_2 dX1_eliminateBehind_3 (by decide) (by omega) (by omega) (fun h2 => ?_) (fun h2 => ?_)
  · refine z_aload_n dX1_eliminateBehind_7 rfl rfl ?_
    refine z_getR (ci := 1) (kf := 4) dX1_eliminateBehind_8 rfl (by decide) (by decide) rfl w_89 rfl ?_
    refine c_iconst dX1_eliminateBehind_11 ?_
    refine z_iload_n dX1_eliminateBehind_12 rfl rfl ?_
    refine c_imul dX1_eliminateBehind_13 ?_
    refine z_iload_n dX1_eliminateBehind_14 rfl rfl ?_
    refine c_iadd dX1_eliminateBehind_15 ?_
    refine c_lald dX1_eliminateBehind_16 rfl (by omega) (by decide) ?_
    rw [show P 28 (4 * q + q).toNat = T q.toNat q.toNat by rw [← hT q.toNat q.toNat (by omega) (by omega) (by omega)]; congr 1; omega]
    refine z_lstore dX1_eliminateBehind_17 (by decide) rfl ?_
    refine z_iload_n dX1_eliminateBehind_19 rfl rfl ?_
    refine c_iconst dX1_eliminateBehind_20 ?_
    refine c_iadd dX1_eliminateBehind_21 ?_
    refine z_istore dX1_eliminateBehind_22 (by decide) rfl ?_
    have L24 : ∀ (m24 : Nat), ∀ (i : Int) (P1 : Nat → Nat → Int), (c - i).toNat = m24 → (q + 1 ≤ i ∧ i ≤ c) → (∀ r s : Nat, q ≤ (r : Int) → r ≤ s → (s : Int) < c → P1 28 (4 * r + s) = (if q < (r : Int) ∧ (r : Int) < i then bstep T q.toNat last r s else T r s)) → (∀ a, a ≠ 28 → P1 a = P a) → Z g l MX1_eliminateBehind 24 [some (.ref 26), some (.int (iZ q)), some (.int (iZ c)), some (.long (lZ last)), none, some (.long (lZ (T q.toNat q.toNat))), none, some (.int (iZ i)), none, none, none] [] (KF Kd, zi J, zj P1, RF Rd, n, s0) Q0 := by
      intro m24
      induction m24 using Nat.strongRecOn with
      | ind m24 ih24 =>
        intro i P1 hm24 hi hI ho
        refine z_iload dX1_eliminateBehind_24 rfl ?_
        refine z_iload_n dX1_eliminateBehind_26 rfl rfl ?_
        refine c_icmp_ge (tgt := 109) dX1_eliminateBehind_27 (by decide) (by omega) (by omega) (fun h27 => ?_) (fun h27 => ?_)
        · refine z_return dX1_eliminateBehind_109 rfl ?_
          subst hQ0; exact ⟨rfl, P1, rfl, fun r s h1 h2 h3 => by rw [hI r s (by omega) h2 h3, if_pos (by omega)], ho⟩
        · refine z_iload dX1_eliminateBehind_30 rfl ?_
          refine z_istore dX1_eliminateBehind_32 (by decide) rfl ?_
          have L34 : ∀ (m34 : Nat), ∀ (j : Int) (P1 : Nat → Nat → Int), (c - j).toNat = m34 → (i ≤ j ∧ j ≤ c) → (∀ r s : Nat, q ≤ (r : Int) → r ≤ s → (s : Int) < c → P1 28 (4 * r + s) = (if q < (r : Int) ∧ ((r : Int) < i ∨ ((r : Int) = i ∧ (s : Int) < j)) then bstep T q.toNat last r s else T r s)) → (∀ a, a ≠ 28 → P1 a = P a) → Z g l MX1_eliminateBehind 34 [some (.ref 26), some (.int (iZ q)), some (.int (iZ c)), some (.long (lZ last)), none, some (.long (lZ (T q.toNat q.toNat))), none, some (.int (iZ i)), some (.int (iZ j)), none, none] [] (KF Kd, zi J, zj P1, RF Rd, n, s0) Q0 := by
            intro m34
            induction m34 using Nat.strongRecOn with
            | ind m34 ih34 =>
              intro j P1 hm34 hj hI ho
              refine z_iload dX1_eliminateBehind_34 rfl ?_
              refine z_iload_n dX1_eliminateBehind_36 rfl rfl ?_
              refine c_icmp_ge (tgt := 103) dX1_eliminateBehind_37 (by decide) (by omega) (by omega) (fun h37 => ?_) (fun h37 => ?_)
              · refine c_iinc dX1_eliminateBehind_103 rfl (by decide) rfl ?_
                refine z_goto (tgt := 24) dX1_eliminateBehind_106 (by decide) ?_
                exact Z.fg2 (ih24 _ (by omega) _ _ rfl (by omega) (fun r s h1 h2 h3 => by rw [hI r s h1 h2 h3]; exact ifc (by omega)) ho) (zs1 rfl (zs1 rfl (zs1 rfl (zs1 rfl (zsn (zs1 rfl (zsn (zs1 rfl (zsn (zsn (zsn zs0)))))))))))
              · refine z_aload_n dX1_eliminateBehind_40 rfl rfl ?_
                refine z_getR (ci := 1) (kf := 4) dX1_eliminateBehind_41 rfl (by decide) (by decide) rfl w_89 rfl ?_
                refine c_iconst dX1_eliminateBehind_44 ?_
                refine z_iload_n dX1_eliminateBehind_45 rfl rfl ?_
                refine c_imul dX1_eliminateBehind_46 ?_
                refine z_iload dX1_eliminateBehind_47 rfl ?_
                refine c_iadd dX1_eliminateBehind_49 ?_
                refine c_lald dX1_eliminateBehind_50 rfl (by omega) (by decide) ?_
                rw [show P1 28 (4 * q + i).toNat = T q.toNat i.toNat by rw [show (4 * q + i).toNat = 4 * q.toNat + i.toNat by omega, hI q.toNat i.toNat (by omega) (by omega) (by omega), if_neg (by omega)]]
                refine z_aload_n dX1_eliminateBehind_51 rfl rfl ?_
                refine z_getR (ci := 1) (kf := 4) dX1_eliminateBehind_52 rfl (by decide) (by decide) rfl w_89 rfl ?_
                refine c_iconst dX1_eliminateBehind_55 ?_
                refine z_iload_n dX1_eliminateBehind_56 rfl rfl ?_
                refine c_imul dX1_eliminateBehind_57 ?_
                refine z_iload dX1_eliminateBehind_58 rfl ?_
                refine c_iadd dX1_eliminateBehind_60 ?_
                refine c_lald dX1_eliminateBehind_61 rfl (by omega) (by decide) ?_
                rw [show P1 28 (4 * q + j).toNat = T q.toNat j.toNat by rw [show (4 * q + j).toNat = 4 * q.toNat + j.toNat by omega, hI q.toNat j.toNat (by omega) (by omega) (by omega), if_neg (by omega)]]
                refine c_lmul dX1_eliminateBehind_62 ?_
                refine z_lstore dX1_eliminateBehind_63 (by decide) rfl ?_
                refine z_aload_n dX1_eliminateBehind_65 rfl rfl ?_
                refine z_getR (ci := 1) (kf := 4) dX1_eliminateBehind_66 rfl (by decide) (by decide) rfl w_89 rfl ?_
                refine c_iconst dX1_eliminateBehind_69 ?_
                refine z_iload dX1_eliminateBehind_70 rfl ?_
                refine c_imul dX1_eliminateBehind_72 ?_
                refine z_iload dX1_eliminateBehind_73 rfl ?_
                refine c_iadd dX1_eliminateBehind_75 ?_
                refine z_lload dX1_eliminateBehind_76 rfl ?_
                refine z_aload_n dX1_eliminateBehind_78 rfl rfl ?_
                refine z_getR (ci := 1) (kf := 4) dX1_eliminateBehind_79 rfl (by decide) (by decide) rfl w_89 rfl ?_
                refine c_iconst dX1_eliminateBehind_82 ?_
                refine z_iload dX1_eliminateBehind_83 rfl ?_
                refine c_imul dX1_eliminateBehind_85 ?_
                refine z_iload dX1_eliminateBehind_86 rfl ?_
                refine c_iadd dX1_eliminateBehind_88 ?_
                refine c_lald dX1_eliminateBehind_89 rfl (by omega) (by decide) ?_
                rw [show P1 28 (4 * i + j).toNat = T i.toNat j.toNat by rw [show (4 * i + j).toNat = 4 * i.toNat + j.toNat by omega, hI i.toNat j.toNat (by omega) (by omega) (by omega), if_neg (by omega)]]
                have b1 := hB (by omega) q.toNat q.toNat (by omega) (by omega) (by omega)
                have b2 := hB (by omega) i.toNat j.toNat (by omega) (by omega) (by omega)
                have b3 := hB (by omega) q.toNat i.toNat (by omega) (by omega) (by omega)
                have b4 := hB (by omega) q.toNat j.toNat (by omega) (by omega) (by omega)
                have m1 := mul_bd b1.1 b1.2 b2.1 b2.2
                have m2 := mul_bd b3.1 b3.2 b4.1 b4.2
                refine c_lmul dX1_eliminateBehind_90 ?_
                refine z_lload dX1_eliminateBehind_91 rfl ?_
                refine c_lsub dX1_eliminateBehind_93 ?_
                refine z_lload_n dX1_eliminateBehind_94 rfl rfl ?_
                refine c_ldiv dX1_eliminateBehind_95 (by omega) (by omega) (by omega) (by omega) ?_
                refine c_last dX1_eliminateBehind_96 rfl (by omega) (by decide) ?_
                refine c_iinc dX1_eliminateBehind_97 rfl (by decide) rfl ?_
                refine z_goto (tgt := 34) dX1_eliminateBehind_100 (by decide) ?_
                exact Z.fg2 (ih34 _ (by omega) _ _ rfl (by omega) (fun r s h1 h2 h3 => by
  by_cases hrs : 4 * r + s = (4 * i + j).toNat
  · have er : r = i.toNat := by omega
    have es : s = j.toNat := by omega
    subst er; subst es
    rw [hrs, zz, if_pos (by omega)]; unfold bstep
    rw [hY i.toNat q.toNat (by omega) (by omega) (by omega) (by omega), Int.mul_comm (T q.toNat q.toNat)]
  · rw [zzi hrs, hI r s h1 h2 h3]; exact ifc (by omega)) (fun a ha => by rw [zup_ne ha]; exact ho a ha)) (zs1 rfl (zs1 rfl (zs1 rfl (zs1 rfl (zsn (zs1 rfl (zsn (zs1 rfl (zs1 rfl (zsn (zsn zs0)))))))))))
          exact Z.fg2 (L34 _ _ _ rfl (by omega) (fun r s h1 h2 h3 => by rw [hI r s h1 h2 h3]; exact ifc (by omega)) ho) (zs1 rfl (zs1 rfl (zs1 rfl (zs1 rfl (zsn (zs1 rfl (zsn (zs1 rfl (zs1 rfl (zsn (zsn zs0)))))))))))
    exact Z.fg2 (L24 _ _ _ rfl (by omega) (fun r s h1 h2 h3 => by rw [hT r s h1 h2 h3, if_neg (by omega)]) (fun _ _ => rfl)) (zs1 rfl (zs1 rfl (zs1 rfl (zs1 rfl (zsn (zs1 rfl (zsn (zs1 rfl (zsn (zsn (zsn zs0)))))))))))
  · exact absurd h2 (by omega)
/-- how many of the first i letters are taken -/
def cnum (k but i : Int) : Int := if i ≤ k then (if 0 ≤ but ∧ but < i then i - 1 else i) else (skn but k : Int)
theorem cn_skip {k but i c : Int} (hc : c = cnum k but i) (h : ¬ (i < k ∧ i ≠ but)) (hb : -1 ≤ but ∧ but < k) (hi : 0 ≤ i) : c = cnum k but (i + 1) := by
  subst hc; unfold cnum skn; repeat' split
  all_goals omega
theorem cn_take {k but i c : Int} (hc : c = cnum k but i) (h : i < k ∧ i ≠ but) (hb : -1 ≤ but ∧ but < k) (hi : 0 ≤ i) : c + 1 = cnum k but (i + 1) ∧ 0 ≤ c ∧ c ≤ i ∧ (sk but c.toNat : Int) = i := by
  subst hc; unfold cnum skn sk
  refine ⟨?_, ?_, ?_, ?_⟩ <;> repeat' split
  all_goals omega
theorem cn_end {k but i c : Int} (hc : c = cnum k but i) (h : k ≤ i) (hb : -1 ≤ but ∧ but < k) (hk : 0 ≤ k) : c = (skn but k : Int) := by
  subst hc; unfold cnum skn; repeat' split
  all_goals omega
theorem bstep_sym {T : Nat → Nat → Int} {q c last : Int} (hq : 0 ≤ q ∧ q < c) (hY : ∀ r s : Nat, q ≤ (r : Int) → (r : Int) < c → q ≤ (s : Int) → (s : Int) < c → T r s = T s r) : ∀ r s : Nat, q + 1 ≤ (r : Int) → (r : Int) < c → q + 1 ≤ (s : Int) → (s : Int) < c → bstep T q.toNat last r s = bstep T q.toNat last s r := by
  intro r s h1 h2 h3 h4
  unfold bstep
  rw [hY r s (by omega) h2 (by omega) h4, hY r q.toNat (by omega) h2 (by omega) (by omega), hY q.toNat s (by omega) (by omega) (by omega) h4, Int.mul_comm (T q.toNat r)]
theorem bt_but' {k i : Int} (hk : 0 ≤ k ∧ k ≤ 4) (hi : 0 ≤ i ∧ i < k) : iZ (bt k (-1)) &&& ((iZ 1 <<< (iZ i &&& 31)) ^^^ iZ (-1)) = iZ (bt k i) := by rw [bt_no]; exact bt_but hk hi
theorem boxP_stick {nl : Int} {E : Nat → Int} {i : Nat} (h : 1000000 < boxP nl E i) : ∀ d, 1000000 < boxP nl E (i + d)
  | 0 => h
  | d + 1 => by rw [← Nat.add_assoc, boxP, if_pos (boxP_stick h d)]; exact boxP_stick h d
theorem boxP_end {nl : Int} {E : Nat → Int} {i : Nat} (h : nl ≤ (i : Int)) : ∀ d, boxP nl E (i + d) = boxP nl E i
  | 0 => rfl
  | d + 1 => by
    rw [← Nat.add_assoc, boxP, boxP_end h d]
    have : reachS nl E (i + d) = 0 := by unfold reachS; rw [if_neg (by omega)]
    rw [this]; split
    · rfl
    · omega
set_option maxHeartbeats 4000000 in
set_option maxRecDepth 100000 in
theorem cMX1_determinant {nl k but : Int} {E : Nat → Int} (hn : 0 ≤ k ∧ k ≤ nl ∧ nl ≤ 4) (hb : -1 ≤ but ∧ but < k) (hE : entS E) (hsy : symS E) : ZC g l MX1_determinant [.ref 26, .int (iZ (bt k but))] (KF Kd, zi (dput J nl E), zj P, RF Rd, n, s0) (fun rr hh => ∃ J' P', hh = (KF Kd, zi (dput J' nl E), zj P', RF Rd, n, s0) ∧ rr = some (.long (lZ (detS E k but))) ∧ (∀ a, a ≠ 29 → J' a = J a) ∧ ∀ a, a ≠ 28 → P' a = P a) := by
  refine ZC.of (by decide) (Nat.le_of_ble_eq_true rfl) ?_
  generalize hQ0 : (fun rr hh => ∃ J' P', hh = (KF Kd, zi (dput J' nl E), zj P', RF Rd, n, s0) ∧ rr = some (.long (lZ (detS E k but))) ∧ (∀ a, a ≠ 29 → J' a = J a) ∧ ∀ a, a ≠ 28 → P' a = P a : Option Value → ZH → Prop) = Q0
  show Z g l MX1_determinant 0 [some (.ref 26), some (.int (iZ (bt k but))), none, none, none, none, none, none] [] (KF Kd, zi (dput J nl E), zj P, RF Rd, n, s0) Q0
  refine c_iconst dX1_determinant_0 ?_
  refine z_istore_n dX1_determinant_1 rfl (by decide) rfl ?_
  refine c_iconst dX1_determinant_2 ?_
  refine z_istore_n dX1_determinant_3 rfl (by decide) rfl ?_
  have L4 : ∀ (m4 : Nat), ∀ (i c : Int) (J1 : Nat → Nat → Int), (nl - i).toNat = m4 → (0 ≤ i ∧ i ≤ nl) → (c = cnum k but i) → (∀ r : Nat, (r : Int) < c → J1 29 r = (sk but r : Int)) → (∀ a, a ≠ 29 → J1 a = J a) → Z g l MX1_determinant 4 [some (.ref 26), some (.int (iZ (bt k but))), some (.int (iZ c)), some (.int (iZ i)), none, none, none, none] [] (KF Kd, zi (dput J1 nl E), zj P, RF Rd, n, s0) Q0 := by
    intro m4
    induction m4 using Nat.strongRecOn with
    | ind m4 ih4 =>
      intro i c J1 hm4 hi hc hch hoJ
      refine z_iload_n dX1_determinant_4 rfl rfl ?_
      refine z_aload_n dX1_determinant_5 rfl rfl ?_
      refine c_getI (ci := 1) (kf := 0) dX1_determinant_6 rfl (by decide) (by decide) rfl w_78 ?_
      rw [dput_let]
      refine c_icmp_ge (tgt := 36) dX1_determinant_9 (by decide) (by omega) (by omega) (fun h9 => ?_) (fun h9 => ?_)
      · have hcS := cn_end hc (by omega) hb hn.1
        have hc4 : 0 ≤ c ∧ c ≤ 4 := by
          rw [hcS]; unfold skn; split <;> omega
        refine c_iconst dX1_determinant_36 ?_
        refine z_istore_n dX1_determinant_37 rfl (by decide) rfl ?_
        have L38 : ∀ (m38 : Nat), ∀ (i2 : Int) (P1 : Nat → Nat → Int), (c - i2).toNat = m38 → (0 ≤ i2 ∧ i2 ≤ c) → (∀ r s : Nat, (r : Int) < i2 → (s : Int) < c → P1 28 (4 * r + s) = E (4 * sk but r + sk but s)) → (∀ a, a ≠ 28 → P1 a = P a) → Z g l MX1_determinant 38 [some (.ref 26), some (.int (iZ (bt k but))), some (.int (iZ c)), some (.int (iZ i2)), none, none, none, none] [] (KF Kd, zi (dput J1 nl E), zj P1, RF Rd, n, s0) Q0 := by
          intro m38
          induction m38 using Nat.strongRecOn with
          | ind m38 ih38 =>
            intro i2 P1 hm38 hi2 hr ho
            refine z_iload_n dX1_determinant_38 rfl rfl ?_
            refine z_iload_n dX1_determinant_39 rfl rfl ?_
            refine c_icmp_ge (tgt := 93) dX1_determinant_40 (by decide) (by omega) (by omega) (fun h40 => ?_) (fun h40 => ?_)
            · refine c_lconst1 dX1_determinant_93 ?_
              refine z_lstore_n dX1_determinant_94 rfl (by decide) rfl ?_
              refine c_iconst dX1_determinant_95 ?_
              refine z_istore dX1_determinant_96 (by decide) rfl ?_
              have L98 : ∀ (m98 : Nat), ∀ (q last : Int) (P1 T : Nat → Nat → Int), (c - q).toNat = m98 → (0 ≤ q ∧ q ≤ c) → (1 ≤ last ∧ last ≤ 1200000000000000000) → (detB (c - q).toNat T q.toNat last = detS E k but) → (∀ r s : Nat, q ≤ (r : Int) → r ≤ s → (s : Int) < c → P1 28 (4 * r + s) = T r s) → (∀ r s : Nat, q ≤ (r : Int) → (r : Int) < c → q ≤ (s : Int) → (s : Int) < c → T r s = T s r) → (∀ r s : Nat, q ≤ (r : Int) → (r : Int) < c → q ≤ (s : Int) → (s : Int) < c → -(bq q) ≤ T r s ∧ T r s ≤ bq q) → (∀ a, a ≠ 28 → P1 a = P a) → Z g l MX1_determinant 98 [some (.ref 26), some (.int (iZ (bt k but))), some (.int (iZ c)), some (.long (lZ last)), none, some (.int (iZ q)), none, none] [] (KF Kd, zi (dput J1 nl E), zj P1, RF Rd, n, s0) Q0 := by
                intro m98
                induction m98 using Nat.strongRecOn with
                | ind m98 ih98 =>
                  intro q last P1 T hm98 hq hlast hD hT hY hB ho
                  refine z_iload dX1_determinant_98 rfl ?_
                  refine z_iload_n dX1_determinant_100 rfl rfl ?_
                  refine c_icmp_ge (tgt := 144) dX1_determinant_101 (by decide) (by omega) (by omega) (fun h101 => ?_) (fun h101 => ?_)
                  · refine z_lload_n dX1_determinant_144 rfl rfl ?_
                    refine z_lreturn dX1_determinant_145 rfl ?_
                    subst hQ0; refine ⟨J1, P1, rfl, ?_, hoJ, ho⟩; rw [← hD, show (c - q).toNat = 0 by omega]; rfl
                  · refine z_aload_n dX1_determinant_104 rfl rfl ?_
                    refine z_getR (ci := 1) (kf := 4) dX1_determinant_105 rfl (by decide) (by decide) rfl w_89 rfl ?_
                    refine c_iconst dX1_determinant_108 ?_
                    refine z_iload dX1_determinant_109 rfl ?_
                    refine c_imul dX1_determinant_111 ?_
                    refine z_iload dX1_determinant_112 rfl ?_
                    refine c_iadd dX1_determinant_114 ?_
                    refine c_lald dX1_determinant_115 rfl (by omega) (by decide) ?_
                    rw [show P1 28 (4 * q + q).toNat = T q.toNat q.toNat by rw [show (4 * q + q).toNat = 4 * q.toNat + q.toNat by omega]; exact hT _ _ (by omega) (by omega) (by omega)]
                    have hbb := hB q.toNat q.toNat (by omega) (by omega) (by omega) (by omega)
                    have hbq : bq q ≤ 1200000000000000000 := by unfold bq; split <;> (try split) <;> (try split) <;> omega
                    have hdu : detB (c - q).toNat T q.toNat last = if T q.toNat q.toNat ≤ 0 then 0 else detB (c - (q + 1)).toNat (bstep T q.toNat last) (q.toNat + 1) (T q.toNat q.toNat) := by
                      rw [show (c - q).toNat = (c - (q + 1)).toNat + 1 by omega]; rfl
                    refine z_lstore dX1_determinant_116 (by decide) rfl ?_
                    refine z_lload dX1_determinant_118 rfl ?_
                    refine c_lconst0 dX1_determinant_120 ?_
                    refine c_lif_gt (tgt := 127) dX1_determinant_121 dX1_determinant_122 (by decide) (by omega) (by omega) (fun h121 => ?_) (fun h121 => ?_)
                    · have hBq : q + 1 < c → ∀ r s : Nat, q ≤ (r : Int) → r ≤ s → (s : Int) < c → -2147483647 ≤ T r s ∧ T r s ≤ 2147483647 := by
                        intro hqc r s h1 h2 h3
                        have h4 := hB r s h1 (by omega) (by omega) h3
                        have h5 : bq q ≤ 768476808 := by unfold bq; split <;> (try split) <;> (try split) <;> omega
                        omega
                      refine z_aload_n dX1_determinant_127 rfl rfl ?_
                      refine z_iload dX1_determinant_128 rfl ?_
                      refine z_iload_n dX1_determinant_130 rfl rfl ?_
                      refine z_lload_n dX1_determinant_131 rfl rfl ?_
                      refine z_callv (N := MX1_eliminateBehind) (ci := 1) (nas := 3) (as := [_, _, _]) dX1_determinant_132 w_254 w_251 w_253 ws_1 w_4 (by decide +kernel) rfl rfl rfl (by decide) (Nat.le_of_ble_eq_true rfl) (by decide) (by decide) (ZC.mono (cMX1_eliminateBehind (T := T) (by omega) (by omega) hT hY hBq) ?_)
                      rintro _ _ ⟨rfl, P2, rfl, hP2, hO2⟩
                      refine z_lload dX1_determinant_135 rfl ?_
                      refine z_lstore_n dX1_determinant_137 rfl (by decide) rfl ?_
                      refine c_iinc dX1_determinant_138 rfl (by decide) rfl ?_
                      refine z_goto (tgt := 98) dX1_determinant_141 (by decide) ?_
                      exact Z.fg2 (ih98 _ (by omega) _ _ _ (bstep T q.toNat last) rfl (by omega) (by omega) (by rw [← hD, hdu, if_neg (by omega), show (q + 1).toNat = q.toNat + 1 by omega]) (fun r s h1 h2 h3 => hP2 r s (by omega) h2 h3) (bstep_sym (by omega) hY) (fun r s h1 h2 h3 h4 => bq_step (by omega) (hB r s (by omega) h2 (by omega) h4) (hB q.toNat q.toNat (by omega) (by omega) (by omega) (by omega)) (hB r q.toNat (by omega) h2 (by omega) (by omega)) (hB q.toNat s (by omega) (by omega) (by omega) h4)) (fun a ha => by rw [hO2 a ha]; exact ho a ha)) (zs1 rfl (zs1 rfl (zs1 rfl (zs1 rfl (zsn (zs1 rfl (zsn (zsn zs0))))))))
                    · refine c_lconst0 dX1_determinant_125 ?_
                      refine z_lreturn dX1_determinant_126 rfl ?_
                      subst hQ0; refine ⟨J1, P1, rfl, ?_, hoJ, ho⟩; rw [← hD, hdu, if_pos (by omega)]
              exact Z.fg2 (L98 _ _ _ _ (fun r s => E (4 * sk but r + sk but s)) rfl (by omega) (by omega) (by unfold detS; rw [show (c - 0).toNat = skn but k by omega]; rfl) (fun r s h1 h2 h3 => hr r s (by omega) h3) (fun r s h1 h2 h3 h4 => hsy _ _ (by have := sk_le (but := but) (i := r) k (by omega) (by omega); omega) (by have := sk_le (but := but) (i := s) k (by omega) (by omega); omega)) (fun r s h1 h2 h3 h4 => by rw [show bq 0 = 99 from rfl]; exact hE _ (by have := sk_le (but := but) (i := r) k (by omega) (by omega); have := sk_le (but := but) (i := s) k (by omega) (by omega); omega)) ho) (zs1 rfl (zs1 rfl (zs1 rfl (zs1 rfl (zsn (zs1 rfl (zsn (zsn zs0))))))))
            · refine c_iconst dX1_determinant_43 ?_
              refine z_istore dX1_determinant_44 (by decide) rfl ?_
              have L46 : ∀ (m46 : Nat), ∀ (j : Int) (P1 : Nat → Nat → Int), (c - j).toNat = m46 → (0 ≤ j ∧ j ≤ c) → (∀ r s : Nat, (r : Int) < i2 → (s : Int) < c → P1 28 (4 * r + s) = E (4 * sk but r + sk but s)) → (∀ s : Nat, (s : Int) < j → P1 28 (4 * i2.toNat + s) = E (4 * sk but i2.toNat + sk but s)) → (∀ a, a ≠ 28 → P1 a = P a) → Z g l MX1_determinant 46 [some (.ref 26), some (.int (iZ (bt k but))), some (.int (iZ c)), some (.int (iZ i2)), some (.int (iZ j)), none, none, none] [] (KF Kd, zi (dput J1 nl E), zj P1, RF Rd, n, s0) Q0 := by
                intro m46
                induction m46 using Nat.strongRecOn with
                | ind m46 ih46 =>
                  intro j P1 hm46 hj hr hrc ho
                  refine z_iload dX1_determinant_46 rfl ?_
                  refine z_iload_n dX1_determinant_48 rfl rfl ?_
                  refine c_icmp_ge (tgt := 87) dX1_determinant_49 (by decide) (by omega) (by omega) (fun h49 => ?_) (fun h49 => ?_)
                  · refine c_iinc dX1_determinant_87 rfl (by decide) rfl ?_
                    refine z_goto (tgt := 38) dX1_determinant_90 (by decide) ?_
                    exact Z.fg2 (ih38 _ (by omega) _ _ rfl (by omega) (fun r s h1 h2 => by
  by_cases er : (r : Int) < i2
  · exact hr r s er h2
  · have e : r = i2.toNat := by omega
    subst e; exact hrc s (by omega)) ho) (zs1 rfl (zs1 rfl (zs1 rfl (zs1 rfl (zsn (zsn (zsn (zsn zs0))))))))
                  · refine z_aload_n dX1_determinant_52 rfl rfl ?_
                    refine z_getR (ci := 1) (kf := 4) dX1_determinant_53 rfl (by decide) (by decide) rfl w_89 rfl ?_
                    refine c_iconst dX1_determinant_56 ?_
                    refine z_iload_n dX1_determinant_57 rfl rfl ?_
                    refine c_imul dX1_determinant_58 ?_
                    refine z_iload dX1_determinant_59 rfl ?_
                    refine c_iadd dX1_determinant_61 ?_
                    refine z_aload_n dX1_determinant_62 rfl rfl ?_
                    refine z_aload_n dX1_determinant_63 rfl rfl ?_
                    refine z_getR (ci := 1) (kf := 5) dX1_determinant_64 rfl (by decide) (by decide) rfl w_90 rfl ?_
                    refine z_iload_n dX1_determinant_67 rfl rfl ?_
                    refine c_iald dX1_determinant_68 rfl (by omega) (by decide) ?_
                    rw [show dput J1 nl E 29 i2.toNat = (sk but i2.toNat : Int) by rw [dput_off (by decide) (by decide)]; exact hch _ (by omega)]
                    have a1 := sk_le (but := but) (i := i2.toNat) k (by omega) (by omega)
                    refine z_aload_n dX1_determinant_69 rfl rfl ?_
                    refine z_getR (ci := 1) (kf := 5) dX1_determinant_70 rfl (by decide) (by decide) rfl w_90 rfl ?_
                    refine z_iload dX1_determinant_73 rfl ?_
                    refine c_iald dX1_determinant_75 rfl (by omega) (by decide) ?_
                    rw [show dput J1 nl E 29 j.toNat = (sk but j.toNat : Int) by rw [dput_off (by decide) (by decide)]; exact hch _ (by omega)]
                    have a2 := sk_le (but := but) (i := j.toNat) k (by omega) (by omega)
                    refine z_callv (N := MX1_get) (ci := 1) (nas := 2) (as := [_, _]) dX1_determinant_76 w_250 w_247 w_248 w_249 w_4 (by decide +kernel) rfl rfl rfl (by decide) (Nat.le_of_ble_eq_true rfl) (by decide) (by decide) (ZC.mono (cMX1_get (by omega) (by omega)) ?_)
                    rintro _ _ ⟨rfl, rfl⟩
                    rw [Int.toNat_natCast, Int.toNat_natCast]
                    have e79 := hE (4 * sk but i2.toNat + sk but j.toNat) (by omega)
                    refine c_i2l dX1_determinant_79 (by omega) ?_
                    refine c_last dX1_determinant_80 rfl (by omega) (by decide) ?_
                    refine c_iinc dX1_determinant_81 rfl (by decide) rfl ?_
                    refine z_goto (tgt := 46) dX1_determinant_84 (by decide) ?_
                    exact Z.fg2 (ih46 _ (by omega) _ _ rfl (by omega) (fun r s h1 h2 => by rw [zzi (by omega)]; exact hr r s h1 h2) (fun s h1 => by
  by_cases es : s = j.toNat
  · subst es; rw [show 4 * i2.toNat + j.toNat = (4 * i2 + j).toNat by omega, zz]
  · rw [zzi (by omega)]; exact hrc s (by omega)) (fun a ha => by rw [zup_ne ha]; exact ho a ha)) (zs1 rfl (zs1 rfl (zs1 rfl (zs1 rfl (zs1 rfl (zsn (zsn (zsn zs0))))))))
              exact Z.fg2 (L46 _ _ _ rfl (by omega) hr (fun s h1 => absurd h1 (by omega)) ho) (zs1 rfl (zs1 rfl (zs1 rfl (zs1 rfl (zs1 rfl (zsn (zsn (zsn zs0))))))))
        exact Z.fg2 (L38 _ _ _ rfl (by omega) (fun r s h1 h2 => absurd h1 (by omega)) (fun _ _ => rfl)) (zs1 rfl (zs1 rfl (zs1 rfl (zs1 rfl (zsn (zsn (zsn (zsn zs0))))))))
      · refine z_iload_n dX1_determinant_12 rfl rfl ?_
        refine z_iload_n dX1_determinant_13 rfl rfl ?_
        refine z_ishr dX1_determinant_14 ?_
        refine c_iconst dX1_determinant_15 ?_
        refine z_iand dX1_determinant_16 ?_
        rw [bt_bit (by omega) hb (by omega)]
        refine c_if_eq (tgt := 30) dX1_determinant_17 (by decide) (by split <;> omega) (fun h17 => ?_) (fun h17 => ?_)
        · have hik : ¬ (i < k ∧ i ≠ but) := fun z => by rw [if_pos z] at h17; omega
          refine c_iinc dX1_determinant_30 rfl (by decide) rfl ?_
          refine z_goto (tgt := 4) dX1_determinant_33 (by decide) ?_
          exact Z.fg2 (ih4 _ (by omega) _ _ _ rfl (by omega) (by first | exact cn_skip hc hik hb hi.1 | exact htk.1) (by first | exact hch | exact (fun r hr => by
  by_cases er : r = c.toNat
  · subst er; rw [zz]; exact htk.2.2.2.symm
  · rw [zzi er]; exact hch r (by omega))) (by first | exact hoJ | exact (fun a ha => by rw [zup_ne ha]; exact hoJ a ha))) (zs1 rfl (zs1 rfl (zs1 rfl (zs1 rfl (zsn (zsn (zsn (zsn zs0))))))))
        · have hik : i < k ∧ i ≠ but := by
            by_cases z : i < k ∧ i ≠ but
            · exact z
            · rw [if_neg z] at h17; omega
          have htk := cn_take hc hik hb hi.1
          refine z_aload_n dX1_determinant_20 rfl rfl ?_
          refine z_getR (ci := 1) (kf := 5) dX1_determinant_21 rfl (by decide) (by decide) rfl w_90 rfl ?_
          refine z_iload_n dX1_determinant_24 rfl rfl ?_
          refine z_iload_n dX1_determinant_25 rfl rfl ?_
          refine c_iast dX1_determinant_26 rfl (by omega) (by decide) ?_
          rw [dput_up (by decide) (by decide)]
          refine c_iinc dX1_determinant_27 rfl (by decide) rfl ?_
          refine c_iinc dX1_determinant_30 rfl (by decide) rfl ?_
          refine z_goto (tgt := 4) dX1_determinant_33 (by decide) ?_
          exact Z.fg2 (ih4 _ (by omega) _ _ _ rfl (by omega) (by first | exact cn_skip hc hik hb hi.1 | exact htk.1) (by first | exact hch | exact (fun r hr => by
  by_cases er : r = c.toNat
  · subst er; rw [zz]; exact htk.2.2.2.symm
  · rw [zzi er]; exact hch r (by omega))) (by first | exact hoJ | exact (fun a ha => by rw [zup_ne ha]; exact hoJ a ha))) (zs1 rfl (zs1 rfl (zs1 rfl (zs1 rfl (zsn (zsn (zsn (zsn zs0))))))))
  exact Z.fg2 (L4 _ _ _ _ rfl (by omega) (by unfold cnum; rw [if_pos (by omega)]; split <;> omega) (fun r hr => absurd hr (by omega)) (fun _ _ => rfl)) (zs1 rfl (zs1 rfl (zs1 rfl (zs1 rfl (zsn (zsn (zsn (zsn zs0))))))))
set_option maxHeartbeats 4000000 in
set_option maxRecDepth 100000 in
theorem cMX1_isLawful {nl : Int} {E : Nat → Int} (hn : 1 ≤ nl ∧ nl ≤ 4) (hR : ∀ k, k < 16 → -2147483647 ≤ E k ∧ E k ≤ 2147483647) (hsy : symS E) : ZC g l MX1_isLawful [.ref 26] (KF Kd, zi (dput J nl E), zj P, RF Rd, n, s0) (fun rr hh => ∃ (J' P' : Nat → Nat → Int) (b : Int), hh = (KF Kd, zi (dput J' nl E), zj P', RF Rd, n, s0) ∧ rr = some (.int (iZ b)) ∧ (b = 1 ∧ lawS nl E ∨ b = 0 ∧ ¬ lawS nl E) ∧ (lawS nl E → J' 26 2 = detS E nl (-1) ∧ J' 26 3 = boxP nl E 4) ∧ (∀ a, a ≠ 26 → a ≠ 29 → J' a = J a) ∧ ∀ a, a ≠ 28 → P' a = P a) := by
  refine ZC.of (by decide) (Nat.le_of_ble_eq_true rfl) ?_
  generalize hQ0 : (fun rr hh => ∃ (J' P' : Nat → Nat → Int) (b : Int), hh = (KF Kd, zi (dput J' nl E), zj P', RF Rd, n, s0) ∧ rr = some (.int (iZ b)) ∧ (b = 1 ∧ lawS nl E ∨ b = 0 ∧ ¬ lawS nl E) ∧ (lawS nl E → J' 26 2 = detS E nl (-1) ∧ J' 26 3 = boxP nl E 4) ∧ (∀ a, a ≠ 26 → a ≠ 29 → J' a = J a) ∧ ∀ a, a ≠ 28 → P' a = P a : Option Value → ZH → Prop) = Q0
  show Z g l MX1_isLawful 0 [some (.ref 26), none, none, none, none, none, none, none, none] [] (KF Kd, zi (dput J nl E), zj P, RF Rd, n, s0) Q0
  refine z_aload_n dX1_isLawful_0 rfl rfl ?_
  refine z_callv (N := MX1_isInRange) (ci := 1) (nas := 0) (as := []) dX1_isLawful_1 w_242 w_239 w_240 w_241 w_4 (by decide +kernel) rfl rfl rfl (by decide) (Nat.le_of_ble_eq_true rfl) (by decide) (by decide) (ZC.mono (cMX1_isInRange (fun k hk => by have := hR k hk; omega)) ?_)
  rintro _ _ ⟨b1, rfl, rfl, hb1⟩
  refine c_if_ne (tgt := 9) dX1_isLawful_4 (by decide) (by omega) (fun h4 => ?_) (fun h4 => ?_)
  · have g1 := (hb1.resolve_right (fun z => by have := z.1; omega)).2
    clear hb1
    refine c_iconst dX1_isLawful_9 ?_
    refine z_aload_n dX1_isLawful_10 rfl rfl ?_
    refine c_getI (ci := 1) (kf := 0) dX1_isLawful_11 rfl (by decide) (by decide) rfl w_78 ?_
    rw [dput_let]
    refine z_ishl dX1_isLawful_14 ?_
    rw [bt_all (by omega)]
    refine c_iconst dX1_isLawful_15 ?_
    refine c_isub dX1_isLawful_16 ?_
    rw [← bt_no]
    refine z_istore_n dX1_isLawful_17 rfl (by decide) rfl ?_
    refine z_aload_n dX1_isLawful_18 rfl rfl ?_
    refine z_iload_n dX1_isLawful_19 rfl rfl ?_
    refine z_callv (N := MX1_determinant) (ci := 1) (nas := 1) (as := [_]) dX1_isLawful_20 w_246 w_243 w_244 w_245 w_4 (by decide +kernel) rfl rfl rfl (by decide) (Nat.le_of_ble_eq_true rfl) (by decide) (by decide) (ZC.mono (cMX1_determinant (by omega) (by omega) g1 hsy) ?_)
    rintro _ _ ⟨Ja20, Pa20, rfl, rfl, hJa20, hPa20⟩
    refine z_lstore_n dX1_isLawful_23 rfl (by decide) rfl ?_
    have hd1 := detS_nonneg E nl (-1)
    have hd2 := detS_bd4 (k := nl) (but := -1) g1 (by omega)
    refine z_lload_n dX1_isLawful_24 rfl rfl ?_
    refine c_lconst0 dX1_isLawful_25 ?_
    refine c_lif_gt (tgt := 32) dX1_isLawful_26 dX1_isLawful_27 (by decide) (by omega) (by omega) (fun h26 => ?_) (fun h26 => ?_)
    · refine c_lconst1 dX1_isLawful_32 ?_
      refine z_lstore dX1_isLawful_33 (by decide) rfl ?_
      refine c_iconst dX1_isLawful_35 ?_
      refine z_istore dX1_isLawful_36 (by decide) rfl ?_
      have L38 : ∀ (m38 : Nat), ∀ (i sd : Int) (J1 P1 : Nat → Nat → Int), (nl - i).toNat = m38 → (0 ≤ i ∧ i ≤ nl) → (sd = boxP nl E i.toNat ∧ 1 ≤ sd ∧ sd ≤ 1000000) → (∀ a, a ≠ 29 → J1 a = J a) → (∀ a, a ≠ 28 → P1 a = P a) → Z g l MX1_isLawful 38 [some (.ref 26), some (.int (iZ (bt nl (-1)))), some (.long (lZ (detS E nl (-1)))), none, some (.long (lZ sd)), none, some (.int (iZ i)), none, none] [] (KF Kd, zi (dput J1 nl E), zj P1, RF Rd, n, s0) Q0 := by
        intro m38
        induction m38 using Nat.strongRecOn with
        | ind m38 ih38 =>
          intro i sd J1 P1 hm38 hi hsd hoJ ho
          refine z_iload dX1_isLawful_38 rfl ?_
          refine z_aload_n dX1_isLawful_40 rfl rfl ?_
          refine c_getI (ci := 1) (kf := 0) dX1_isLawful_41 rfl (by decide) (by decide) rfl w_78 ?_
          rw [dput_let]
          refine c_icmp_ge (tgt := 100) dX1_isLawful_44 (by decide) (by omega) (by omega) (fun h44 => ?_) (fun h44 => ?_)
          · refine z_aload_n dX1_isLawful_100 rfl rfl ?_
            refine z_lload_n dX1_isLawful_101 rfl rfl ?_
            refine c_l2i dX1_isLawful_102 ?_
            refine c_putI (ci := 1) (kf := 2) dX1_isLawful_103 rfl (by decide) (by decide) rfl (by decide) w_86 ?_
            refine z_aload_n dX1_isLawful_106 rfl rfl ?_
            refine z_lload dX1_isLawful_107 rfl ?_
            refine c_l2i dX1_isLawful_109 ?_
            refine c_putI (ci := 1) (kf := 3) dX1_isLawful_110 rfl (by decide) (by decide) rfl (by decide) w_88 ?_
            refine c_iconst dX1_isLawful_113 ?_
            refine c_zreturn dX1_isLawful_114 rfl (by omega) ?_
            subst hQ0
            have hbe := boxP_end (nl := nl) (E := E) (i := i.toNat) (by omega) (4 - i.toNat)
            rw [show i.toNat + (4 - i.toNat) = 4 by omega] at hbe
            rw [dput_up26 (by decide), dput_up26 (by decide)]
            refine ⟨_, P1, 1, rfl, rfl, Or.inl ⟨rfl, g1, by omega, by omega⟩, fun _ => ⟨?_, ?_⟩, fun a h1 h2 => ?_, ho⟩
            · rw [zzi (by decide), zz]
            · rw [zz, hbe]; exact hsd.1
            · rw [zup_ne h1, zup_ne h1]; exact hoJ a h2
          · refine z_aload_n dX1_isLawful_47 rfl rfl ?_
            refine z_iload_n dX1_isLawful_48 rfl rfl ?_
            refine c_iconst dX1_isLawful_49 ?_
            refine z_iload dX1_isLawful_50 rfl ?_
            refine z_ishl dX1_isLawful_52 ?_
            refine c_iconst dX1_isLawful_53 ?_
            refine z_ixor dX1_isLawful_54 ?_
            refine z_iand dX1_isLawful_55 ?_
            rw [bt_but' (by omega) (by omega)]
            refine z_callv (N := MX1_determinant) (ci := 1) (nas := 1) (as := [_]) dX1_isLawful_56 w_246 w_243 w_244 w_245 w_4 (by decide +kernel) rfl rfl rfl (by decide) (Nat.le_of_ble_eq_true rfl) (by decide) (by decide) (ZC.mono (cMX1_determinant (by omega) (by omega) g1 hsy) ?_)
            rintro _ _ ⟨Ja56, Pa56, rfl, rfl, hJa56, hPa56⟩
            refine z_lstore dX1_isLawful_59 (by decide) rfl ?_
            have hd3 := detS_nonneg E nl i
            have hd4 := detS_bd3 (k := nl) (but := i) g1 (by omega) (by omega)
            refine z_lload dX1_isLawful_61 rfl ?_
            refine c_ldc2 (z := 2) dX1_isLawful_63 w_255 (by decide) ?_
            refine c_ldc2 (z := 100) dX1_isLawful_66 w_256 (by decide) ?_
            refine z_lload dX1_isLawful_69 rfl ?_
            refine c_lmul dX1_isLawful_71 ?_
            refine z_lload_n dX1_isLawful_72 rfl rfl ?_
            refine c_ldiv dX1_isLawful_73 (by omega) (by omega) (by omega) (by omega) ?_
            have hv0 := tdiv_nn (a := 100 * detS E nl i) (b := (detS E nl (-1))) (by omega) (by omega)
            have hv1 := tdiv_bd (a := 100 * detS E nl i) (b := (detS E nl (-1))) (B := 76847680800) (by omega) (by omega)
            refine z_callsN (N := MX8_squareRoot) (nas := 1) (as := [_]) (host := "EscalatedForms") dX1_isLawful_74 w_259 (by decide +kernel) w_258 w_1 (by decide +kernel) rfl rfl (Nat.le_of_ble_eq_true rfl) (by decide) (by decide) (ZC.mono (cMX8_squareRoot (by omega)) ?_)
            rintro _ _ ⟨rfl, q74, rfl, hq074, hq174, hq274, hq374⟩
            have hre : q74 = reachS nl E i.toNat := by
              unfold reachS; rw [if_pos (by omega), Int.toNat_of_nonneg (by omega)]; exact root_uniq (hq174 (by omega)) (rootQ_spec (by omega) (by omega))
            have hrb := reachS_bd nl E i.toNat
            rw [hre]
            refine c_lmul dX1_isLawful_77 ?_
            refine c_lconst1 dX1_isLawful_78 ?_
            refine c_ladd dX1_isLawful_79 ?_
            refine c_lmul dX1_isLawful_80 ?_
            refine z_lstore dX1_isLawful_81 (by decide) rfl ?_
            have hmb := mul_bd (a := sd) (b := 2 * reachS nl E i.toNat + 1) (A := 1000000) (B := 4194303) (by omega) (by omega) (by omega) (by omega)
            have hbS : boxP nl E (i.toNat + 1) = sd * (2 * reachS nl E i.toNat + 1) := by rw [boxP, if_neg (by omega), hsd.1]
            refine z_lload dX1_isLawful_83 rfl ?_
            refine c_ldc2 (z := 1000000) dX1_isLawful_85 w_261 (by decide) ?_
            refine c_lif_le (tgt := 94) dX1_isLawful_88 dX1_isLawful_89 (by decide) (by omega) (by omega) (fun h88 => ?_) (fun h88 => ?_)
            · refine c_iinc dX1_isLawful_94 rfl (by decide) rfl ?_
              refine z_goto (tgt := 38) dX1_isLawful_97 (by decide) ?_
              exact Z.fg2 (ih38 _ (by omega) _ _ _ _ rfl (by omega) ⟨by rw [show (i + 1).toNat = i.toNat + 1 by omega]; exact hbS.symm, by rw [← hbS]; exact (boxP_bd nl E _).1, by omega⟩ (fun a ha => (hJa56 a ha).trans (hoJ a ha)) (fun a ha => (hPa56 a ha).trans (ho a ha))) (zs1 rfl (zs1 rfl (zs1 rfl (zsn (zs1 rfl (zsn (zs1 rfl (zsn (zsn zs0)))))))))
            · refine c_iconst dX1_isLawful_92 ?_
              refine c_zreturn dX1_isLawful_93 rfl (by omega) ?_
              subst hQ0
              have hnl : ¬ lawS nl E := fun hl => by
                have h1 := boxP_stick (nl := nl) (E := E) (i := i.toNat + 1) (by omega) (4 - (i.toNat + 1))
                rw [show i.toNat + 1 + (4 - (i.toNat + 1)) = 4 by omega] at h1
                have := hl.2.2; omega
              exact ⟨Ja56, Pa56, 0, rfl, rfl, Or.inr ⟨rfl, hnl⟩, fun hl => absurd hl hnl, fun a _ ha => (hJa56 a ha).trans (hoJ a ha), fun a ha => (hPa56 a ha).trans (ho a ha)⟩
      exact Z.fg2 (L38 _ 0 1 _ _ rfl (by omega) ⟨rfl, by decide, by decide⟩ hJa20 hPa20) (zs1 rfl (zs1 rfl (zs1 rfl (zsn (zs1 rfl (zsn (zs1 rfl (zsn (zsn zs0)))))))))
    · refine c_iconst dX1_isLawful_30 ?_
      refine c_zreturn dX1_isLawful_31 rfl (by omega) ?_
      subst hQ0; exact ⟨Ja20, Pa20, 0, rfl, rfl, Or.inr ⟨rfl, fun hl => by have := hl.2.1; omega⟩, fun hl => by have := hl.2.1; omega, fun a _ ha => hJa20 a ha, hPa20⟩
  · have g1 := (hb1.resolve_left (fun z => by have := z.1; omega)).2
    clear hb1
    refine c_iconst dX1_isLawful_7 ?_
    refine c_zreturn dX1_isLawful_8 rfl (by omega) ?_
    subst hQ0; exact ⟨J, P, 0, rfl, rfl, Or.inr ⟨rfl, fun hl => g1 hl.1⟩, fun hl => absurd hl.1 g1, fun _ _ _ => rfl, fun _ _ => rfl⟩
end Cls3
