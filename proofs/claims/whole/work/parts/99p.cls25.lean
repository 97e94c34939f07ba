section Cls25
variable {g : ZG} {l : Launch} {Kd : ZK} {Rd : ZR} {n s0 c : Nat} {A J P : Nat → Nat → Int}
theorem EI_mv {e : EP} {q : Int} {J' P' : Nat → Nat → Int} (h : EI e J P q) (h1 : J' 30 = J 30) (h2 : J' 35 = J 35) (h3 : J' 36 = J 36) (p1 : P' 31 = P 31) (p2 : P' 32 = P 32) (p3 : P' 33 = P 33) (p4 : P' 34 = P 34) : EI e J' P' q := by
  unfold EI at h ⊢; rw [h1, h2, h3, p1, p2, p3, p4]; exact h
set_option maxHeartbeats 4000000 in
set_option maxRecDepth 100000 in
theorem cMX0_gather {r : Nat} {nl t : Int} {E : Nat → Int} (hr : isF Kd n r) (hW : WD A c Kd J Rd n s0) (hl : J r 0 = nl) (hE : J (ent Rd r) = E) (h3 : nl ≤ 3) (htr : t = truF nl E) (ht0 : t ≠ 0) : ZC g l MX0_gather [.ref 40, .ref r, .int (iZ t), .ref 26, .ref 30] (KF Kd, zi J, zj P, RF Rd, n, s0) (fun rr hh => rr = none ∧ ∃ (Kd' : ZK) (J' P' : Nat → Nat → Int) (Rd' : ZR) (n' s0' : Nat), hh = (KF Kd', zi J', zj P', RF Rd', n', s0') ∧ WD A c Kd' J' Rd' n' s0' ∧ Ev Kd J Rd n Kd' J' Rd' n' ∧ Rd' 40 0 = some r ∧ ∀ a, 35 ≤ a → a < 66 → P' a = P a) := by
  refine ZC.of (by decide) (Nat.le_of_ble_eq_true rfl) ?_
  generalize hQ0 : (fun rr hh => rr = none ∧ ∃ (Kd' : ZK) (J' P' : Nat → Nat → Int) (Rd' : ZR) (n' s0' : Nat), hh = (KF Kd', zi J', zj P', RF Rd', n', s0') ∧ WD A c Kd' J' Rd' n' s0' ∧ Ev Kd J Rd n Kd' J' Rd' n' ∧ Rd' 40 0 = some r ∧ ∀ a, 35 ≤ a → a < 66 → P' a = P a : Option Value → ZH → Prop) = Q0
  show Z g l MX0_gather 0 [some (.ref 40), some (.ref r), some (.int (iZ t)), some (.ref 26), some (.ref 30), none, none, none] [] (KF Kd, zi J, zj P, RF Rd, n, s0) Q0
  have h66 := hW.1
  have hrb := hr.1
  have hrn := hr.2.1
  have hG0 := (WD_GF hW hr).2.1
  have hEn := WD_ent hW hr
  rw [hl, hE] at hG0
  have hn : 1 ≤ nl := hG0.1
  have hO := hG0.2.1
  have htb := truF_bd nl E
  have ht : 1 ≤ t ∧ t ≤ 100 := by omega
  have hok := eR_ok hn h3 hO ht
  have hlen := rows_len hn h3 hO ht.1 htr (J 35)
  have hst : GB Kd J Rd n r nl E t [] Kd (zup (zup J 40 2 t) 40 1 0) (zup Rd 40 0 (some r)) n s0 c := GB_start hW
  have rre : RF (zup Rd 40 0 (some r)) r 1 = some (ent Rd r) := by rw [RF_dyn hrb, zup_ne (by omega), ← hEn.1, RF_dyn hrb]
  refine z_aload_n dX0_gather_0 rfl rfl ?_
  refine z_aload_n dX0_gather_1 rfl rfl ?_
  refine z_putR (ci := 0) (kf := 0) dX0_gather_2 rfl (by decide) (by decide) rfl (by decide) (fun _ => rfl) (fun _ => rfl) w_167 ?_
  rw [RF_up (Or.inl rfl)]
  refine z_aload_n dX0_gather_5 rfl rfl ?_
  refine z_iload_n dX0_gather_6 rfl rfl ?_
  refine c_putI (ci := 0) (kf := 2) dX0_gather_7 rfl (by decide) (by decide) rfl (by decide) w_171 ?_
  refine z_aload_n dX0_gather_10 rfl rfl ?_
  refine c_iconst dX0_gather_11 ?_
  refine c_putI (ci := 0) (kf := 1) dX0_gather_12 rfl (by decide) (by decide) rfl (by decide) w_169 ?_
  refine z_aload_n dX0_gather_15 rfl rfl ?_
  refine c_getI (ci := 3) (kf := 0) dX0_gather_16 (FA_K1 hr) (by decide) (by decide) rfl w_276 ?_
  have hlS : (zup (zup J 40 2 t) 40 1 0) r 0 = nl := by rw [zzr (by omega), zzr (by omega)]; exact hl
  rw [hlS]
  refine c_iconst dX0_gather_19 ?_
  refine c_icmp_lt (tgt := 24) dX0_gather_20 (by decide) (by omega) (by omega) (fun h20 => ?_) (fun h20 => ?_)
  · refine z_aload dX0_gather_24 rfl ?_
    refine z_aload_n dX0_gather_26 rfl rfl ?_
    refine z_iload_n dX0_gather_27 rfl rfl ?_
    refine z_callv (N := MX2_openRows) (ci := 2) (nas := 2) (as := [_, _]) dX0_gather_28 w_609 w_606 w_607 w_608 w_5 (by decide +kernel) rfl rfl rfl (by decide) (Nat.le_of_ble_eq_true rfl) (by decide) (by decide) (ZC.mono (cMX2_openRows (r := r) (ee := ent Rd r) (nl := nl) (t := t) (E := E) hn h3 hO ht (FA_K1 hr) rre hEn.2.1 (by omega) hlS (by rw [zup_ne (by omega), zup_ne (by omega)]; exact hE) (by rw [zzr (by omega), zzr (by omega)]; exact hG0.2.2.1)) ?_)
    rintro _ _ ⟨rfl, J9, P9, rfl, hE0, hrs0, hoJ9, hoP9⟩
    have hl9 : J9 r 0 = nl := by rw [hoJ9 r (by omega) (by omega) (by omega)]; exact hlS
    have hE9 : J9 (ent Rd r) = E := by rw [hoJ9 _ (by omega) (by omega) (by omega), zup_ne (by omega), zup_ne (by omega)]; exact hE
    refine z_aload_n dX0_gather_31 rfl rfl ?_
    refine z_aload_n dX0_gather_32 rfl rfl ?_
    refine z_callv (N := MX1_load) (ci := 1) (nas := 1) (as := [_]) dX0_gather_33 w_352 w_613 w_350 w_351 w_4 (by decide +kernel) rfl rfl rfl (by decide) (Nat.le_of_ble_eq_true rfl) (by decide) (by decide) (ZC.mono (cMX1_load (FA_K1 hr) rre hEn.2.1 (by omega)) ?_)
    rintro _ _ ⟨rfl, rfl⟩
    rw [hl9, hE9]
    have hl10 : ∀ m : Int, dput J9 m E r 0 = nl := fun m => by rw [dput_off (by omega) (by omega)]; exact hl9
    refine z_aload_n dX0_gather_36 rfl rfl ?_
    refine z_aload_n dX0_gather_37 rfl rfl ?_
    refine c_getI (ci := 3) (kf := 0) dX0_gather_38 (FA_K1 hr) (by decide) (by decide) rfl w_276 ?_
    rw [hl10]
    refine c_iconst dX0_gather_41 ?_
    refine c_iadd dX0_gather_42 ?_
    refine c_putI (ci := 1) (kf := 0) dX0_gather_43 rfl (by decide) (by decide) rfl (by decide) w_79 ?_
    rw [dput_setl]
    refine z_aload_n dX0_gather_46 rfl rfl ?_
    refine z_aload_n dX0_gather_47 rfl rfl ?_
    refine c_getI (ci := 3) (kf := 0) dX0_gather_48 (FA_K1 hr) (by decide) (by decide) rfl w_276 ?_
    rw [hl10]
    refine z_aload_n dX0_gather_51 rfl rfl ?_
    refine c_getI (ci := 3) (kf := 0) dX0_gather_52 (FA_K1 hr) (by decide) (by decide) rfl w_276 ?_
    rw [hl10]
    refine z_iload_n dX0_gather_55 rfl rfl ?_
    refine z_callv (N := MX1_set) (ci := 1) (nas := 3) (as := [_, _, _]) dX0_gather_56 w_230 w_614 w_228 w_229 w_4 (by decide +kernel) rfl rfl rfl (by decide) (Nat.le_of_ble_eq_true rfl) (by decide) (by decide) (ZC.mono (cMX1_set (by omega) (by omega)) ?_)
    rintro _ _ ⟨rfl, rfl⟩
    rw [dput_ext (chE_zero (t := t) hn h3 hO.2.2.2)]
    refine c_iconst dX0_gather_59 ?_
    refine z_istore dX0_gather_60 (by decide) rfl ?_
    have L62 : ∀ (m62 : Nat), ∀ (gd k0 : Int) (L1 L2 : List V4) (v : V4) (K1 : ZK) (J1 P1 : Nat → Nat → Int) (R1 : ZR) (n1 s1 : Nat), (((L2.length : Nat) : Int)).toNat = m62 → (gd = ((L1.length : Nat) : Int) ∧ L1.length + L2.length ≤ 1000000) → (((eR nl E t).en nl.toNat (J 35)) = L1 ++ L2) → (EI (eR nl E t) J1 P1 k0) → (L2 = (eR nl E t).rs (J1 35) (J1 36) (k0 + 1).toNat) → (J1 26 0 = nl + 1 ∧ ∀ k, k < 16 → J1 27 k = (chE nl.toNat E t v) k) → (GB Kd J Rd n r nl E t L1 K1 J1 R1 n1 s1 c) → (∀ a, 35 ≤ a → a < 66 → P1 a = P a) → Z g l MX0_gather 62 [some (.ref 40), some (.ref r), some (.int (iZ t)), some (.ref 26), some (.ref 30), some (.int (iZ gd)), none, none] [] (KF K1, zi J1, zj P1, RF R1, n1, s1) Q0 := by
      intro m62
      induction m62 using Nat.strongRecOn with
      | ind m62 ih62 =>
        intro gd k0 L1 L2 v K1 J1 P1 R1 n1 s1 hm62 hg hH hEI hL2 hD hG hP
        refine z_iload dX0_gather_62 rfl ?_
        refine c_ldc (z := 4000000) dX0_gather_64 w_615 (by decide) ?_
        refine c_icmp_ge (tgt := 158) dX0_gather_66 (by decide) (by omega) (by omega) (fun h66 => ?_) (fun h66 => ?_)
        · exact absurd h66 (by omega)
        · refine z_aload dX0_gather_69 rfl ?_
          refine z_callv (N := MX2_advance) (ci := 2) (nas := 0) (as := []) dX0_gather_71 w_472 w_616 w_470 w_471 w_5 (by decide +kernel) rfl rfl rfl (by decide) (Nat.le_of_ble_eq_true rfl) (by decide) (by decide) (ZC.mono (cMX2_advance (e := (eR nl E t)) (L := L2) (k0 := k0) hok hEI hL2) ?_)
          rintro _ _ ⟨J2, P2, b71, rfl, rfl, hb71, hof⟩
          refine c_if_eq (tgt := 158) dX0_gather_74 (by decide) (by omega) (fun h74 => ?_) (fun h74 => ?_)
          · refine z_return dX0_gather_158 rfl ?_
            subst hQ0
            have hz := (hb71.resolve_left (fun z => by have := z.1; omega)).2
            rw [hz, List.append_nil] at hH
            have hG2 : GB Kd J Rd n r nl E t L1 K1 J2 R1 n1 s1 c := GB_scr hG (fun a a1 a2 a3 a4 a5 a6 => hof.1 a a4 a5 a6)
            rw [← hH] at hG2
            subst hl hE htr
            have q := GB_end hW hr h3 ht0 (J 35) hG2
            exact ⟨rfl, _, _, _, _, _, _, rfl, q.1, q.2.1, q.2.2, fun a a1 a2 => by rw [hof.2.2 a (by omega) (by omega)]; exact hP a a1 a2⟩
          · obtain ⟨hb1, L3, k3, hL3, hE3, hr3, hP3, hs3⟩ := hb71.resolve_right (fun z => h74 z.1)
            have hl2 : L1.length + (L3.length + 1) ≤ 1000000 := by
              have e := congrArg List.length hL3
              rw [List.length_cons] at e
              omega
            have hl3 : L2.length = L3.length + 1 := by rw [hL3, List.length_cons]
            have hV : (tupN nl.toNat (J2 35)) ∈ ((eR nl E t).en nl.toNat (J 35)) := by rw [hH, hL3]; exact List.mem_append_right _ List.mem_cons_self
            have hVat : ∀ q : Nat, q < nl.toNat → vAt (tupN nl.toNat (J2 35)) (q : Int) = J2 35 q := fun q hq => by rw [vAt_fv (by omega)]; exact fv_tup (by omega) hq
            have hVb : ∀ q : Nat, q < nl.toNat → -99 ≤ J2 35 q ∧ J2 35 q ≤ 99 := fun q hq => by have := row_bd hn h3 hO ht hV q hq; rw [hVat q hq] at this; exact this
            have k66 : 66 ≤ n1 := by have := hG.2.1.1; omega
            have kr1 : (KF K1 r).1 = 13 := by rw [KF_dyn hrb, (hG.2.1.2 r hrb hrn).1, hr.2.2]
            have jr1 : J1 r = J r := (hG.2.1.2 r hrb hrn).2.2 (by rw [hr.2.2]; exact rowK_k (by decide))
            have jr2 : J2 r = J r := by rw [hof.1 r (by omega) (by omega) (by omega)]; exact jr1
            have hlr : ∀ m F, dput J2 m F r 0 = nl := fun m F => by rw [dput_off (by omega) (by omega), jr2]; exact hl
            rw [show J2 = dput J2 (nl + 1) (chE nl.toNat E t v) from (dput_id (by rw [hof.1 26 (by decide) (by decide) (by decide)]; exact hD.1) (fun k hk => by rw [hof.1 27 (by decide) (by decide) (by decide)]; exact hD.2 k hk)).symm]
            refine c_iconst dX0_gather_77 ?_
            refine z_istore dX0_gather_78 (by decide) rfl ?_
            refine c_iconst dX0_gather_80 ?_
            refine z_istore dX0_gather_81 (by decide) rfl ?_
            have L83 : ∀ (m83 : Nat), ∀ (m : Int) (w : V4), (nl - m).toNat = m83 → (0 ≤ m ∧ m ≤ nl) → (∀ q : Nat, (q : Int) < m → vAt w (q : Int) = J2 35 q) → Z g l MX0_gather 83 [some (.ref 40), some (.ref r), some (.int (iZ t)), some (.ref 26), some (.ref 30), some (.int (iZ gd)), some (.int (iZ ((encN (J2 35) m.toNat : Nat) : Int))), some (.int (iZ m))] [] (KF K1, zi (dput J2 (nl + 1) (chE nl.toNat E t w)), zj P2, RF R1, n1, s1) Q0 := by
              intro m83
              induction m83 using Nat.strongRecOn with
              | ind m83 ih83 =>
                intro m w hm83 hm hw
                refine z_iload dX0_gather_83 rfl ?_
                refine z_aload_n dX0_gather_85 rfl rfl ?_
                refine c_getI (ci := 3) (kf := 0) dX0_gather_86 kr1 (by decide) (by decide) rfl w_276 ?_
                rw [hlr]
                refine c_icmp_ge (tgt := 139) dX0_gather_89 (by decide) (by omega) (by omega) (fun h89 => ?_) (fun h89 => ?_)
                · have em : m = nl := by omega
                  rw [em] at hw ⊢
                  have hcg : (chE nl.toNat E t w) = (chE nl.toNat E t (tupN nl.toNat (J2 35))) := chE_cg (fun q hq => by rw [hw q (by omega), hVat q hq])
                  rw [hcg, encN_V hn h3]
                  have hR140 := chE_bd (m := nl.toNat) (v := (tupN nl.toNat (J2 35))) hO.2.1.1 ht (fun q hq => by rw [hVat q hq]; have := hVb q hq; omega)
                  have hsy140 := chE_sym (t := t) (v := (tupN nl.toNat (J2 35))) hn h3 hO
                  refine z_aload_n dX0_gather_139 rfl rfl ?_
                  refine z_callv (N := MX1_isLawful) (ci := 1) (nas := 0) (as := []) dX0_gather_140 w_238 w_617 w_236 w_237 w_4 (by decide +kernel) rfl rfl rfl (by decide) (Nat.le_of_ble_eq_true rfl) (by decide) (by decide) (ZC.mono (cMX1_isLawful (by omega) hR140 hsy140) ?_)
                  rintro _ _ ⟨J4, P4, b4, rfl, rfl, hb140, hdl, hoJ4, hoP4⟩
                  have hG4 : GB Kd J Rd n r nl E t L1 K1 (dput J4 (nl + 1) (chE nl.toNat E t (tupN nl.toNat (J2 35)))) R1 n1 s1 c := GB_scr hG (fun a a1 a2 a3 a4 a5 a6 => by rw [dput_off a1 a2, hoJ4 a a1 a3, hof.1 a a4 a5 a6])
                  have hEI4 : ∀ JJ : Nat → Nat → Int, JJ 30 = J4 30 → JJ 35 = J4 35 → JJ 36 = J4 36 → EI (eR nl E t) JJ P4 k3 := fun JJ z1 z2 z3 => EI_mv hE3 (z1.trans (hoJ4 30 (by decide) (by decide))) (z2.trans (hoJ4 35 (by decide) (by decide))) (z3.trans (hoJ4 36 (by decide) (by decide))) (hoP4 31 (by decide)) (hoP4 32 (by decide)) (hoP4 33 (by decide)) (hoP4 34 (by decide))
                  have hL4 : ∀ JJ : Nat → Nat → Int, JJ 35 = J4 35 → JJ 36 = J4 36 → L3 = (eR nl E t).rs (JJ 35) (JJ 36) (k3 + 1).toNat := fun JJ z2 z3 => by rw [z2, z3, hoJ4 35 (by decide) (by decide), hoJ4 36 (by decide) (by decide)]; exact hr3
                  have hP4 : ∀ a, 35 ≤ a → a < 66 → P4 a = P a := fun a a1 a2 => by rw [hoP4 a (by omega), hof.2.2 a (by omega) (by omega)]; exact hP a a1 a2
                  have L152 : ∀ (K6 : ZK) (J6 : Nat → Nat → Int) (R6 : ZR) (n6 s6 : Nat), (EI (eR nl E t) J6 P4 k3) → (L3 = (eR nl E t).rs (J6 35) (J6 36) (k3 + 1).toNat) → (J6 26 0 = nl + 1 ∧ ∀ k, k < 16 → J6 27 k = (chE nl.toNat E t (tupN nl.toNat (J2 35))) k) → (GB Kd J Rd n r nl E t (L1 ++ [(tupN nl.toNat (J2 35))]) K6 J6 R6 n6 s6 c) → Z g l MX0_gather 152 [some (.ref 40), some (.ref r), some (.int (iZ t)), some (.ref 26), some (.ref 30), some (.int (iZ gd)), none, none] [] (KF K6, zi J6, zj P4, RF R6, n6, s6) Q0 := by
                    intro K6 J6 R6 n6 s6 hEI6 hL6 hD6 hG6
                    refine c_iinc dX0_gather_152 rfl (by decide) rfl ?_
                    refine z_goto (tgt := 62) dX0_gather_155 (by decide) ?_
                    exact Z.fg2 (ih62 _ (by omega) _ k3 (L1 ++ [(tupN nl.toNat (J2 35))]) L3 (tupN nl.toNat (J2 35)) _ _ _ _ _ _ rfl ⟨by rw [List.length_append, hg.1]; simp, by rw [List.length_append, List.length_singleton]; omega⟩ (by rw [hH, hL3, List.append_assoc]; rfl) hEI6 hL6 hD6 hG6 hP4) (zs1 rfl (zs1 rfl (zs1 rfl (zs1 rfl (zs1 rfl (zs1 rfl (zsn (zsn zs0))))))))
                  refine c_if_eq (tgt := 152) dX0_gather_143 (by decide) (by omega) (fun h143 => ?_) (fun h143 => ?_)
                  · have g140 := (hb140.resolve_left (fun z => by have := z.1; omega)).2
                    clear hb140
                    exact Z.fg2 (L152 _ _ _ _ _ (by first | exact hEI4 _ (dput_off (by decide) (by decide)) (dput_off (by decide) (by decide)) (dput_off (by decide) (by decide)) | exact hEI4 _ (by rw [hj5 30 (by decide) (by omega) (by omega)]; exact dput_off (by decide) (by decide)) (by rw [hj5 35 (by decide) (by omega) (by omega)]; exact dput_off (by decide) (by decide)) (by rw [hj5 36 (by decide) (by omega) (by omega)]; exact dput_off (by decide) (by decide))) (by first | exact hL4 _ (dput_off (by decide) (by decide)) (dput_off (by decide) (by decide)) | exact hL4 _ (by rw [hj5 35 (by decide) (by omega) (by omega)]; exact dput_off (by decide) (by decide)) (by rw [hj5 36 (by decide) (by omega) (by omega)]; exact dput_off (by decide) (by decide))) (by first | exact ⟨dput_let, fun k hk => dput_in hk⟩ | exact ⟨by rw [hj5 26 (by decide) (by omega) (by omega)]; exact dput_let, fun k hk => by rw [hj5 27 (by decide) (by omega) (by omega)]; exact dput_in hk⟩) (by first | exact GB_no hG4 g140 | exact hG5)) (zs1 rfl (zs1 rfl (zs1 rfl (zs1 rfl (zs1 rfl (zs1 rfl (zsn (zsn zs0))))))))
                  · have g140 := (hb140.resolve_right (fun z => by have := z.1; omega)).2
                    clear hb140
                    refine z_aload_n dX0_gather_146 rfl rfl ?_
                    refine z_iload dX0_gather_147 rfl ?_
                    obtain ⟨_, _, _, _, _, _, _, q8, rw9, j9, q9, q10, q11, q12⟩ := id hG4
                    have p9 : 1 ≤ 2 ^ j9 := Nat.one_le_two_pow
                    have p15 : 2 ^ j9 ≤ 32768 := by have := Nat.pow_le_pow_right (n := 2) (by decide) q10.2.2.1; simpa using this
                    have kl := kidF_len (nl := nl) (E := E) (t := t) (L := L1)
                    have r9 : rw9 ≠ 26 ∧ rw9 ≠ 27 ∧ rw9 ≠ 30 ∧ rw9 ≠ 35 ∧ rw9 ≠ 36 := by have := q10.2.2.2; omega
                    refine z_callv (N := MX0_add) (ci := 0) (nas := 1) (as := [_]) dX0_gather_149 w_621 w_618 w_620 ws_14 w_7 (by decide +kernel) rfl rfl rfl (by decide) (Nat.le_of_ble_eq_true rfl) (by decide) (by decide) (ZC.mono (cMX0_add (rw := rw9) (L := 64 * 2 ^ j9) (sz := ((kidF nl E t L1).length : Int)) (v := encV (tupN nl.toNat (J2 35))) q10.1 q10.2.1 (by omega) q8 (by omega) k66 q10.2.2.2) ?_)
                    rintro _ _ ⟨rfl, K5, J5, R5, n5, s5, rw5, L5, rfl, g51, g52, g53, g54, g55, g56, g57⟩
                    have hG5 : GB Kd J Rd n r nl E t (L1 ++ [(tupN nl.toNat (J2 35))]) K5 J5 R5 n5 s5 c := GB_yes hG4 g140 rfl (by omega) q9 q10 q12 g51.2.2 g52 g53 g54 g55 g56 g57
                    have hj5 : ∀ a, a ≠ 40 → a ≠ rw9 → a ≠ n1 → J5 a = dput J4 (nl + 1) (chE nl.toNat E t (tupN nl.toNat (J2 35))) a := g56
                    exact Z.fg2 (L152 _ _ _ _ _ (by first | exact hEI4 _ (dput_off (by decide) (by decide)) (dput_off (by decide) (by decide)) (dput_off (by decide) (by decide)) | exact hEI4 _ (by rw [hj5 30 (by decide) (by omega) (by omega)]; exact dput_off (by decide) (by decide)) (by rw [hj5 35 (by decide) (by omega) (by omega)]; exact dput_off (by decide) (by decide)) (by rw [hj5 36 (by decide) (by omega) (by omega)]; exact dput_off (by decide) (by decide))) (by first | exact hL4 _ (dput_off (by decide) (by decide)) (dput_off (by decide) (by decide)) | exact hL4 _ (by rw [hj5 35 (by decide) (by omega) (by omega)]; exact dput_off (by decide) (by decide)) (by rw [hj5 36 (by decide) (by omega) (by omega)]; exact dput_off (by decide) (by decide))) (by first | exact ⟨dput_let, fun k hk => dput_in hk⟩ | exact ⟨by rw [hj5 26 (by decide) (by omega) (by omega)]; exact dput_let, fun k hk => by rw [hj5 27 (by decide) (by omega) (by omega)]; exact dput_in hk⟩) (by first | exact GB_no hG4 g140 | exact hG5)) (zs1 rfl (zs1 rfl (zs1 rfl (zs1 rfl (zs1 rfl (zs1 rfl (zsn (zsn zs0))))))))
                · refine z_aload_n dX0_gather_92 rfl rfl ?_
                  refine z_aload_n dX0_gather_93 rfl rfl ?_
                  refine c_getI (ci := 3) (kf := 0) dX0_gather_94 kr1 (by decide) (by decide) rfl w_276 ?_
                  rw [hlr]
                  refine z_iload dX0_gather_97 rfl ?_
                  refine z_aload dX0_gather_99 rfl ?_
                  refine z_getR (ci := 2) (kf := 9) dX0_gather_101 rfl (by decide) (by decide) rfl w_122 rfl ?_
                  refine z_iload dX0_gather_104 rfl ?_
                  refine c_iald dX0_gather_106 rfl (by omega) (by decide) ?_
                  rw [dput_off (by decide) (by decide)]
                  refine z_callv (N := MX1_set) (ci := 1) (nas := 3) (as := [_, _, _]) dX0_gather_107 w_230 w_614 w_228 w_229 w_4 (by decide +kernel) rfl rfl rfl (by decide) (Nat.le_of_ble_eq_true rfl) (by decide) (by decide) (ZC.mono (cMX1_set (by omega) (by omega)) ?_)
                  rintro _ _ ⟨rfl, rfl⟩
                  rw [dput_ext (chE_set hn h3 (by omega))]
                  refine z_iload dX0_gather_110 rfl ?_
                  refine z_aload dX0_gather_112 rfl ?_
                  refine z_getR (ci := 2) (kf := 9) dX0_gather_114 rfl (by decide) (by decide) rfl w_122 rfl ?_
                  refine z_iload dX0_gather_117 rfl ?_
                  refine c_iald dX0_gather_119 rfl (by omega) (by decide) ?_
                  rw [dput_off (by decide) (by decide)]
                  have hbm := hVb m.toNat (by omega)
                  have hor := gb_or (x := J2 35) (m := m.toNat) (by omega) (by omega)
                  rw [show ((m.toNat : Nat) : Int) = m by omega, show m.toNat + 1 = (m + 1).toNat by omega] at hor
                  refine c_sipush dX0_gather_120 (by decide) ?_
                  refine z_iand dX0_gather_123 ?_
                  refine c_bipush dX0_gather_124 (by decide) ?_
                  refine z_iload dX0_gather_126 rfl ?_
                  refine c_imul dX0_gather_128 ?_
                  refine z_ishl dX0_gather_129 ?_
                  refine z_ior dX0_gather_130 ?_
                  rw [hor]
                  refine z_istore dX0_gather_131 (by decide) rfl ?_
                  refine c_iinc dX0_gather_133 rfl (by decide) rfl ?_
                  refine z_goto (tgt := 83) dX0_gather_136 (by decide) ?_
                  exact Z.fg2 (ih83 _ (by omega) (m + 1) (vput w m.toNat (J2 35 m.toNat)) rfl (by omega) (fun q hq => by rw [vput_at (by omega)]; by_cases z : q = m.toNat; (rw [if_pos z, z]); (rw [if_neg z]; exact hw q (by omega)))) (zs1 rfl (zs1 rfl (zs1 rfl (zs1 rfl (zs1 rfl (zs1 rfl (zs1 rfl (zs1 rfl zs0))))))))
            exact Z.fg2 (L83 _ 0 v rfl (by omega) (fun q hq => absurd hq (by omega))) (zs1 rfl (zs1 rfl (zs1 rfl (zs1 rfl (zs1 rfl (zs1 rfl (zs1 rfl (zs1 rfl zs0))))))))
    exact Z.fg2 (L62 _ _ 0 [] ((eR nl E t).en nl.toNat (J 35)) (0, 0, 0, 0) _ _ _ _ _ _ rfl ⟨rfl, by rw [List.length_nil]; omega⟩ rfl (EI_mv hE0 (dput_off (by decide) (by decide)) (dput_off (by decide) (by decide)) (dput_off (by decide) (by decide)) rfl rfl rfl rfl) (by rw [dput_off (by decide) (by decide), dput_off (by decide) (by decide), show ((0 : Int) + 1).toNat = 1 from rfl, hrs0, zup_ne (by decide), zup_ne (by decide)]) ⟨dput_let, fun k hk => dput_in hk⟩ (GB_scr hst (fun a a1 a2 a3 a4 a5 a6 => by rw [dput_off a1 a2, hoJ9 a a4 a5 a6])) (fun a a1 a2 => hoP9 a (by omega) (by omega) (by omega) (by omega))) (zs1 rfl (zs1 rfl (zs1 rfl (zs1 rfl (zs1 rfl (zs1 rfl (zsn (zsn zs0))))))))
  · exact absurd h20 (by omega)
end Cls25
