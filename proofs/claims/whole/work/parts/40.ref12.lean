section Ref12
variable {g : ZG} {l : Launch} {Kd : ZK} {Rd : ZR} {n s0 : Nat} {J P : Nat → Nat → Int}
theorem CntOK_keep {E : Nat → Int} {L : List V4} {J : Nat → Nat → Int} {k : Nat} {x : Int} (h : CntOK E L J) : CntOK E L (zup J 42 k x) := fun v hv => by
  rw [zzr (by decide), zzr (by decide), zzr (by decide), zzr (by decide), zzr (by decide)]; exact h v hv
set_option maxHeartbeats 4000000 in
set_option maxRecDepth 100000 in
theorem cMX9_layCounts {p : Int} (hp : 0 ≤ p ∧ p < 74) (hn : 0 ≤ J 44 p.toNat ∧ J 44 p.toNat ≤ 4) (hLw : lawS (J 44 p.toNat) (eE J p)) (hpos : ∀ x : V4, 0 ≤ wv (eE J p) x) : ZC g l MX9_layCounts [.ref 42, .int (iZ p)] (KF Kd, zi J, zj P, RF Rd, n, s0) (fun rr hh => rr = none ∧ ∃ J' P', hh = (KF Kd, zi J', zj P', RF Rd, n, s0) ∧ CntOK (eE J p) (vecF (J 44 p.toNat) (eE J p)) J' ∧ ((∀ a, a ≠ 42 → a ≠ 52 → a ≠ 54 → J' a = J a) ∧ ∀ q, q ≠ 17 → q ≠ 18 → q ≠ 19 → J' 42 q = J 42 q) ∧ ∀ a, a ≠ 49 → a ≠ 50 → a ≠ 42 → P' a = P a) := by
  refine ZC.of (by decide) (Nat.le_of_ble_eq_true rfl) ?_
  generalize hQ0 : (fun rr hh => rr = none ∧ ∃ J' P', hh = (KF Kd, zi J', zj P', RF Rd, n, s0) ∧ CntOK (eE J p) (vecF (J 44 p.toNat) (eE J p)) J' ∧ ((∀ a, a ≠ 42 → a ≠ 52 → a ≠ 54 → J' a = J a) ∧ ∀ q, q ≠ 17 → q ≠ 18 → q ≠ 19 → J' 42 q = J 42 q) ∧ ∀ a, a ≠ 49 → a ≠ 50 → a ≠ 42 → P' a = P a : Option Value → ZH → Prop) = Q0
  show Z g l MX9_layCounts 0 [some (.ref 42), some (.int (iZ p)), none, none, none, none] [] (KF Kd, zi J, zj P, RF Rd, n, s0) Q0
  have q0 := reachS_bd (J 44 p.toNat) (eE J p) 0
  have q1 := reachS_bd (J 44 p.toNat) (eE J p) 1
  have q2 := reachS_bd (J 44 p.toNat) (eE J p) 2
  have q3 := reachS_bd (J 44 p.toNat) (eE J p) 3
  have hbl := (box_len hLw.2.2).1
  refine z_aload_n dX9_layCounts_0 rfl rfl ?_
  refine z_iload_n dX9_layCounts_1 rfl rfl ?_
  refine z_callv (N := MX9_isLawful) (ci := 9) (nas := 1) (as := [_]) dX9_layCounts_2 w_914 w_911 w_913 ws_23 w_8 (by decide +kernel) rfl rfl rfl (by decide) (Nat.le_of_ble_eq_true rfl) (by decide) (by decide) (ZC.mono (cMX9_isLawful hp hn (lawS_rng hLw)) ?_)
  rintro _ _ ⟨P2, b2, rfl, rfl, hb2, hl2, ho2⟩
  clear hb2
  have hrs := (hl2 hLw).2.2
  refine z_istore_n dX9_layCounts_5 rfl (by decide) rfl ?_
  refine c_iconst dX9_layCounts_6 ?_
  refine z_istore_n dX9_layCounts_7 rfl (by decide) rfl ?_
  have L8 : ∀ (m8 : Nat), ∀ (k : Int) (J1 : Nat → Nat → Int), (101 - k).toNat = m8 → (0 ≤ k ∧ k ≤ 101) → (J1 = (fun a q => if a = 52 ∧ q < k.toNat then 0 else J a q)) → Z g l MX9_layCounts 8 [some (.ref 42), some (.int (iZ p)), none, some (.int (iZ k)), none, none] [] (KF Kd, zi J1, zj P2, RF Rd, n, s0) Q0 := by
    intro m8
    induction m8 using Nat.strongRecOn with
    | ind m8 ih8 =>
      intro k J1 hm8 hk hJ
      refine z_iload_n dX9_layCounts_8 rfl rfl ?_
      refine c_bipush dX9_layCounts_9 (by decide) ?_
      refine c_icmp_ge (tgt := 27) dX9_layCounts_11 (by decide) (by omega) (by omega) (fun h11 => ?_) (fun h11 => ?_)
      · refine z_aload_n dX9_layCounts_27 rfl rfl ?_
        refine z_getR (ci := 9) (kf := 10) dX9_layCounts_28 rfl (by decide) (by decide) rfl w_786 rfl ?_
        refine c_iconst dX9_layCounts_31 ?_
        refine c_lald dX9_layCounts_32 rfl (by omega) (by decide) ?_
        rw [show P2 50 (0 : Int).toNat = _ from hrs 0 (by omega)]
        refine c_l2i dX9_layCounts_33 ?_
        refine z_istore_n dX9_layCounts_34 rfl (by decide) rfl ?_
        refine z_aload_n dX9_layCounts_35 rfl rfl ?_
        refine z_getR (ci := 9) (kf := 10) dX9_layCounts_36 rfl (by decide) (by decide) rfl w_786 rfl ?_
        refine c_iconst dX9_layCounts_39 ?_
        refine c_lald dX9_layCounts_40 rfl (by omega) (by decide) ?_
        rw [show P2 50 (1 : Int).toNat = _ from hrs 1 (by omega)]
        refine c_l2i dX9_layCounts_41 ?_
        refine z_istore dX9_layCounts_42 (by decide) rfl ?_
        refine z_aload_n dX9_layCounts_44 rfl rfl ?_
        refine z_getR (ci := 9) (kf := 10) dX9_layCounts_45 rfl (by decide) (by decide) rfl w_786 rfl ?_
        refine c_iconst dX9_layCounts_48 ?_
        refine c_lald dX9_layCounts_49 rfl (by omega) (by decide) ?_
        rw [show P2 50 (2 : Int).toNat = _ from hrs 2 (by omega)]
        refine c_l2i dX9_layCounts_50 ?_
        refine z_istore dX9_layCounts_51 (by decide) rfl ?_
        refine z_aload_n dX9_layCounts_53 rfl rfl ?_
        refine z_iload_n dX9_layCounts_54 rfl rfl ?_
        refine c_putI (ci := 9) (kf := 17) dX9_layCounts_55 rfl (by decide) (by decide) rfl (by decide) w_793 ?_
        have L58 : ∀ (m58 : Nat), ∀ (x0 : Int) (J1 : Nat → Nat → Int), (x0 + reachS (J 44 p.toNat) (eE J p) 0 + 1).toNat = m58 → (-(reachS (J 44 p.toNat) (eE J p) 0) - 1 ≤ x0 ∧ x0 ≤ reachS (J 44 p.toNat) (eE J p) 0) → (J1 42 17 = x0) → (CntOK (eE J p) (vec0 (reachS (J 44 p.toNat) (eE J p) 0) (reachS (J 44 p.toNat) (eE J p) 1) (reachS (J 44 p.toNat) (eE J p) 2) (reachS (J 44 p.toNat) (eE J p) 3) (reachS (J 44 p.toNat) (eE J p) 0 - x0).toNat) J1) → ((∀ a, a ≠ 42 → a ≠ 52 → a ≠ 54 → J1 a = J a) ∧ ∀ q, q ≠ 17 → q ≠ 18 → q ≠ 19 → J1 42 q = J 42 q) → Z g l MX9_layCounts 58 [some (.ref 42), some (.int (iZ p)), none, some (.int (iZ (reachS (J 44 p.toNat) (eE J p) 0))), some (.int (iZ (reachS (J 44 p.toNat) (eE J p) 1))), some (.int (iZ (reachS (J 44 p.toNat) (eE J p) 2)))] [] (KF Kd, zi J1, zj P2, RF Rd, n, s0) Q0 := by
          intro m58
          induction m58 using Nat.strongRecOn with
          | ind m58 ih58 =>
            intro x0 J1 hm58 hx0 h17 hC hoff
            refine z_aload_n dX9_layCounts_58 rfl rfl ?_
            refine c_getI (ci := 9) (kf := 17) dX9_layCounts_59 rfl (by decide) (by decide) rfl w_793 ?_
            rw [h17]
            refine z_iload_n dX9_layCounts_62 rfl rfl ?_
            refine c_ineg dX9_layCounts_63 ?_
            refine c_icmp_lt (tgt := 150) dX9_layCounts_64 (by decide) (by omega) (by omega) (fun h64 => ?_) (fun h64 => ?_)
            · refine z_return dX9_layCounts_150 rfl ?_
              subst hQ0; refine ⟨rfl, J1, P2, rfl, ?_, hoff, ho2⟩; unfold vecF rN; rw [show (2 * reachS (J 44 p.toNat) (eE J p) 0 + 1).toNat = (reachS (J 44 p.toNat) (eE J p) 0 - x0).toNat by omega]; exact hC
            · refine z_aload_n dX9_layCounts_67 rfl rfl ?_
              refine z_iload dX9_layCounts_68 rfl ?_
              refine c_putI (ci := 9) (kf := 18) dX9_layCounts_70 rfl (by decide) (by decide) rfl (by decide) w_794 ?_
              have L73 : ∀ (m73 : Nat), ∀ (x1 : Int) (J1 : Nat → Nat → Int), (x1 + reachS (J 44 p.toNat) (eE J p) 1 + 1).toNat = m73 → (-(reachS (J 44 p.toNat) (eE J p) 1) - 1 ≤ x1 ∧ x1 ≤ reachS (J 44 p.toNat) (eE J p) 1) → (J1 42 17 = x0) → (J1 42 18 = x1) → (CntOK (eE J p) (vec0 (reachS (J 44 p.toNat) (eE J p) 0) (reachS (J 44 p.toNat) (eE J p) 1) (reachS (J 44 p.toNat) (eE J p) 2) (reachS (J 44 p.toNat) (eE J p) 3) (reachS (J 44 p.toNat) (eE J p) 0 - x0).toNat ++ vec1 x0 (reachS (J 44 p.toNat) (eE J p) 1) (reachS (J 44 p.toNat) (eE J p) 2) (reachS (J 44 p.toNat) (eE J p) 3) (reachS (J 44 p.toNat) (eE J p) 1 - x1).toNat) J1) → ((∀ a, a ≠ 42 → a ≠ 52 → a ≠ 54 → J1 a = J a) ∧ ∀ q, q ≠ 17 → q ≠ 18 → q ≠ 19 → J1 42 q = J 42 q) → Z g l MX9_layCounts 73 [some (.ref 42), some (.int (iZ p)), none, some (.int (iZ (reachS (J 44 p.toNat) (eE J p) 0))), some (.int (iZ (reachS (J 44 p.toNat) (eE J p) 1))), some (.int (iZ (reachS (J 44 p.toNat) (eE J p) 2)))] [] (KF Kd, zi J1, zj P2, RF Rd, n, s0) Q0 := by
                intro m73
                induction m73 using Nat.strongRecOn with
                | ind m73 ih73 =>
                  intro x1 J1 hm73 hx1 h17 h18 hC hoff
                  refine z_aload_n dX9_layCounts_73 rfl rfl ?_
                  refine c_getI (ci := 9) (kf := 18) dX9_layCounts_74 rfl (by decide) (by decide) rfl w_794 ?_
                  rw [h18]
                  refine z_iload dX9_layCounts_77 rfl ?_
                  refine c_ineg dX9_layCounts_79 ?_
                  refine c_icmp_lt (tgt := 137) dX9_layCounts_80 (by decide) (by omega) (by omega) (fun h80 => ?_) (fun h80 => ?_)
                  · refine z_aload_n dX9_layCounts_137 rfl rfl ?_
                    refine z_dup dX9_layCounts_138 rfl ?_
                    refine c_getI (ci := 9) (kf := 17) dX9_layCounts_139 rfl (by decide) (by decide) rfl w_793 ?_
                    rw [h17]
                    refine c_iconst dX9_layCounts_142 ?_
                    refine c_isub dX9_layCounts_143 ?_
                    refine c_putI (ci := 9) (kf := 17) dX9_layCounts_144 rfl (by decide) (by decide) rfl (by decide) w_793 ?_
                    refine z_goto (tgt := 58) dX9_layCounts_147 (by decide) ?_
                    exact Z.fg2 (ih58 _ (by omega) _ _ rfl (by omega) zz (by rw [show (reachS (J 44 p.toNat) (eE J p) 0 - (x0 - 1)).toNat = (reachS (J 44 p.toNat) (eE J p) 0 - x0).toNat + 1 by omega, vec0_succ, show (reachS (J 44 p.toNat) (eE J p) 0) - (((reachS (J 44 p.toNat) (eE J p) 0 - x0).toNat : Nat) : Int) = x0 by omega, show (2 * reachS (J 44 p.toNat) (eE J p) 1 + 1).toNat = (reachS (J 44 p.toNat) (eE J p) 1 - x1).toNat by omega]; exact CntOK_keep hC) ⟨fun a a1 a2 a3 => by rw [zup_ne a1]; exact hoff.1 a a1 a2 a3, fun q z1 z2 z3 => by rw [zzi z1]; exact hoff.2 q z1 z2 z3⟩) (zs1 rfl (zs1 rfl (zsn (zs1 rfl (zs1 rfl (zs1 rfl zs0))))))
                  · refine z_aload_n dX9_layCounts_83 rfl rfl ?_
                    refine z_iload dX9_layCounts_84 rfl ?_
                    refine c_putI (ci := 9) (kf := 19) dX9_layCounts_86 rfl (by decide) (by decide) rfl (by decide) w_795 ?_
                    have L89 : ∀ (m89 : Nat), ∀ (x2 : Int) (J1 : Nat → Nat → Int), (x2 + reachS (J 44 p.toNat) (eE J p) 2 + 1).toNat = m89 → (-(reachS (J 44 p.toNat) (eE J p) 2) - 1 ≤ x2 ∧ x2 ≤ reachS (J 44 p.toNat) (eE J p) 2) → (J1 42 17 = x0) → (J1 42 18 = x1) → (J1 42 19 = x2) → (CntOK (eE J p) (vec0 (reachS (J 44 p.toNat) (eE J p) 0) (reachS (J 44 p.toNat) (eE J p) 1) (reachS (J 44 p.toNat) (eE J p) 2) (reachS (J 44 p.toNat) (eE J p) 3) (reachS (J 44 p.toNat) (eE J p) 0 - x0).toNat ++ vec1 x0 (reachS (J 44 p.toNat) (eE J p) 1) (reachS (J 44 p.toNat) (eE J p) 2) (reachS (J 44 p.toNat) (eE J p) 3) (reachS (J 44 p.toNat) (eE J p) 1 - x1).toNat ++ vec2 x0 x1 (reachS (J 44 p.toNat) (eE J p) 2) (reachS (J 44 p.toNat) (eE J p) 3) (reachS (J 44 p.toNat) (eE J p) 2 - x2).toNat) J1) → ((∀ a, a ≠ 42 → a ≠ 52 → a ≠ 54 → J1 a = J a) ∧ ∀ q, q ≠ 17 → q ≠ 18 → q ≠ 19 → J1 42 q = J 42 q) → Z g l MX9_layCounts 89 [some (.ref 42), some (.int (iZ p)), none, some (.int (iZ (reachS (J 44 p.toNat) (eE J p) 0))), some (.int (iZ (reachS (J 44 p.toNat) (eE J p) 1))), some (.int (iZ (reachS (J 44 p.toNat) (eE J p) 2)))] [] (KF Kd, zi J1, zj P2, RF Rd, n, s0) Q0 := by
                      intro m89
                      induction m89 using Nat.strongRecOn with
                      | ind m89 ih89 =>
                        intro x2 J1 hm89 hx2 h17 h18 h19 hC hoff
                        refine z_aload_n dX9_layCounts_89 rfl rfl ?_
                        refine c_getI (ci := 9) (kf := 19) dX9_layCounts_90 rfl (by decide) (by decide) rfl w_795 ?_
                        rw [h19]
                        refine z_iload dX9_layCounts_93 rfl ?_
                        refine c_ineg dX9_layCounts_95 ?_
                        refine c_icmp_lt (tgt := 124) dX9_layCounts_96 (by decide) (by omega) (by omega) (fun h96 => ?_) (fun h96 => ?_)
                        · refine z_aload_n dX9_layCounts_124 rfl rfl ?_
                          refine z_dup dX9_layCounts_125 rfl ?_
                          refine c_getI (ci := 9) (kf := 18) dX9_layCounts_126 rfl (by decide) (by decide) rfl w_794 ?_
                          rw [h18]
                          refine c_iconst dX9_layCounts_129 ?_
                          refine c_isub dX9_layCounts_130 ?_
                          refine c_putI (ci := 9) (kf := 18) dX9_layCounts_131 rfl (by decide) (by decide) rfl (by decide) w_794 ?_
                          refine z_goto (tgt := 73) dX9_layCounts_134 (by decide) ?_
                          exact Z.fg2 (ih73 _ (by omega) _ _ rfl (by omega) (by rw [zzi (by decide)]; exact h17) zz (by rw [show (reachS (J 44 p.toNat) (eE J p) 1 - (x1 - 1)).toNat = (reachS (J 44 p.toNat) (eE J p) 1 - x1).toNat + 1 by omega, vec1_succ, show (reachS (J 44 p.toNat) (eE J p) 1) - (((reachS (J 44 p.toNat) (eE J p) 1 - x1).toNat : Nat) : Int) = x1 by omega, show (2 * reachS (J 44 p.toNat) (eE J p) 2 + 1).toNat = (reachS (J 44 p.toNat) (eE J p) 2 - x2).toNat by omega, ← List.append_assoc]; exact CntOK_keep hC) ⟨fun a a1 a2 a3 => by rw [zup_ne a1]; exact hoff.1 a a1 a2 a3, fun q z1 z2 z3 => by rw [zzi z2]; exact hoff.2 q z1 z2 z3⟩) (zs1 rfl (zs1 rfl (zsn (zs1 rfl (zs1 rfl (zs1 rfl zs0))))))
                        · refine z_aload_n dX9_layCounts_99 rfl rfl ?_
                          refine z_iload_n dX9_layCounts_100 rfl rfl ?_
                          refine z_aload_n dX9_layCounts_101 rfl rfl ?_
                          refine z_getR (ci := 9) (kf := 10) dX9_layCounts_102 rfl (by decide) (by decide) rfl w_786 rfl ?_
                          refine c_iconst dX9_layCounts_105 ?_
                          refine c_lald dX9_layCounts_106 rfl (by omega) (by decide) ?_
                          rw [show P2 50 (3 : Int).toNat = _ from hrs 3 (by omega)]
                          refine c_l2i dX9_layCounts_107 ?_
                          have heE : eE J1 p = eE J p := by unfold eE; rw [hoff.1 43 (by decide) (by decide) (by decide)]
                          have hlen : ((vec0 (reachS (J 44 p.toNat) (eE J p) 0) (reachS (J 44 p.toNat) (eE J p) 1) (reachS (J 44 p.toNat) (eE J p) 2) (reachS (J 44 p.toNat) (eE J p) 3) (reachS (J 44 p.toNat) (eE J p) 0 - x0).toNat ++ vec1 x0 (reachS (J 44 p.toNat) (eE J p) 1) (reachS (J 44 p.toNat) (eE J p) 2) (reachS (J 44 p.toNat) (eE J p) 3) (reachS (J 44 p.toNat) (eE J p) 1 - x1).toNat ++ vec2 x0 x1 (reachS (J 44 p.toNat) (eE J p) 2) (reachS (J 44 p.toNat) (eE J p) 3) (reachS (J 44 p.toNat) (eE J p) 2 - x2).toNat).length : Int) ≤ 1000000000 := by
                            rw [List.length_append, List.length_append, vec0_len, vec1_len, vec2_len]
                            have := part_len (k0 := (reachS (J 44 p.toNat) (eE J p) 0 - x0).toNat) (k1 := (reachS (J 44 p.toNat) (eE J p) 1 - x1).toNat) (k2 := (reachS (J 44 p.toNat) (eE J p) 2 - x2).toNat) hbl (rN_pos _ _ 0) (rN_pos _ _ 1) (by unfold rN; omega) (by unfold rN; omega) (by unfold rN; omega)
                            unfold rN at this
                            omega
                          refine z_callv (N := MX9_layLast) (ci := 9) (nas := 2) (as := [_, _]) dX9_layCounts_108 w_1027 w_1024 w_1026 ws_33 w_8 (by decide +kernel) rfl rfl rfl (by decide) (Nat.le_of_ble_eq_true rfl) (by decide) (by decide) (ZC.mono (cMX9_layLast (L := vec0 (reachS (J 44 p.toNat) (eE J p) 0) (reachS (J 44 p.toNat) (eE J p) 1) (reachS (J 44 p.toNat) (eE J p) 2) (reachS (J 44 p.toNat) (eE J p) 3) (reachS (J 44 p.toNat) (eE J p) 0 - x0).toNat ++ vec1 x0 (reachS (J 44 p.toNat) (eE J p) 1) (reachS (J 44 p.toNat) (eE J p) 2) (reachS (J 44 p.toNat) (eE J p) 3) (reachS (J 44 p.toNat) (eE J p) 1 - x1).toNat ++ vec2 x0 x1 (reachS (J 44 p.toNat) (eE J p) 2) (reachS (J 44 p.toNat) (eE J p) 3) (reachS (J 44 p.toNat) (eE J p) 2 - x2).toNat) hp (by rw [heE]; exact hLw.1) (by omega) (by rw [h17]; omega) (by rw [h18]; omega) (by rw [h19]; omega) (fun t _ => by rw [heE]; exact hpos _) hlen (by rw [heE]; exact hC)) ?_)
                          rintro _ _ ⟨rfl, J2, rfl, hC2, hO2⟩
                          rw [heE, h17, h18, h19] at hC2
                          refine z_aload_n dX9_layCounts_111 rfl rfl ?_
                          refine z_dup dX9_layCounts_112 rfl ?_
                          refine c_getI (ci := 9) (kf := 19) dX9_layCounts_113 rfl (by decide) (by decide) rfl w_795 ?_
                          rw [show J2 42 19 = x2 by rw [hO2 42 (by decide) (by decide)]; exact h19]
                          refine c_iconst dX9_layCounts_116 ?_
                          refine c_isub dX9_layCounts_117 ?_
                          refine c_putI (ci := 9) (kf := 19) dX9_layCounts_118 rfl (by decide) (by decide) rfl (by decide) w_795 ?_
                          refine z_goto (tgt := 89) dX9_layCounts_121 (by decide) ?_
                          exact Z.fg2 (ih89 _ (by omega) _ _ rfl (by omega) (by rw [zzi (by decide), hO2 42 (by decide) (by decide)]; exact h17) (by rw [zzi (by decide), hO2 42 (by decide) (by decide)]; exact h18) zz (by rw [show (reachS (J 44 p.toNat) (eE J p) 2 - (x2 - 1)).toNat = (reachS (J 44 p.toNat) (eE J p) 2 - x2).toNat + 1 by omega, vec2_succ, show (reachS (J 44 p.toNat) (eE J p) 2) - (((reachS (J 44 p.toNat) (eE J p) 2 - x2).toNat : Nat) : Int) = x2 by omega, ← List.append_assoc]; exact CntOK_keep hC2) ⟨fun a a1 a2 a3 => by rw [zup_ne a1, hO2 a a2 a3]; exact hoff.1 a a1 a2 a3, fun q z1 z2 z3 => by rw [zzi z3, hO2 42 (by decide) (by decide)]; exact hoff.2 q z1 z2 z3⟩) (zs1 rfl (zs1 rfl (zsn (zs1 rfl (zs1 rfl (zs1 rfl zs0))))))
                    exact Z.fg2 (L89 _ _ _ rfl (by omega) (by rw [zzi (by decide)]; exact h17) (by rw [zzi (by decide)]; exact h18) zz (by rw [show ((reachS (J 44 p.toNat) (eE J p) 2) - (reachS (J 44 p.toNat) (eE J p) 2)).toNat = 0 by omega]; show CntOK _ (_ ++ []) _; rw [List.append_nil]; exact CntOK_keep hC) ⟨fun a a1 a2 a3 => by rw [zup_ne a1]; exact hoff.1 a a1 a2 a3, fun q z1 z2 z3 => by rw [zzi z3]; exact hoff.2 q z1 z2 z3⟩) (zs1 rfl (zs1 rfl (zsn (zs1 rfl (zs1 rfl (zs1 rfl zs0))))))
              exact Z.fg2 (L73 _ _ _ rfl (by omega) (by rw [zzi (by decide)]; exact h17) zz (by rw [show ((reachS (J 44 p.toNat) (eE J p) 1) - (reachS (J 44 p.toNat) (eE J p) 1)).toNat = 0 by omega]; show CntOK _ (_ ++ []) _; rw [List.append_nil]; exact CntOK_keep hC) ⟨fun a a1 a2 a3 => by rw [zup_ne a1]; exact hoff.1 a a1 a2 a3, fun q z1 z2 z3 => by rw [zzi z2]; exact hoff.2 q z1 z2 z3⟩) (zs1 rfl (zs1 rfl (zsn (zs1 rfl (zs1 rfl (zs1 rfl zs0))))))
        exact Z.fg2 (L58 _ _ _ rfl (by omega) zz (by rw [show ((reachS (J 44 p.toNat) (eE J p) 0) - (reachS (J 44 p.toNat) (eE J p) 0)).toNat = 0 by omega]; subst hJ; intro v hv; refine ⟨?_, fun hc => absurd hc (by simp [vec0, dnF, cntL])⟩; rw [zzr (by decide), if_pos (by omega)]; simp [vec0, dnF, cntL]) ⟨fun a a1 a2 a3 => by subst hJ; rw [zup_ne a1]; funext q; rw [if_neg (by omega)], fun q q1 q2 q3 => by subst hJ; rw [zzi q1, if_neg (by omega)]⟩) (zs1 rfl (zs1 rfl (zsn (zs1 rfl (zs1 rfl (zs1 rfl zs0))))))
      · refine z_aload_n dX9_layCounts_14 rfl rfl ?_
        refine z_getR (ci := 9) (kf := 14) dX9_layCounts_15 rfl (by decide) (by decide) rfl w_790 rfl ?_
        refine z_iload_n dX9_layCounts_18 rfl rfl ?_
        refine c_iconst dX9_layCounts_19 ?_
        refine c_iast dX9_layCounts_20 rfl (by omega) (by decide) ?_
        refine c_iinc dX9_layCounts_21 rfl (by decide) rfl ?_
        refine z_goto (tgt := 8) dX9_layCounts_24 (by decide) ?_
        exact Z.fg2 (ih8 _ (by omega) _ _ rfl (by omega) (by clear ih8 hQ0 hpos; subst hJ; funext a q; simp only [zup]; grind)) (zs1 rfl (zs1 rfl (zsn (zs1 rfl (zsn (zsn zs0))))))
  exact Z.fg2 (L8 _ _ _ rfl (by omega) (by funext a q; rw [if_neg (by omega)])) (zs1 rfl (zs1 rfl (zsn (zs1 rfl (zsn (zsn zs0))))))
end Ref12
