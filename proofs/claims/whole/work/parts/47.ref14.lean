section Ref14
variable {g : ZG} {l : Launch} {Kd : ZK} {Rd : ZR} {n s0 : Nat} {J P : Nat → Nat → Int}
theorem told_step {P2 : Nat → Nat → Int} {nl m c i x : Int} (hi : 0 ≤ i) (hT : ∀ q : Nat, (q : Int) < i → P2 51 q = dgv nl m c q) (hx : x = dgv nl m c i.toNat) : ∀ q : Nat, (q : Int) < i + 1 → zup P2 51 i.toNat x 51 q = dgv nl m c q := fun q hq => by
  by_cases e : q = i.toNat
  · subst e; rw [zz, hx]
  · rw [zzi e]; exact hT q (by omega)
set_option maxHeartbeats 4000000 in
set_option maxRecDepth 100000 in
theorem cMX9_restsBy {p m : Int} (hp : 0 ≤ p ∧ p < 74) (hm : 2 ≤ m ∧ m ≤ 16) (h1 : 1 ≤ J 44 p.toNat) (hF : okF (J 44 p.toNat) (eE J p)) : ZC g l MX9_restsBy [.ref 42, .int (iZ p), .int (iZ m)] (KF Kd, zi J, zj P, RF Rd, n, s0) (fun rr hh => ∃ P', hh = (KF Kd, zi J, zj P', RF Rd, n, s0) ∧ rr = some (.int (iZ ((restS (J 44 p.toNat) (eE J p) m : Nat) : Int))) ∧ ∀ a, a ≠ 51 → P' a = P a) := by
  refine ZC.of (by decide) (Nat.le_of_ble_eq_true rfl) ?_
  generalize hQ0 : (fun rr hh => ∃ P', hh = (KF Kd, zi J, zj P', RF Rd, n, s0) ∧ rr = some (.int (iZ ((restS (J 44 p.toNat) (eE J p) m : Nat) : Int))) ∧ ∀ a, a ≠ 51 → P' a = P a : Option Value → ZH → Prop) = Q0
  show Z g l MX9_restsBy 0 [some (.ref 42), some (.int (iZ p)), some (.int (iZ m)), none, none, none, none, none, none, none, none, none] [] (KF Kd, zi J, zj P, RF Rd, n, s0) Q0
  have hps := okF_pos h1 hF
  have hal := allS_bd (nl := J 44 p.toNat) hm
  have h4 := hF.1
  have hE := hF.2.1.1
  refine c_iconst dX9_restsBy_0 ?_
  refine z_istore_n dX9_restsBy_1 rfl (by decide) rfl ?_
  refine z_aload_n dX9_restsBy_2 rfl rfl ?_
  refine z_getR (ci := 9) (kf := 1) dX9_restsBy_3 rfl (by decide) (by decide) rfl w_777 rfl ?_
  refine z_iload_n dX9_restsBy_6 rfl rfl ?_
  refine c_iald dX9_restsBy_7 rfl (by omega) (by decide) ?_
  refine z_istore dX9_restsBy_8 (by decide) rfl ?_
  have L53 : ∀ (v : Int), (v = allS (J 44 p.toNat) m) → Z g l MX9_restsBy 53 [some (.ref 42), some (.int (iZ p)), some (.int (iZ m)), some (.int (iZ 0)), some (.int (iZ (J 44 p.toNat))), none, none, none, none, none, none, none] [.int (iZ v)] (KF Kd, zi J, zj P, RF Rd, n, s0) Q0 := by
    intro v hv
    subst hv
    refine z_istore dX9_restsBy_53 (by decide) rfl ?_
    refine c_iconst dX9_restsBy_55 ?_
    refine z_istore dX9_restsBy_56 (by decide) rfl ?_
    have L58 : ∀ (m58 : Nat), ∀ (c : Int) (P1 : Nat → Nat → Int), (allS (J 44 p.toNat) m - c).toNat = m58 → (0 ≤ c ∧ c ≤ allS (J 44 p.toNat) m) → (∀ a, a ≠ 51 → P1 a = P a) → Z g l MX9_restsBy 58 [some (.ref 42), some (.int (iZ p)), some (.int (iZ m)), some (.int (iZ ((resS (J 44 p.toNat) (eE J p) m c.toNat : Nat) : Int))), some (.int (iZ (J 44 p.toNat))), some (.int (iZ (allS (J 44 p.toNat) m))), some (.int (iZ c)), none, none, none, none, none] [] (KF Kd, zi J, zj P1, RF Rd, n, s0) Q0 := by
      intro m58
      induction m58 using Nat.strongRecOn with
      | ind m58 ih58 =>
        intro c P1 hm58 hc hP1
        refine z_iload dX9_restsBy_58 rfl ?_
        refine z_iload dX9_restsBy_60 rfl ?_
        refine c_icmp_ge (tgt := 196) dX9_restsBy_62 (by decide) (by omega) (by omega) (fun h62 => ?_) (fun h62 => ?_)
        · refine z_iload_n dX9_restsBy_196 rfl rfl ?_
          refine c_ireturn dX9_restsBy_197 rfl ?_
          subst hQ0; refine ⟨_, rfl, ?_, hP1⟩; unfold restS; rw [show c.toNat = (allS (J 44 p.toNat) m).toNat by omega]
        · refine z_iload dX9_restsBy_65 rfl ?_
          refine z_istore dX9_restsBy_67 (by decide) rfl ?_
          refine c_iconst dX9_restsBy_69 ?_
          refine z_istore dX9_restsBy_70 (by decide) rfl ?_
          have L72 : ∀ (m72 : Nat), ∀ (i lf : Int) (P2 : Nat → Nat → Int), (4 - i).toNat = m72 → (0 ≤ i ∧ i ≤ 4) → (lf = lft m c i.toNat) → (∀ q : Nat, (q : Int) < i → P2 51 q = dgv (J 44 p.toNat) m c q) → (∀ a, a ≠ 51 → P2 a = P a) → Z g l MX9_restsBy 72 [some (.ref 42), some (.int (iZ p)), some (.int (iZ m)), some (.int (iZ ((resS (J 44 p.toNat) (eE J p) m c.toNat : Nat) : Int))), some (.int (iZ (J 44 p.toNat))), some (.int (iZ (allS (J 44 p.toNat) m))), some (.int (iZ c)), some (.int (iZ lf)), some (.int (iZ i)), none, none, none] [] (KF Kd, zi J, zj P2, RF Rd, n, s0) Q0 := by
            intro m72
            induction m72 using Nat.strongRecOn with
            | ind m72 ih72 =>
              intro i lf P2 hm72 hi hlf hT hP2
              have hln := lft_nn (m := m) (c := c) (by omega) (by omega) i.toNat
              have hll := lft_le (m := m) (c := c) (by omega) (by omega) i.toNat
              refine z_iload dX9_restsBy_72 rfl ?_
              refine c_iconst dX9_restsBy_74 ?_
              refine c_icmp_ge (tgt := 113) dX9_restsBy_75 (by decide) (by omega) (by omega) (fun h75 => ?_) (fun h75 => ?_)
              · refine c_lconst0 dX9_restsBy_113 ?_
                refine z_lstore dX9_restsBy_114 (by decide) rfl ?_
                refine c_iconst dX9_restsBy_116 ?_
                refine z_istore dX9_restsBy_117 (by decide) rfl ?_
                have L119 : ∀ (m119 : Nat), ∀ (i v : Int), ((J 44 p.toNat) - i).toNat = m119 → (0 ≤ i ∧ i ≤ (J 44 p.toNat)) → (v = qsum (eE J p) (dgv (J 44 p.toNat) m c) ((J 44 p.toNat)).toNat i.toNat) → Z g l MX9_restsBy 119 [some (.ref 42), some (.int (iZ p)), some (.int (iZ m)), some (.int (iZ ((resS (J 44 p.toNat) (eE J p) m c.toNat : Nat) : Int))), some (.int (iZ (J 44 p.toNat))), some (.int (iZ (allS (J 44 p.toNat) m))), some (.int (iZ c)), none, some (.long (lZ v)), none, some (.int (iZ i)), none] [] (KF Kd, zi J, zj P2, RF Rd, n, s0) Q0 := by
                  intro m119
                  induction m119 using Nat.strongRecOn with
                  | ind m119 ih119 =>
                    intro i v hm119 hi hv
                    skip
                    refine z_iload dX9_restsBy_119 rfl ?_
                    refine z_iload dX9_restsBy_121 rfl ?_
                    refine c_icmp_ge (tgt := 179) dX9_restsBy_123 (by decide) (by omega) (by omega) (fun h123 => ?_) (fun h123 => ?_)
                    · have hxb : ∀ q, q < 4 → 0 ≤ (dgv (J 44 p.toNat) m c) q ∧ (dgv (J 44 p.toNat) m c) q < 16 := fun q _ => by have := dgv_bd (nl := J 44 p.toNat) (m := m) (c := c) (by omega) (by omega) q; omega
                      have hqb := qsum_bd (n := ((J 44 p.toNat)).toNat) (by omega) hE hxb i.toNat (by omega)
                      have hvw : v = wv (eE J p) (dgV (J 44 p.toNat) m c) := by rw [hv, show i.toNat = ((J 44 p.toNat)).toNat by omega]; exact qsum_wv h1 h4 hF.2.2.1 hF.2.2.2
                      have hv0 : 0 ≤ v := by rw [hvw]; exact hps _
                      have hvr : rL v := by omega
                      refine z_iload_n dX9_restsBy_179 rfl rfl ?_
                      refine c_iconst dX9_restsBy_180 ?_
                      refine z_lload dX9_restsBy_181 rfl ?_
                      refine z_iload_n dX9_restsBy_183 rfl rfl ?_
                      refine c_i2l dX9_restsBy_184 (by omega) ?_
                      refine c_lrem dX9_restsBy_185 (by omega) (by omega) (by omega) (by omega) ?_
                      have htm : 0 ≤ v.tmod m ∧ v.tmod m < m := by rw [Int.tmod_eq_emod_of_nonneg (by omega)]; exact ⟨Int.emod_nonneg _ (by omega), Int.emod_lt_of_pos _ (by omega)⟩
                      refine c_l2i dX9_restsBy_186 ?_
                      refine z_ishl dX9_restsBy_187 ?_
                      refine z_ior dX9_restsBy_188 ?_
                      rw [iZ_sh htm.1 (by omega), iZ_or]
                      rw [show resS (J 44 p.toNat) (eE J p) m c.toNat ||| 2 ^ (v.tmod m).toNat = resS (J 44 p.toNat) (eE J p) m (c + 1).toNat by rw [show (c + 1).toNat = c.toNat + 1 by omega, resS, show ((c.toNat : Nat) : Int) = c by omega, hvw]]
                      refine z_istore_n dX9_restsBy_189 rfl (by decide) rfl ?_
                      refine c_iinc dX9_restsBy_190 rfl (by decide) rfl ?_
                      refine z_goto (tgt := 58) dX9_restsBy_193 (by decide) ?_
                      exact Z.fg2 (ih58 _ (by omega) _ _ rfl (by omega) hP2) (zs1 rfl (zs1 rfl (zs1 rfl (zs1 rfl (zs1 rfl (zs1 rfl (zs1 rfl (zsn (zsn (zsn (zsn (zsn zs0))))))))))))
                    · refine c_iconst dX9_restsBy_126 ?_
                      refine z_istore dX9_restsBy_127 (by decide) rfl ?_
                      have L129 : ∀ (m129 : Nat), ∀ (j w : Int), ((J 44 p.toNat) - j).toNat = m129 → (0 ≤ j ∧ j ≤ (J 44 p.toNat)) → (w = qsum (eE J p) (dgv (J 44 p.toNat) m c) ((J 44 p.toNat)).toNat i.toNat + rsum (eE J p) (dgv (J 44 p.toNat) m c) i.toNat j.toNat) → Z g l MX9_restsBy 129 [some (.ref 42), some (.int (iZ p)), some (.int (iZ m)), some (.int (iZ ((resS (J 44 p.toNat) (eE J p) m c.toNat : Nat) : Int))), some (.int (iZ (J 44 p.toNat))), some (.int (iZ (allS (J 44 p.toNat) m))), some (.int (iZ c)), none, some (.long (lZ w)), none, some (.int (iZ i)), some (.int (iZ j))] [] (KF Kd, zi J, zj P2, RF Rd, n, s0) Q0 := by
                        intro m129
                        induction m129 using Nat.strongRecOn with
                        | ind m129 ih129 =>
                          intro j w hm129 hj hw
                          refine z_iload dX9_restsBy_129 rfl ?_
                          refine z_iload dX9_restsBy_131 rfl ?_
                          refine c_icmp_ge (tgt := 173) dX9_restsBy_133 (by decide) (by omega) (by omega) (fun h133 => ?_) (fun h133 => ?_)
                          · refine c_iinc dX9_restsBy_173 rfl (by decide) rfl ?_
                            refine z_goto (tgt := 119) dX9_restsBy_176 (by decide) ?_
                            exact Z.fg2 (ih119 _ (by omega) _ _ rfl (by omega) (by rw [hw, show (i + 1).toNat = i.toNat + 1 by omega, qsum, show j.toNat = (J 44 p.toNat).toNat by omega])) (zs1 rfl (zs1 rfl (zs1 rfl (zs1 rfl (zs1 rfl (zs1 rfl (zs1 rfl (zsn (zs1 rfl (zsn (zs1 rfl (zsn zs0))))))))))))
                          · refine z_lload dX9_restsBy_136 rfl ?_
                            refine z_aload_n dX9_restsBy_138 rfl rfl ?_
                            refine z_iload_n dX9_restsBy_139 rfl rfl ?_
                            refine z_iload dX9_restsBy_140 rfl ?_
                            refine z_iload dX9_restsBy_142 rfl ?_
                            skip
                            refine z_callv (N := MX9_entryAt) (ci := 9) (nas := 3) (as := [_, _, _]) dX9_restsBy_144 w_925 w_922 w_924 ws_25 w_8 (by decide +kernel) rfl rfl rfl (by decide) (Nat.le_of_ble_eq_true rfl) (by decide) (by decide) (ZC.mono (cMX9_entryAt (by omega)) ?_)
                            rintro _ _ ⟨rfl, rfl⟩
                            rw [eE_at (J := J) (by omega) (by omega) (by omega)]
                            have hbE := hE (4 * i.toNat + j.toNat) (by omega)
                            refine c_i2l dX9_restsBy_147 (by omega) ?_
                            refine z_aload_n dX9_restsBy_148 rfl rfl ?_
                            refine z_getR (ci := 9) (kf := 13) dX9_restsBy_149 rfl (by decide) (by decide) rfl w_789 rfl ?_
                            refine z_iload dX9_restsBy_152 rfl ?_
                            refine c_lald dX9_restsBy_154 rfl (by omega) (by decide) ?_
                            refine c_lmul dX9_restsBy_155 ?_
                            refine z_aload_n dX9_restsBy_156 rfl rfl ?_
                            refine z_getR (ci := 9) (kf := 13) dX9_restsBy_157 rfl (by decide) (by decide) rfl w_789 rfl ?_
                            refine z_iload dX9_restsBy_160 rfl ?_
                            refine c_lald dX9_restsBy_162 rfl (by omega) (by decide) ?_
                            refine c_lmul dX9_restsBy_163 ?_
                            refine c_ladd dX9_restsBy_164 ?_
                            refine z_lstore dX9_restsBy_165 (by decide) rfl ?_
                            refine c_iinc dX9_restsBy_167 rfl (by decide) rfl ?_
                            refine z_goto (tgt := 129) dX9_restsBy_170 (by decide) ?_
                            exact Z.fg2 (ih129 _ (by omega) _ _ rfl (by omega) (by rw [hw, show (j + 1).toNat = j.toNat + 1 by omega, rsum, hT i.toNat (by omega), hT j.toNat (by omega)]; omega)) (zs1 rfl (zs1 rfl (zs1 rfl (zs1 rfl (zs1 rfl (zs1 rfl (zs1 rfl (zsn (zs1 rfl (zsn (zs1 rfl (zs1 rfl zs0))))))))))))
                      exact Z.fg2 (L129 _ _ _ rfl (by omega) (by rw [hv]; exact (Int.add_zero _).symm)) (zs1 rfl (zs1 rfl (zs1 rfl (zs1 rfl (zs1 rfl (zs1 rfl (zs1 rfl (zsn (zs1 rfl (zsn (zs1 rfl (zs1 rfl zs0))))))))))))
                exact Z.fg2 (L119 _ _ _ rfl (by omega) rfl) (zs1 rfl (zs1 rfl (zs1 rfl (zs1 rfl (zs1 rfl (zs1 rfl (zs1 rfl (zsn (zs1 rfl (zsn (zs1 rfl (zsn zs0))))))))))))
              · refine z_aload_n dX9_restsBy_78 rfl rfl ?_
                refine z_getR (ci := 9) (kf := 13) dX9_restsBy_79 rfl (by decide) (by decide) rfl w_789 rfl ?_
                refine z_iload dX9_restsBy_82 rfl ?_
                refine z_iload dX9_restsBy_84 rfl ?_
                refine z_iload dX9_restsBy_86 rfl ?_
                refine c_icmp_ge (tgt := 99) dX9_restsBy_88 (by decide) (by omega) (by omega) (fun h88 => ?_) (fun h88 => ?_)
                · refine c_lconst0 dX9_restsBy_99 ?_
                  refine c_last dX9_restsBy_100 rfl (by omega) (by decide) ?_
                  refine z_iload dX9_restsBy_101 rfl ?_
                  refine z_iload_n dX9_restsBy_103 rfl rfl ?_
                  refine c_idiv dX9_restsBy_104 (by omega) (by omega) (by omega) (by omega) ?_
                  refine z_istore dX9_restsBy_105 (by decide) rfl ?_
                  refine c_iinc dX9_restsBy_107 rfl (by decide) rfl ?_
                  refine z_goto (tgt := 72) dX9_restsBy_110 (by decide) ?_
                  exact Z.fg2 (ih72 _ (by omega) _ _ _ rfl (by omega) (by rw [show (i + 1).toNat = i.toNat + 1 by omega, lft, ← hlf]) (told_step hi.1 hT (by unfold dgv; first | rw [if_pos (by omega), hlf] | rw [if_neg (by omega)])) (fun a ha => by rw [zup_ne ha]; exact hP2 a ha)) (zs1 rfl (zs1 rfl (zs1 rfl (zs1 rfl (zs1 rfl (zs1 rfl (zs1 rfl (zs1 rfl (zs1 rfl (zsn (zsn (zsn zs0))))))))))))
                · have hdg := dgv_bd (nl := J 44 p.toNat) (m := m) (c := c) (by omega) (by omega) i.toNat
                  refine z_iload dX9_restsBy_91 rfl ?_
                  refine z_iload_n dX9_restsBy_93 rfl rfl ?_
                  refine c_irem dX9_restsBy_94 (by omega) (by omega) (by omega) (by omega) ?_
                  have htm : 0 ≤ lf.tmod m ∧ lf.tmod m < m := by rw [Int.tmod_eq_emod_of_nonneg (by omega)]; exact ⟨Int.emod_nonneg _ (by omega), Int.emod_lt_of_pos _ (by omega)⟩
                  refine c_i2l dX9_restsBy_95 (by omega) ?_
                  refine z_goto (tgt := 100) dX9_restsBy_96 (by decide) ?_
                  refine c_last dX9_restsBy_100 rfl (by omega) (by decide) ?_
                  refine z_iload dX9_restsBy_101 rfl ?_
                  refine z_iload_n dX9_restsBy_103 rfl rfl ?_
                  refine c_idiv dX9_restsBy_104 (by omega) (by omega) (by omega) (by omega) ?_
                  refine z_istore dX9_restsBy_105 (by decide) rfl ?_
                  refine c_iinc dX9_restsBy_107 rfl (by decide) rfl ?_
                  refine z_goto (tgt := 72) dX9_restsBy_110 (by decide) ?_
                  exact Z.fg2 (ih72 _ (by omega) _ _ _ rfl (by omega) (by rw [show (i + 1).toNat = i.toNat + 1 by omega, lft, ← hlf]) (told_step hi.1 hT (by unfold dgv; first | rw [if_pos (by omega), hlf] | rw [if_neg (by omega)])) (fun a ha => by rw [zup_ne ha]; exact hP2 a ha)) (zs1 rfl (zs1 rfl (zs1 rfl (zs1 rfl (zs1 rfl (zs1 rfl (zs1 rfl (zs1 rfl (zs1 rfl (zsn (zsn (zsn zs0))))))))))))
          exact Z.fg2 (L72 _ _ _ _ rfl (by omega) rfl (fun q hq => absurd hq (by omega)) hP1) (zs1 rfl (zs1 rfl (zs1 rfl (zs1 rfl (zs1 rfl (zs1 rfl (zs1 rfl (zs1 rfl (zs1 rfl (zsn (zsn (zsn zs0))))))))))))
    exact Z.fg2 (L58 _ _ _ rfl (by omega) (fun _ _ => rfl)) (zs1 rfl (zs1 rfl (zs1 rfl (zs1 rfl (zs1 rfl (zs1 rfl (zs1 rfl (zsn (zsn (zsn (zsn (zsn zs0))))))))))))
  refine z_iload dX9_restsBy_10 rfl ?_
  refine c_iconst dX9_restsBy_12 ?_
  refine c_icmp_ne (tgt := 20) dX9_restsBy_13 (by decide) (by omega) (by omega) (fun h13 => ?_) (fun h13 => ?_)
  · refine z_iload dX9_restsBy_20 rfl ?_
    refine c_iconst dX9_restsBy_22 ?_
    refine c_icmp_ne (tgt := 32) dX9_restsBy_23 (by decide) (by omega) (by omega) (fun h23 => ?_) (fun h23 => ?_)
    · refine z_iload dX9_restsBy_32 rfl ?_
      refine c_iconst dX9_restsBy_34 ?_
      refine c_icmp_ne (tgt := 46) dX9_restsBy_35 (by decide) (by omega) (by omega) (fun h35 => ?_) (fun h35 => ?_)
      · refine z_iload_n dX9_restsBy_46 rfl rfl ?_
        refine z_iload_n dX9_restsBy_47 rfl rfl ?_
        refine c_imul dX9_restsBy_48 ?_
        refine z_iload_n dX9_restsBy_49 rfl rfl ?_
        refine c_imul dX9_restsBy_50 ?_
        refine z_iload_n dX9_restsBy_51 rfl rfl ?_
        refine c_imul dX9_restsBy_52 ?_
        exact Z.fg2 (L53 _ (by unfold allS; repeat (first | rw [if_pos (by omega)] | rw [if_neg (by omega)]))) (zs1 rfl (zs1 rfl (zs1 rfl (zs1 rfl (zs1 rfl (zsn (zsn (zsn (zsn (zsn (zsn (zsn zs0))))))))))))
      · refine z_iload_n dX9_restsBy_38 rfl rfl ?_
        refine z_iload_n dX9_restsBy_39 rfl rfl ?_
        refine c_imul dX9_restsBy_40 ?_
        refine z_iload_n dX9_restsBy_41 rfl rfl ?_
        refine c_imul dX9_restsBy_42 ?_
        refine z_goto (tgt := 53) dX9_restsBy_43 (by decide) ?_
        exact Z.fg2 (L53 _ (by unfold allS; repeat (first | rw [if_pos (by omega)] | rw [if_neg (by omega)]))) (zs1 rfl (zs1 rfl (zs1 rfl (zs1 rfl (zs1 rfl (zsn (zsn (zsn (zsn (zsn (zsn (zsn zs0))))))))))))
    · refine z_iload_n dX9_restsBy_26 rfl rfl ?_
      refine z_iload_n dX9_restsBy_27 rfl rfl ?_
      refine c_imul dX9_restsBy_28 ?_
      refine z_goto (tgt := 53) dX9_restsBy_29 (by decide) ?_
      exact Z.fg2 (L53 _ (by unfold allS; repeat (first | rw [if_pos (by omega)] | rw [if_neg (by omega)]))) (zs1 rfl (zs1 rfl (zs1 rfl (zs1 rfl (zs1 rfl (zsn (zsn (zsn (zsn (zsn (zsn (zsn zs0))))))))))))
  · refine z_iload_n dX9_restsBy_16 rfl rfl ?_
    refine z_goto (tgt := 53) dX9_restsBy_17 (by decide) ?_
    exact Z.fg2 (L53 _ (by unfold allS; repeat (first | rw [if_pos (by omega)] | rw [if_neg (by omega)]))) (zs1 rfl (zs1 rfl (zs1 rfl (zs1 rfl (zs1 rfl (zsn (zsn (zsn (zsn (zsn (zsn (zsn zs0))))))))))))
end Ref14
