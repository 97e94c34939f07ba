section Cls14
variable {g : ZG} {l : Launch} {Kd : ZK} {Rd : ZR} {n s0 c : Nat} {A J P : Nat → Nat → Int}
variable {e : EP}
set_option maxHeartbeats 4000000 in
set_option maxRecDepth 100000 in
theorem cMX2_enter {k : Int} (hok : e.ok) (hk : 0 ≤ k ∧ k < (e.n : Int)) (hJ : J 30 0 = (e.n : Int) ∧ J 30 3 = e.hf ∧ J 30 4 = e.st) (hS : ∀ i j, i < e.n → j ≤ i → P 31 (4 * i + j) = e.sl i j) (hO : ∀ i, i < e.n → P 32 i = e.ou i) (hL : P 33 k.toNat = e.lf k.toNat (J 35) ∧ e.st ≤ e.lf k.toNat (J 35)) (hX : ∀ j : Nat, (j : Int) < k → rI (J 35 j)) : ZC g l MX2_enter [.ref 30, .int (iZ k)] (KF Kd, zi J, zj P, RF Rd, n, s0) (fun rr hh => rr = none ∧ hh = (KF Kd, zi (zup (zup (zup J 30 1 k) 35 k.toNat (e.hi k.toNat (J 35) + 1)) 36 k.toNat (e.lo k.toNat (J 35))), zj (zup P 34 k.toNat (e.sm k.toNat (J 35))), RF Rd, n, s0)) := by
  refine ZC.of (by decide) (Nat.le_of_ble_eq_true rfl) ?_
  generalize hQ0 : (fun rr hh => rr = none ∧ hh = (KF Kd, zi (zup (zup (zup J 30 1 k) 35 k.toNat (e.hi k.toNat (J 35) + 1)) 36 k.toNat (e.lo k.toNat (J 35))), zj (zup P 34 k.toNat (e.sm k.toNat (J 35))), RF Rd, n, s0) : Option Value → ZH → Prop) = Q0
  show Z g l MX2_enter 0 [some (.ref 30), some (.int (iZ k)), none, none, none, none, none, none, none] [] (KF Kd, zi J, zj P, RF Rd, n, s0) Q0
  have bd := lv_bd (x := J 35) hok (k := k.toNat) (by omega) hL.2
  have hn4 := hok.1
  have hsl := hok.2.2.2.1 k.toNat (by omega)
  have hsb := hok.2.2.2.2.1 k.toNat k.toNat (by omega) (Nat.le_refl _)
  have hmm := mul_bd (a := e.mx k.toNat + 1) (b := e.sl k.toNat k.toNat) (A := 1000001) (B := 100000000) (by omega) (by omega) (by omega) (by omega)
  have hst := hok.2.1
  have hhf := hok.2.2.1
  have hr31 : e.rt k.toNat (J 35) < 2147483648 := by
    have := (rootB_bd 31 0 (e.ou k.toNat * e.lf k.toNat (J 35) - e.st) (by omega)).2
    simp at this; exact this
  refine z_aload_n dX2_enter_0 rfl rfl ?_
  refine z_iload_n dX2_enter_1 rfl rfl ?_
  refine c_putI (ci := 2) (kf := 1) dX2_enter_2 rfl (by decide) (by decide) rfl (by decide) w_112 ?_
  refine c_lconst0 dX2_enter_5 ?_
  refine z_lstore_n dX2_enter_6 rfl (by decide) rfl ?_
  refine c_iconst dX2_enter_7 ?_
  refine z_istore dX2_enter_8 (by decide) rfl ?_
  refine c_iconst dX2_enter_10 ?_
  refine z_istore dX2_enter_11 (by decide) rfl ?_
  have L13 : ∀ (m13 : Nat), ∀ (j s z : Int), (k - j).toNat = m13 → (0 ≤ j ∧ j ≤ k) → (s = smS e.sl (J 35) k.toNat j.toNat) → (z = (if ∀ i, i < j.toNat → J 35 i = 0 then 1 else 0)) → Z g l MX2_enter 13 [some (.ref 30), some (.int (iZ k)), some (.long (lZ s)), none, some (.int (iZ z)), some (.int (iZ j)), none, none, none] [] (KF Kd, zi (zup J 30 1 k), zj P, RF Rd, n, s0) Q0 := by
    intro m13
    induction m13 using Nat.strongRecOn with
    | ind m13 ih13 =>
      intro j s z hm13 hj hs hz
      refine z_iload dX2_enter_13 rfl ?_
      refine z_iload_n dX2_enter_15 rfl rfl ?_
      refine c_icmp_ge (tgt := 70) dX2_enter_16 (by decide) (by omega) (by omega) (fun h16 => ?_) (fun h16 => ?_)
      · refine z_aload_n dX2_enter_70 rfl rfl ?_
        refine z_getR (ci := 2) (kf := 8) dX2_enter_71 rfl (by decide) (by decide) rfl w_119 rfl ?_
        refine z_iload_n dX2_enter_74 rfl rfl ?_
        refine z_lload_n dX2_enter_75 rfl rfl ?_
        rw [show s = e.sm k.toNat (J 35) by rw [hs, show j = k by omega]; rfl]
        refine c_last dX2_enter_76 rfl (by omega) (by decide) ?_
        refine z_aload_n dX2_enter_77 rfl rfl ?_
        refine z_getR (ci := 2) (kf := 5) dX2_enter_78 rfl (by decide) (by decide) rfl w_116 rfl ?_
        refine c_iconst dX2_enter_81 ?_
        refine z_iload_n dX2_enter_82 rfl rfl ?_
        refine c_imul dX2_enter_83 ?_
        refine z_iload_n dX2_enter_84 rfl rfl ?_
        refine c_iadd dX2_enter_85 ?_
        refine c_lald dX2_enter_86 rfl (by omega) (by decide) ?_
        rw [zzr (by decide), show P 31 (4 * k + k).toNat = e.sl k.toNat k.toNat by rw [show (4 * k + k).toNat = 4 * k.toNat + k.toNat by omega]; exact hS _ _ (by omega) (Nat.le_refl _)]
        refine z_lstore dX2_enter_87 (by decide) rfl ?_
        refine z_lload dX2_enter_89 rfl ?_
        refine c_lconst0 dX2_enter_91 ?_
        refine c_lif_gt (tgt := 111) dX2_enter_92 dX2_enter_93 (by decide) (by omega) (by omega) (fun h92 => ?_) (fun h92 => ?_)
        · refine z_aload_n dX2_enter_111 rfl rfl ?_
          refine z_getR (ci := 2) (kf := 6) dX2_enter_112 rfl (by decide) (by decide) rfl w_117 rfl ?_
          refine z_iload_n dX2_enter_115 rfl rfl ?_
          refine c_lald dX2_enter_116 rfl (by omega) (by decide) ?_
          rw [zzr (by decide), hO _ (by omega)]
          refine z_aload_n dX2_enter_117 rfl rfl ?_
          refine z_getR (ci := 2) (kf := 7) dX2_enter_118 rfl (by decide) (by decide) rfl w_118 rfl ?_
          refine z_iload_n dX2_enter_121 rfl rfl ?_
          refine c_lald dX2_enter_122 rfl (by omega) (by decide) ?_
          rw [zzr (by decide), hL.1]
          refine c_lmul dX2_enter_123 ?_
          refine z_aload_n dX2_enter_124 rfl rfl ?_
          refine c_getI (ci := 2) (kf := 4) dX2_enter_125 rfl (by decide) (by decide) rfl w_115 ?_
          rw [zzi (by decide), hJ.2.2]
          refine c_i2l dX2_enter_128 (by omega) ?_
          refine c_lsub dX2_enter_129 ?_
          refine z_callsN (N := MX8_squareRoot) (nas := 1) (as := [_]) (host := "EscalatedForms") dX2_enter_130 w_259 (by decide +kernel) w_258 w_1 (by decide +kernel) rfl rfl (Nat.le_of_ble_eq_true rfl) (by decide) (by decide) (ZC.mono (cMX8_squareRoot (by omega)) ?_)
          rintro _ _ ⟨rfl, q130, rfl, hq0130, hq1130, hq2130, hq3130⟩
          have hrt : q130 = e.rt k.toNat (J 35) := root_uniq (hq1130 (by omega)) bd.2.1
          rw [hrt]
          refine z_lstore dX2_enter_133 (by decide) rfl ?_
          refine z_aload_n dX2_enter_135 rfl rfl ?_
          refine z_getR (ci := 2) (kf := 9) dX2_enter_136 rfl (by decide) (by decide) rfl w_120 rfl ?_
          refine z_iload_n dX2_enter_139 rfl rfl ?_
          refine z_lload dX2_enter_140 rfl ?_
          refine z_lload_n dX2_enter_142 rfl rfl ?_
          refine c_lsub dX2_enter_143 ?_
          refine z_lload dX2_enter_144 rfl ?_
          refine z_calls (N := MJ9_floorDiv_f86c9) (nas := 2) (as := [_, _]) dX2_enter_146 w_467 w_465 w_466 w_12 (by decide +kernel) rfl rfl (Nat.le_of_ble_eq_true rfl) (by decide) (by decide) (ZC.mono (cMJ9_floorDiv_f86c9 (by omega) (by omega) (by omega) (fd_rL (by omega) (by omega))) ?_)
          rintro _ _ ⟨rfl, rfl⟩
          refine c_l2i dX2_enter_149 ?_
          refine c_iconst dX2_enter_150 ?_
          refine c_iadd dX2_enter_151 ?_
          refine c_iast dX2_enter_152 rfl (by omega) (by decide) ?_
          refine z_aload_n dX2_enter_153 rfl rfl ?_
          refine z_getR (ci := 2) (kf := 10) dX2_enter_154 rfl (by decide) (by decide) rfl w_123 rfl ?_
          refine z_iload_n dX2_enter_157 rfl rfl ?_
          refine z_aload_n dX2_enter_158 rfl rfl ?_
          refine c_getI (ci := 2) (kf := 3) dX2_enter_159 rfl (by decide) (by decide) rfl w_114 ?_
          rw [zzr (by decide), zzi (by decide), hJ.2.1]
          refine c_if_eq (tgt := 174) dX2_enter_162 (by decide) (by omega) (fun h162 => ?_) (fun h162 => ?_)
          · refine z_lload dX2_enter_174 rfl ?_
            refine z_lload_n dX2_enter_176 rfl rfl ?_
            refine c_ladd dX2_enter_177 ?_
            refine z_lload dX2_enter_178 rfl ?_
            refine z_calls (N := MJ9_floorDiv_f86c9) (nas := 2) (as := [_, _]) dX2_enter_180 w_467 w_465 w_466 w_12 (by decide +kernel) rfl rfl (Nat.le_of_ble_eq_true rfl) (by decide) (by decide) (ZC.mono (cMJ9_floorDiv_f86c9 (by omega) (by omega) (by omega) (fd_rL (by omega) (by omega))) ?_)
            rintro _ _ ⟨rfl, rfl⟩
            refine c_lneg dX2_enter_183 ?_
            refine c_l2i dX2_enter_184 ?_
            refine c_iast dX2_enter_185 rfl (by omega) (by decide) ?_
            refine z_return dX2_enter_186 rfl ?_
            subst hQ0; refine ⟨rfl, ?_⟩
            have hlo : e.lo k.toNat (J 35) = if e.hf = 1 ∧ ∀ i, i < k.toNat → J 35 i = 0 then 0 else -((e.rt k.toNat (J 35) + e.sm k.toNat (J 35)) / e.sl k.toNat k.toNat) := rfl
            rw [show j = k by omega] at hz
            by_cases hA : ∀ i, i < k.toNat → J 35 i = 0
            · rw [if_pos hA] at hz
              first | (exfalso; omega) | (rw [if_pos ⟨by omega, hA⟩] at hlo; rw [hlo]; rfl) | (rw [if_neg (fun z => by have := z.1; omega)] at hlo; rw [hlo]; rfl)
            · rw [if_neg hA] at hz
              first | (exfalso; omega) | (rw [if_neg (fun z => hA z.2)] at hlo; rw [hlo]; rfl)
          · refine z_iload dX2_enter_165 rfl ?_
            refine c_if_eq (tgt := 174) dX2_enter_167 (by decide) (by omega) (fun h167 => ?_) (fun h167 => ?_)
            · refine z_lload dX2_enter_174 rfl ?_
              refine z_lload_n dX2_enter_176 rfl rfl ?_
              refine c_ladd dX2_enter_177 ?_
              refine z_lload dX2_enter_178 rfl ?_
              refine z_calls (N := MJ9_floorDiv_f86c9) (nas := 2) (as := [_, _]) dX2_enter_180 w_467 w_465 w_466 w_12 (by decide +kernel) rfl rfl (Nat.le_of_ble_eq_true rfl) (by decide) (by decide) (ZC.mono (cMJ9_floorDiv_f86c9 (by omega) (by omega) (by omega) (fd_rL (by omega) (by omega))) ?_)
              rintro _ _ ⟨rfl, rfl⟩
              refine c_lneg dX2_enter_183 ?_
              refine c_l2i dX2_enter_184 ?_
              refine c_iast dX2_enter_185 rfl (by omega) (by decide) ?_
              refine z_return dX2_enter_186 rfl ?_
              subst hQ0; refine ⟨rfl, ?_⟩
              have hlo : e.lo k.toNat (J 35) = if e.hf = 1 ∧ ∀ i, i < k.toNat → J 35 i = 0 then 0 else -((e.rt k.toNat (J 35) + e.sm k.toNat (J 35)) / e.sl k.toNat k.toNat) := rfl
              rw [show j = k by omega] at hz
              by_cases hA : ∀ i, i < k.toNat → J 35 i = 0
              · rw [if_pos hA] at hz
                first | (exfalso; omega) | (rw [if_pos ⟨by omega, hA⟩] at hlo; rw [hlo]; rfl) | (rw [if_neg (fun z => by have := z.1; omega)] at hlo; rw [hlo]; rfl)
              · rw [if_neg hA] at hz
                first | (exfalso; omega) | (rw [if_neg (fun z => hA z.2)] at hlo; rw [hlo]; rfl)
            · refine c_iconst dX2_enter_170 ?_
              refine z_goto (tgt := 185) dX2_enter_171 (by decide) ?_
              refine c_iast dX2_enter_185 rfl (by omega) (by decide) ?_
              refine z_return dX2_enter_186 rfl ?_
              subst hQ0; refine ⟨rfl, ?_⟩
              have hlo : e.lo k.toNat (J 35) = if e.hf = 1 ∧ ∀ i, i < k.toNat → J 35 i = 0 then 0 else -((e.rt k.toNat (J 35) + e.sm k.toNat (J 35)) / e.sl k.toNat k.toNat) := rfl
              rw [show j = k by omega] at hz
              by_cases hA : ∀ i, i < k.toNat → J 35 i = 0
              · rw [if_pos hA] at hz
                first | (exfalso; omega) | (rw [if_pos ⟨by omega, hA⟩] at hlo; rw [hlo]; rfl) | (rw [if_neg (fun z => by have := z.1; omega)] at hlo; rw [hlo]; rfl)
              · rw [if_neg hA] at hz
                first | (exfalso; omega) | (rw [if_neg (fun z => hA z.2)] at hlo; rw [hlo]; rfl)
        · exact absurd h92 (by omega)
      · refine z_lload_n dX2_enter_19 rfl rfl ?_
        refine z_aload_n dX2_enter_20 rfl rfl ?_
        refine z_getR (ci := 2) (kf := 5) dX2_enter_21 rfl (by decide) (by decide) rfl w_116 rfl ?_
        refine c_iconst dX2_enter_24 ?_
        refine z_iload_n dX2_enter_25 rfl rfl ?_
        refine c_imul dX2_enter_26 ?_
        refine z_iload dX2_enter_27 rfl ?_
        refine c_iadd dX2_enter_29 ?_
        refine c_lald dX2_enter_30 rfl (by omega) (by decide) ?_
        rw [show P 31 (4 * k + j).toNat = e.sl k.toNat j.toNat by rw [show (4 * k + j).toNat = 4 * k.toNat + j.toNat by omega]; exact hS _ _ (by omega) (by omega)]
        refine z_aload_n dX2_enter_31 rfl rfl ?_
        refine z_getR (ci := 2) (kf := 9) dX2_enter_32 rfl (by decide) (by decide) rfl w_120 rfl ?_
        refine z_iload dX2_enter_35 rfl ?_
        refine c_iald dX2_enter_37 rfl (by omega) (by decide) ?_
        rw [zzr (by decide)]
        have hxj := hX j.toNat (by omega)
        refine c_i2l dX2_enter_38 (by omega) ?_
        refine c_lmul dX2_enter_39 ?_
        refine c_ladd dX2_enter_40 ?_
        refine z_lstore_n dX2_enter_41 rfl (by decide) rfl ?_
        have L62 : ∀ (z2 : Int), (z2 = (if ∀ i, i < (j + 1).toNat → J 35 i = 0 then 1 else 0)) → Z g l MX2_enter 62 [some (.ref 30), some (.int (iZ k)), some (.long (lZ (s + e.sl k.toNat j.toNat * J 35 j.toNat))), none, none, some (.int (iZ j)), none, none, none] [.int (iZ z2)] (KF Kd, zi (zup J 30 1 k), zj P, RF Rd, n, s0) Q0 := by
          intro z2 hz2
          refine z_istore dX2_enter_62 (by decide) rfl ?_
          refine c_iinc dX2_enter_64 rfl (by decide) rfl ?_
          refine z_goto (tgt := 13) dX2_enter_67 (by decide) ?_
          exact Z.fg2 (ih13 _ (by omega) _ _ _ rfl (by omega) (by rw [hs, show (j + 1).toNat = j.toNat + 1 by omega]; rfl) hz2) (zs1 rfl (zs1 rfl (zs1 rfl (zsn (zs1 rfl (zs1 rfl (zsn (zsn (zsn zs0)))))))))
        refine z_iload dX2_enter_42 rfl ?_
        refine c_if_eq (tgt := 61) dX2_enter_44 (by decide) (by omega) (fun h44 => ?_) (fun h44 => ?_)
        · have hz9 : (0 : Int) = (if ∀ i, i < (j + 1).toNat → J 35 i = 0 then 1 else 0) := by
            rw [if_neg (fun hA => by rw [if_pos (fun i hi => hA i (by omega))] at hz; omega)]
          refine c_iconst dX2_enter_61 ?_
          exact Z.fg2 (L62 _ hz9) (zs1 rfl (zs1 rfl (zs1 rfl (zsn (zsn (zs1 rfl (zsn (zsn (zsn zs0)))))))))
        · refine z_aload_n dX2_enter_47 rfl rfl ?_
          refine z_getR (ci := 2) (kf := 9) dX2_enter_48 rfl (by decide) (by decide) rfl w_120 rfl ?_
          refine z_iload dX2_enter_51 rfl ?_
          refine c_iald dX2_enter_53 rfl (by omega) (by decide) ?_
          rw [zzr (by decide)]
          refine c_if_ne (tgt := 61) dX2_enter_54 (by decide) (by omega) (fun h54 => ?_) (fun h54 => ?_)
          · have hz9 : (0 : Int) = (if ∀ i, i < (j + 1).toNat → J 35 i = 0 then 1 else 0) := by
              rw [if_neg (fun hA => h54 (hA j.toNat (by omega)))]
            refine c_iconst dX2_enter_61 ?_
            exact Z.fg2 (L62 _ hz9) (zs1 rfl (zs1 rfl (zs1 rfl (zsn (zsn (zs1 rfl (zsn (zsn (zsn zs0)))))))))
          · have hz9 : (1 : Int) = (if ∀ i, i < (j + 1).toNat → J 35 i = 0 then 1 else 0) := by
              have hA : ∀ i, i < j.toNat → J 35 i = 0 := by
                by_cases q : ∀ i, i < j.toNat → J 35 i = 0
                · exact q
                · rw [if_neg q] at hz; omega
              rw [if_pos (fun i hi => by
                by_cases q : i = j.toNat
                · subst q; omega
                · exact hA i (by omega))]
            refine c_iconst dX2_enter_57 ?_
            refine z_goto (tgt := 62) dX2_enter_58 (by decide) ?_
            exact Z.fg2 (L62 _ hz9) (zs1 rfl (zs1 rfl (zs1 rfl (zsn (zsn (zs1 rfl (zsn (zsn (zsn zs0)))))))))
  exact Z.fg2 (L13 _ 0 0 1 rfl (by omega) rfl (by rw [if_pos (fun i hi => absurd hi (by have : (0 : Int).toNat = 0 := rfl; omega))])) (zs1 rfl (zs1 rfl (zs1 rfl (zsn (zs1 rfl (zs1 rfl (zsn (zsn (zsn zs0)))))))))
set_option maxHeartbeats 4000000 in
set_option maxRecDepth 100000 in
theorem cMX2_narrow {k : Int} (hok : e.ok) (hk : 0 ≤ k ∧ k < (e.n : Int)) (hS : ∀ i j, i < e.n → j ≤ i → P 31 (4 * i + j) = e.sl i j) (hO : ∀ i, i < e.n → P 32 i = e.ou i) (hL : P 33 k.toNat = e.lf k.toNat (J 35) ∧ e.st ≤ e.lf k.toNat (J 35)) (hM : P 34 k.toNat = e.sm k.toNat (J 35)) (hX : rI (J 35 k.toNat)) (hN : e.st ≤ e.lf (k.toNat + 1) (J 35)) : ZC g l MX2_narrow [.ref 30, .int (iZ k)] (KF Kd, zi J, zj P, RF Rd, n, s0) (fun rr hh => rr = none ∧ hh = (KF Kd, zi J, zj (zup P 33 (k.toNat + 1) (e.lf (k.toNat + 1) (J 35))), RF Rd, n, s0)) := by
  refine ZC.of (by decide) (Nat.le_of_ble_eq_true rfl) ?_
  generalize hQ0 : (fun rr hh => rr = none ∧ hh = (KF Kd, zi J, zj (zup P 33 (k.toNat + 1) (e.lf (k.toNat + 1) (J 35))), RF Rd, n, s0) : Option Value → ZH → Prop) = Q0
  show Z g l MX2_narrow 0 [some (.ref 30), some (.int (iZ k)), none, none, none, none] [] (KF Kd, zi J, zj P, RF Rd, n, s0) Q0
  have bd := lv_bd (x := J 35) hok (k := k.toNat) (by omega) hL.2
  have hn4 := hok.1
  have hsl := hok.2.2.2.1 k.toNat (by omega)
  have hsb := hok.2.2.2.2.1 k.toNat k.toNat (by omega) (Nat.le_refl _)
  have hst := hok.2.1
  have hid := hok.2.2.2.2.2.1 k.toNat (J 35) (by omega)
  have hsq := sq_nn (e.sl k.toNat k.toNat * J 35 k.toNat + e.sm k.toNat (J 35))
  have hnn : 0 ≤ e.sl k.toNat k.toNat * e.lf (k.toNat + 1) (J 35) := Int.mul_nonneg (by omega) (by omega)
  refine z_aload_n dX2_narrow_0 rfl rfl ?_
  refine z_getR (ci := 2) (kf := 5) dX2_narrow_1 rfl (by decide) (by decide) rfl w_116 rfl ?_
  refine c_iconst dX2_narrow_4 ?_
  refine z_iload_n dX2_narrow_5 rfl rfl ?_
  refine c_imul dX2_narrow_6 ?_
  refine z_iload_n dX2_narrow_7 rfl rfl ?_
  refine c_iadd dX2_narrow_8 ?_
  refine c_lald dX2_narrow_9 rfl (by omega) (by decide) ?_
  rw [show P 31 (4 * k + k).toNat = e.sl k.toNat k.toNat by rw [show (4 * k + k).toNat = 4 * k.toNat + k.toNat by omega]; exact hS _ _ (by omega) (Nat.le_refl _)]
  refine z_lstore_n dX2_narrow_10 rfl (by decide) rfl ?_
  refine z_lload_n dX2_narrow_11 rfl rfl ?_
  refine z_aload_n dX2_narrow_12 rfl rfl ?_
  refine z_getR (ci := 2) (kf := 9) dX2_narrow_13 rfl (by decide) (by decide) rfl w_120 rfl ?_
  refine z_iload_n dX2_narrow_16 rfl rfl ?_
  refine c_iald dX2_narrow_17 rfl (by omega) (by decide) ?_
  refine c_i2l dX2_narrow_18 (by omega) ?_
  refine c_lmul dX2_narrow_19 ?_
  refine z_aload_n dX2_narrow_20 rfl rfl ?_
  refine z_getR (ci := 2) (kf := 8) dX2_narrow_21 rfl (by decide) (by decide) rfl w_119 rfl ?_
  refine z_iload_n dX2_narrow_24 rfl rfl ?_
  refine c_lald dX2_narrow_25 rfl (by omega) (by decide) ?_
  rw [hM]
  refine c_ladd dX2_narrow_26 ?_
  refine z_lstore dX2_narrow_27 (by decide) rfl ?_
  refine z_aload_n dX2_narrow_29 rfl rfl ?_
  refine z_getR (ci := 2) (kf := 7) dX2_narrow_30 rfl (by decide) (by decide) rfl w_118 rfl ?_
  refine z_iload_n dX2_narrow_33 rfl rfl ?_
  refine c_iconst dX2_narrow_34 ?_
  refine c_iadd dX2_narrow_35 ?_
  refine z_lload_n dX2_narrow_36 rfl rfl ?_
  refine c_lconst0 dX2_narrow_37 ?_
  refine c_lif_gt (tgt := 46) dX2_narrow_38 dX2_narrow_39 (by decide) (by omega) (by omega) (fun h38 => ?_) (fun h38 => ?_)
  · refine z_aload_n dX2_narrow_46 rfl rfl ?_
    refine z_getR (ci := 2) (kf := 6) dX2_narrow_47 rfl (by decide) (by decide) rfl w_117 rfl ?_
    refine z_iload_n dX2_narrow_50 rfl rfl ?_
    refine c_lald dX2_narrow_51 rfl (by omega) (by decide) ?_
    rw [hO _ (by omega)]
    refine z_aload_n dX2_narrow_52 rfl rfl ?_
    refine z_getR (ci := 2) (kf := 7) dX2_narrow_53 rfl (by decide) (by decide) rfl w_118 rfl ?_
    refine z_iload_n dX2_narrow_56 rfl rfl ?_
    refine c_lald dX2_narrow_57 rfl (by omega) (by decide) ?_
    rw [hL.1]
    refine c_lmul dX2_narrow_58 ?_
    refine z_lload dX2_narrow_59 rfl ?_
    refine z_lload dX2_narrow_61 rfl ?_
    refine c_lmul dX2_narrow_63 ?_
    refine c_lsub dX2_narrow_64 ?_
    refine z_lload_n dX2_narrow_65 rfl rfl ?_
    refine c_ldiv dX2_narrow_66 (by omega) (by omega) (by omega) (by omega) ?_
    refine c_last dX2_narrow_67 rfl (by omega) (by decide) ?_
    refine z_return dX2_narrow_68 rfl ?_
    subst hQ0; refine ⟨rfl, ?_⟩; rw [← hid, Int.mul_tdiv_cancel_left _ (by omega), show (k + 1).toNat = k.toNat + 1 by omega]
  · exact absurd h38 (by omega)
set_option maxHeartbeats 4000000 in
set_option maxRecDepth 100000 in
theorem cMX2_worthHere (hn : J 30 0 = (e.n : Int)) (h4 : e.n ≤ 4) {tp w : Int} (ht : J 30 2 = tp) (hw : P 33 e.n = w) : ZC g l MX2_worthHere [.ref 30] (KF Kd, zi J, zj P, RF Rd, n, s0) (fun rr hh => rr = some (.int (iZ (tp - w))) ∧ hh = (KF Kd, zi J, zj P, RF Rd, n, s0)) := by
  refine ZC.of (by decide) (Nat.le_of_ble_eq_true rfl) ?_
  generalize hQ0 : (fun rr hh => rr = some (.int (iZ (tp - w))) ∧ hh = (KF Kd, zi J, zj P, RF Rd, n, s0) : Option Value → ZH → Prop) = Q0
  show Z g l MX2_worthHere 0 [some (.ref 30)] [] (KF Kd, zi J, zj P, RF Rd, n, s0) Q0
  refine z_aload_n dX2_worthHere_0 rfl rfl ?_
  refine c_getI (ci := 2) (kf := 2) dX2_worthHere_1 rfl (by decide) (by decide) rfl w_113 ?_
  refine z_aload_n dX2_worthHere_4 rfl rfl ?_
  refine z_getR (ci := 2) (kf := 7) dX2_worthHere_5 rfl (by decide) (by decide) rfl w_118 rfl ?_
  refine z_aload_n dX2_worthHere_8 rfl rfl ?_
  refine c_getI (ci := 2) (kf := 0) dX2_worthHere_9 rfl (by decide) (by decide) rfl w_111 ?_
  rw [hn]
  refine c_lald dX2_worthHere_12 rfl (by omega) (by decide) ?_
  rw [Int.toNat_natCast, hw]
  refine c_l2i dX2_worthHere_13 ?_
  refine c_isub dX2_worthHere_14 ?_
  refine c_ireturn dX2_worthHere_15 rfl ?_
  subst hQ0; rw [ht]; exact ⟨rfl, rfl⟩
set_option maxHeartbeats 4000000 in
set_option maxRecDepth 100000 in
theorem cMX2_advance {L : List V4} {k0 : Int} (hok : e.ok) (hE0 : EI e J P k0) (hL0 : L = e.rs (J 35) (J 36) (k0 + 1).toNat) : ZC g l MX2_advance [.ref 30] (KF Kd, zi J, zj P, RF Rd, n, s0) (fun rr hh => ∃ (J' P' : Nat → Nat → Int) (b : Int), hh = (KF Kd, zi J', zj P', RF Rd, n, s0) ∧ rr = some (.int (iZ b)) ∧ ((b = 1 ∧ ∃ (L' : List V4) (k' : Int), L = tupN e.n (J' 35) :: L' ∧ EI e J' P' k' ∧ L' = e.rs (J' 35) (J' 36) (k' + 1).toNat ∧ P' 33 e.n = e.lf e.n (J' 35) ∧ e.st ≤ e.lf e.n (J' 35)) ∨ (b = 0 ∧ L = [])) ∧ offE J J' P P') := by
  refine ZC.of (by decide) (Nat.le_of_ble_eq_true rfl) ?_
  generalize hQ0 : (fun rr hh => ∃ (J' P' : Nat → Nat → Int) (b : Int), hh = (KF Kd, zi J', zj P', RF Rd, n, s0) ∧ rr = some (.int (iZ b)) ∧ ((b = 1 ∧ ∃ (L' : List V4) (k' : Int), L = tupN e.n (J' 35) :: L' ∧ EI e J' P' k' ∧ L' = e.rs (J' 35) (J' 36) (k' + 1).toNat ∧ P' 33 e.n = e.lf e.n (J' 35) ∧ e.st ≤ e.lf e.n (J' 35)) ∨ (b = 0 ∧ L = [])) ∧ offE J J' P P' : Option Value → ZH → Prop) = Q0
  show Z g l MX2_advance 0 [some (.ref 30), none] [] (KF Kd, zi J, zj P, RF Rd, n, s0) Q0
  have hn4 := hok.1
  have hpm := hok.2.2.2.2.2.2.2.2.2
  refine c_iconst dX2_advance_0 ?_
  refine z_istore_n dX2_advance_1 rfl (by decide) rfl ?_
  have L2 : ∀ (m2 : Nat), ∀ (gg k : Int) (J1 P1 : Nat → Nat → Int), (4000000 - gg).toNat = m2 → (EI e J1 P1 k) → (0 ≤ gg ∧ gg + e.pt (J1 35) (J1 36) (k + 1).toNat + (k + 1) ≤ 3999999) → (L = e.rs (J1 35) (J1 36) (k + 1).toNat) → (offE J J1 P P1) → (-1 ≤ k ∧ k < (e.n : Int) ∧ 0 ≤ e.pt (J1 35) (J1 36) (k + 1).toNat) → Z g l MX2_advance 2 [some (.ref 30), some (.int (iZ gg))] [] (KF Kd, zi J1, zj P1, RF Rd, n, s0) Q0 := by
    intro m2
    induction m2 using Nat.strongRecOn with
    | ind m2 ih2 =>
      intro gg k J1 P1 hm2 hE1 hg hL1 hof hkk
      refine z_iload_n dX2_advance_2 rfl rfl ?_
      refine c_ldc (z := 4000000) dX2_advance_3 w_473 (by decide) ?_
      refine c_icmp_ge (tgt := 101) dX2_advance_5 (by decide) (by omega) (by omega) (fun h5 => ?_) (fun h5 => ?_)
      · exact absurd h5 (by omega)
      · refine z_aload_n dX2_advance_8 rfl rfl ?_
        refine c_getI (ci := 2) (kf := 1) dX2_advance_9 rfl (by decide) (by decide) rfl w_112 ?_
        rw [hE1.1.2.1]
        refine c_if_lt (tgt := 101) dX2_advance_12 (by decide) (by omega) (fun h12 => ?_) (fun h12 => ?_)
        · refine c_iconst dX2_advance_101 ?_
          refine c_zreturn dX2_advance_102 rfl (by omega) ?_
          subst hQ0
          refine ⟨J1, P1, 0, rfl, rfl, Or.inr ⟨rfl, ?_⟩, hof⟩
          rw [hL1, show (k + 1).toNat = 0 by omega]; rfl
        · have hdf := EI_diff hok hE1 (j := k.toNat) (by omega)
          have ek : ((k.toNat : Nat) : Int) = k := by omega
          refine z_aload_n dX2_advance_15 rfl rfl ?_
          refine z_getR (ci := 2) (kf := 9) dX2_advance_16 rfl (by decide) (by decide) rfl w_120 rfl ?_
          refine z_aload_n dX2_advance_19 rfl rfl ?_
          refine c_getI (ci := 2) (kf := 1) dX2_advance_20 rfl (by decide) (by decide) rfl w_112 ?_
          rw [hE1.1.2.1]
          refine c_iald dX2_advance_23 rfl (by omega) (by decide) ?_
          refine z_aload_n dX2_advance_24 rfl rfl ?_
          refine z_getR (ci := 2) (kf := 10) dX2_advance_25 rfl (by decide) (by decide) rfl w_123 rfl ?_
          refine z_aload_n dX2_advance_28 rfl rfl ?_
          refine c_getI (ci := 2) (kf := 1) dX2_advance_29 rfl (by decide) (by decide) rfl w_112 ?_
          rw [hE1.1.2.1]
          refine c_iald dX2_advance_32 rfl (by omega) (by decide) ?_
          refine c_icmp_gt (tgt := 49) dX2_advance_33 (by decide) (by omega) (by omega) (fun h33 => ?_) (fun h33 => ?_)
          · refine z_aload_n dX2_advance_49 rfl rfl ?_
            refine z_getR (ci := 2) (kf := 9) dX2_advance_50 rfl (by decide) (by decide) rfl w_120 rfl ?_
            refine z_aload_n dX2_advance_53 rfl rfl ?_
            refine c_getI (ci := 2) (kf := 1) dX2_advance_54 rfl (by decide) (by decide) rfl w_112 ?_
            rw [hE1.1.2.1]
            refine z_dup2 dX2_advance_57 rfl rfl ?_
            refine c_iald dX2_advance_58 rfl (by omega) (by decide) ?_
            refine c_iconst dX2_advance_59 ?_
            refine c_isub dX2_advance_60 ?_
            refine c_iast dX2_advance_61 rfl (by omega) (by decide) ?_
            have hE1k : EI e J1 P1 ((k.toNat : Nat) : Int) := by rw [ek]; exact hE1
            have hN := (EI_ok hok hE1k (by omega)).1
            have hE2 : EI e (zup J1 35 k.toNat (J1 35 k.toNat - 1)) P1 k := by
              have z := EI_dec hok hE1k (by omega) (P1 33 (k.toNat + 1))
              rw [ek] at z
              have e2 : zup P1 33 (k.toNat + 1) (P1 33 (k.toNat + 1)) = P1 := by funext a q; unfold zup; split; (rename_i h1; split; (rename_i h2; rw [h1, h2]); rfl); rfl
              rw [e2] at z; exact z
            have hE3 : EI e (zup J1 35 k.toNat (J1 35 k.toNat - 1)) (zup P1 33 (k.toNat + 1) (e.lf (k.toNat + 1) (zup J1 35 k.toNat (J1 35 k.toNat - 1) 35))) k := by
              have z := EI_dec hok hE1k (by omega) (e.lf (k.toNat + 1) (zup J1 35 k.toNat (J1 35 k.toNat - 1) 35))
              rw [ek] at z; exact z
            refine z_aload_n dX2_advance_62 rfl rfl ?_
            refine z_aload_n dX2_advance_63 rfl rfl ?_
            refine c_getI (ci := 2) (kf := 1) dX2_advance_64 rfl (by decide) (by decide) rfl w_112 ?_
            rw [zzr (by decide), hE1.1.2.1]
            refine z_callv (N := MX2_narrow) (ci := 2) (nas := 1) (as := [_]) dX2_advance_67 w_477 w_474 w_476 ws_6 w_5 (by decide +kernel) rfl rfl rfl (by decide) (Nat.le_of_ble_eq_true rfl) (by decide) (by decide) (ZC.mono (cMX2_narrow (k := k) hok (by omega) hE2.2.1 hE2.2.2.1 ⟨(hE2.2.2.2.2 k.toNat (by omega)).1, (hE2.2.2.2.2 k.toNat (by omega)).2.1⟩ (hE2.2.2.2.2 k.toNat (by omega)).2.2.1 (by have := EI_diff hok hE2 (j := k.toNat) (by omega); omega) (by rw [zup_row]; exact hN)) ?_)
            rintro _ _ ⟨rfl, rfl⟩
            refine z_aload_n dX2_advance_70 rfl rfl ?_
            refine c_getI (ci := 2) (kf := 1) dX2_advance_71 rfl (by decide) (by decide) rfl w_112 ?_
            rw [zzr (by decide), hE1.1.2.1]
            refine z_aload_n dX2_advance_74 rfl rfl ?_
            refine c_getI (ci := 2) (kf := 0) dX2_advance_75 rfl (by decide) (by decide) rfl w_111 ?_
            rw [zzr (by decide), hE1.1.1]
            refine c_iconst dX2_advance_78 ?_
            refine c_isub dX2_advance_79 ?_
            refine c_icmp_ne (tgt := 85) dX2_advance_80 (by decide) (by omega) (by omega) (fun h80 => ?_) (fun h80 => ?_)
            · refine z_aload_n dX2_advance_85 rfl rfl ?_
              refine z_aload_n dX2_advance_86 rfl rfl ?_
              refine c_getI (ci := 2) (kf := 1) dX2_advance_87 rfl (by decide) (by decide) rfl w_112 ?_
              rw [zzr (by decide), hE1.1.2.1]
              refine c_iconst dX2_advance_90 ?_
              refine c_iadd dX2_advance_91 ?_
              refine z_callv (N := MX2_enter) (ci := 2) (nas := 1) (as := [_]) dX2_advance_92 w_463 w_460 w_462 ws_5 w_5 (by decide +kernel) rfl rfl rfl (by decide) (Nat.le_of_ble_eq_true rfl) (by decide) (by decide) (ZC.mono (cMX2_enter (k := k + 1) hok (by omega) ⟨hE3.1.1, hE3.1.2.2⟩ hE3.2.1 hE3.2.2.1 ⟨by rw [show (k + 1).toNat = k.toNat + 1 by omega, zz, zup_row], by rw [show (k + 1).toNat = k.toNat + 1 by omega, zup_row]; exact hN⟩ (fun j hj => by have := EI_diff hok hE3 (j := j) (by omega); omega)) ?_)
              rintro _ _ ⟨rfl, rfl⟩
              have e1 : (k + 1).toNat = k.toNat + 1 := by omega
              rw [e1]
              have hd35 : zup J1 35 k.toNat (J1 35 k.toNat - 1) 35 = upx (J1 35) k.toNat (J1 35 k.toNat - 1) := zup_row
              have nE := EI_enter hok (x := zup J1 35 k.toNat (J1 35 k.toNat - 1) 35) rfl (k := k.toNat) (by rw [ek]; exact hE3) (by omega) (by rw [zup_row]; exact hN) (by rw [zz])
              rw [ek] at nE
              generalize hJn : zup (zup (zup (zup J1 35 k.toNat (J1 35 k.toNat - 1)) 30 1 (k + 1)) 35 (k.toNat + 1) (e.hi (k.toNat + 1) (zup J1 35 k.toNat (J1 35 k.toNat - 1) 35) + 1)) 36 (k.toNat + 1) (e.lo (k.toNat + 1) (zup J1 35 k.toNat (J1 35 k.toNat - 1) 35)) = Jn at nE
              have r5 : Jn 35 = upx (upx (J1 35) k.toNat (J1 35 k.toNat - 1)) (k.toNat + 1) (e.hi (k.toNat + 1) (upx (J1 35) k.toNat (J1 35 k.toNat - 1)) + 1) := by
                rw [← hJn, zup_ne (by decide), zup_row, zup_ne (by decide), hd35]
              have r6 : Jn 36 = upx (J1 36) (k.toNat + 1) (e.lo (k.toNat + 1) (upx (J1 35) k.toNat (J1 35 k.toNat - 1))) := by
                rw [← hJn, zup_row, zup_ne (by decide), zup_ne (by decide), zup_ne (by decide), hd35]
              have pd := pt_dec hok (x := J1 35) (low := J1 36) (k := k.toNat) (by omega) (by omega) hN
              rw [← r5, ← r6] at pd
              have e3 : (k + 1 + 1).toNat = k.toNat + 2 := by omega
              rw [e1] at hg hkk hL1
              have pb := pt_bd (x := Jn 35) (low := Jn 36) hok (k.toNat + 2) (by omega) (fun j hj => (EI_diff hok nE (j := j) (by omega)).1)
              have nG : 0 ≤ gg + 1 ∧ gg + 1 + e.pt (Jn 35) (Jn 36) (k + 1 + 1).toNat + (k + 1 + 1) ≤ 3999999 := by rw [e3]; omega
              have nL : L = e.rs (Jn 35) (Jn 36) (k + 1 + 1).toNat := by
                rw [hL1, rs_dec hok (by omega) (by omega), e3, r5, r6, rs_enter hok (by omega)]
              have nO : offE J Jn P (zup (zup P1 33 (k.toNat + 1) (e.lf (k.toNat + 1) (zup J1 35 k.toNat (J1 35 k.toNat - 1) 35))) 34 (k.toNat + 1) (e.sm (k.toNat + 1) (zup J1 35 k.toNat (J1 35 k.toNat - 1) 35))) := offE_trans hof ⟨fun a a1 a2 a3 => by rw [← hJn, zup_ne a3, zup_ne a2, zup_ne a1, zup_ne a2], fun q hq => by rw [← hJn, zzr (by decide), zzr (by decide), zzi hq, zzr (by decide)], fun a a1 a2 => by rw [zup_ne a2, zup_ne a1]⟩
              have nK : -1 ≤ k + 1 ∧ k + 1 < (e.n : Int) ∧ 0 ≤ e.pt (Jn 35) (Jn 36) (k + 1 + 1).toNat := by rw [e3]; omega
              refine c_iinc dX2_advance_95 rfl (by decide) rfl ?_
              refine z_goto (tgt := 2) dX2_advance_98 (by decide) ?_
              exact Z.fg2 (ih2 _ (by omega) _ _ _ _ rfl nE nG nL nO nK) (zs1 rfl (zs1 rfl zs0))
            · refine c_iconst dX2_advance_83 ?_
              refine c_zreturn dX2_advance_84 rfl (by omega) ?_
              subst hQ0
              have hk1 : k.toNat + 1 = e.n := by omega
              refine ⟨_, _, 1, rfl, rfl, Or.inl ⟨rfl, e.rs (upx (J1 35) k.toNat (J1 35 k.toNat - 1)) (J1 36) (k.toNat + 1), k, ?_, hE3, ?_, ?_, ?_⟩, offE_trans hof ⟨fun a a1 a2 a3 => zup_ne a2, fun q hq => zzr (by decide), fun a a1 a2 => zup_ne a1⟩⟩
              · rw [zup_row]; exact EI_last hok hE1k (by omega) hk1 (by rw [hL1, show (k + 1).toNat = k.toNat + 1 by omega])
              · rw [zup_row, zup_ne (show (36 : Nat) ≠ 35 by decide), show (k + 1).toNat = k.toNat + 1 by omega]
              · rw [← hk1, zz]
              · rw [zup_row, ← hk1]; exact hN
          · refine z_aload_n dX2_advance_36 rfl rfl ?_
            refine z_dup dX2_advance_37 rfl ?_
            refine c_getI (ci := 2) (kf := 1) dX2_advance_38 rfl (by decide) (by decide) rfl w_112 ?_
            rw [hE1.1.2.1]
            refine c_iconst dX2_advance_41 ?_
            refine c_isub dX2_advance_42 ?_
            refine c_putI (ci := 2) (kf := 1) dX2_advance_43 rfl (by decide) (by decide) rfl (by decide) w_112 ?_
            have nE : EI e (zup J1 30 1 (k - 1)) P1 (k - 1) := by
              have z := EI_up (k := k.toNat) (by rw [ek]; exact hE1)
              rw [ek] at z; exact z
            have r5 : zup J1 30 1 (k - 1) 35 = J1 35 := zup_ne (by decide)
            have r6 : zup J1 30 1 (k - 1) 36 = J1 36 := zup_ne (by decide)
            have pu := pt_up (e := e) (x := J1 35) (low := J1 36) (k := k.toNat) (by omega)
            have nG : 0 ≤ gg + 1 ∧ gg + 1 + e.pt (zup J1 30 1 (k - 1) 35) (zup J1 30 1 (k - 1) 36) (k - 1 + 1).toNat + (k - 1 + 1) ≤ 3999999 := by
              rw [r5, r6, show (k - 1 + 1).toNat = k.toNat by omega, ← pu, show k.toNat + 1 = (k + 1).toNat by omega]; omega
            have nL : L = e.rs (zup J1 30 1 (k - 1) 35) (zup J1 30 1 (k - 1) 36) (k - 1 + 1).toNat := by
              rw [hL1, r5, r6, show (k + 1).toNat = k.toNat + 1 by omega, rs_up (by omega), show (k - 1 + 1).toNat = k.toNat by omega]
            have nO : offE J (zup J1 30 1 (k - 1)) P P1 := offE_trans hof ⟨fun a a1 _ _ => zup_ne a1, fun q hq => zzi hq, fun _ _ _ => rfl⟩
            have nK : -1 ≤ k - 1 ∧ k - 1 < (e.n : Int) ∧ 0 ≤ e.pt (zup J1 30 1 (k - 1) 35) (zup J1 30 1 (k - 1) 36) (k - 1 + 1).toNat := by
              rw [r5, r6, show (k - 1 + 1).toNat = k.toNat by omega, ← pu, show k.toNat + 1 = (k + 1).toNat by omega]; omega
            refine z_goto (tgt := 95) dX2_advance_46 (by decide) ?_
            refine c_iinc dX2_advance_95 rfl (by decide) rfl ?_
            refine z_goto (tgt := 2) dX2_advance_98 (by decide) ?_
            exact Z.fg2 (ih2 _ (by omega) _ _ _ _ rfl nE nG nL nO nK) (zs1 rfl (zs1 rfl zs0))
  exact Z.fg2 (L2 _ 0 k0 _ _ rfl hE0 (by have := pt_bd (x := J 35) (low := J 36) hok (k0 + 1).toNat (by have := hE0.2.2.2.1; omega) (fun j hj => (EI_diff hok hE0 (j := j) (by omega)).1); have := pm_mono hok (e.n - (k0 + 1).toNat) (k0 + 1).toNat (by have := hE0.2.2.2.1; omega); rw [show (k0 + 1).toNat + (e.n - (k0 + 1).toNat) = e.n by have := hE0.2.2.2.1; omega] at this; have := hE0.2.2.2.1; omega) hL0 offE_refl (by have := pt_bd (x := J 35) (low := J 36) hok (k0 + 1).toNat (by have := hE0.2.2.2.1; omega) (fun j hj => (EI_diff hok hE0 (j := j) (by omega)).1); have := hE0.2.2.2.1; omega)) (zs1 rfl (zs1 rfl zs0))
end Cls14
