section Ref18
variable {g : ZG} {l : Launch} {Kd : ZK} {Rd : ZR} {n s0 : Nat} {J P : Nat → Nat → Int}
theorem okU_up {nd : Int} {un : Nat → Int} {k : Int} (hU : okU nd un) (hk : 0 ≤ k ∧ k < nd) (h : 0 ≤ un k.toNat) : 0 ≤ un k.toNat ∧ un k.toNat < k := by
  by_cases e : k = 0
  · subst e; rw [show (0 : Int).toNat = 0 from rfl] at h; have := hU.2.2.1 (by omega); omega
  · have := hU.2.2.2 k.toNat (by omega) (by omega); omega
theorem nuC_bd (un : Nat → Int) (x : Int) (k : Nat) : -2 ≤ nuC un x k ∧ nuC un x k ≤ k := by
  have := cnt_bd (fun o => !goes un x o) k
  unfold nuC; split <;> omega
theorem nuC_neg {un : Nat → Int} {x : Int} {k : Nat} (h : nuC un x k < 0) : goes un x k = true := by
  have := cnt_bd (fun o => !goes un x o) k
  unfold nuC at h; split at h
  · assumption
  · omega
theorem nuC_pos {un : Nat → Int} {x : Int} {k : Nat} (h : ¬ nuC un x k < 0) : goes un x k = false := by
  unfold nuC at h; split at h
  · omega
  · rename_i hg; exact Bool.eq_false_iff.mpr hg
theorem jcut_62 {J : Nat → Nat → Int} {x : Int} : ∀ k, jcut J x k 62 = J 62
  | 0 => rfl
  | k + 1 => by
    unfold jcut; split
    · exact jcut_62 k
    · rw [zup_ne (by decide), zup_ne (by decide), jput_off (by decide) (by decide)]; exact jcut_62 k
theorem jcut_42 {J : Nat → Nat → Int} {x : Int} : ∀ k, jcut J x k 42 = J 42
  | 0 => rfl
  | k + 1 => by
    unfold jcut; split
    · exact jcut_42 k
    · rw [zup_ne (by decide), zup_ne (by decide), jput_off (by decide) (by decide)]; exact jcut_42 k
theorem jcut_45 {J : Nat → Nat → Int} {x : Int} {q : Nat} : ∀ {k}, k ≤ q → jcut J x k 45 q = J 45 q
  | 0, _ => rfl
  | k + 1, h => by
    have hb := nuC_bd (J 45) x k
    unfold jcut; split
    · exact jcut_45 (by omega)
    · rename_i hg
      have : 0 ≤ nuC (J 45) x k := by unfold nuC; rw [if_neg hg]; exact (cnt_bd _ _).1
      rw [zzr (by decide), zzi (by omega), jput_off (by decide) (by decide)]; exact jcut_45 (by omega)
theorem cut_n1 {J J1 : Nat → Nat → Int} {un : Nat → Int} {x k v : Int} (hk : 0 ≤ k) (hJ : J1 = fun a q => if a = 62 ∧ q < k.toNat then nuC un x q else J a q) (hv : v = nuC un x k.toNat) : zup J1 62 k.toNat v = fun a q => if a = 62 ∧ q < (k + 1).toNat then nuC un x q else J a q := by
  subst hJ hv
  rw [show (k + 1).toNat = k.toNat + 1 by omega]
  generalize k.toNat = w
  funext a q
  simp only [zup]
  grind
theorem cut_skip {J : Nat → Nat → Int} {x : Int} {k : Nat} (h : goes (J 45) x k = true) : jcut J x (k + 1) = jcut J x k := by
  rw [jcut, if_pos h]
theorem cut_lay {J : Nat → Nat → Int} {x k u : Int} (hk : 0 ≤ k) (h : goes (J 45) x k.toNat = false) (hu : u = jcU (jcut J x k.toNat) (J 45) x k.toNat) : zup (zup (jput (jcut J x k.toNat) (6 + nuC (J 45) x k.toNat).toNat (jcut J x k.toNat 44 (6 + k).toNat) (eE (jcut J x k.toNat) (6 + k))) 45 (nuC (J 45) x k.toNat).toNat u) 46 (nuC (J 45) x k.toNat).toNat (jcut J x k.toNat 46 k.toNat) = jcut J x (k.toNat + 1) := by
  rw [jcut, if_neg (by rw [h]; decide), hu, show (6 + k).toNat = 6 + k.toNat by omega, show (6 : Int) + ((k.toNat : Nat) : Int) = 6 + k by omega]
theorem jcut_congr {J J0 : Nat → Nat → Int} {x : Int} (h : ∀ a, a ≠ 62 → J0 a = J a) : ∀ k a, a ≠ 62 → jcut J0 x k a = jcut J x k a
  | 0, a, ha => h a ha
  | k + 1, a, ha => by
    have ih := jcut_congr (x := x) h k
    rw [jcut, jcut, h 45 (by decide)]
    split
    · exact ih a ha
    · have e : eE (jcut J0 x k) (6 + (k : Int)) = eE (jcut J x k) (6 + (k : Int)) := by unfold eE; rw [ih 43 (by decide)]
      unfold jcU
      rw [e, ih 44 (by decide), ih 45 (by decide), ih 46 (by decide)]
      funext q
      simp only [zup, jput]
      rw [ih a ha]
theorem pq_62 {J J' : Nat → Nat → Int} (h : ∀ a, a ≠ 62 → J' a = J a) : pq J J' := pq_off (fun a ha => h a (by intro e; subst e; rcases ha with h | h | h | h; exact absurd h (by decide); all_goals omega))
theorem zup_set1 {α : Type} {f : Nat → Nat → α} {r i q : Nat} {x : α} : zup f r i x r q = if q = i then x else f r q := by
  by_cases h : q = i
  · subst h; rw [zz, if_pos rfl]
  · rw [zzi h, if_neg h]
set_option maxHeartbeats 4000000 in
set_option maxRecDepth 100000 in
theorem cMX9_layHeights (hU : okU (J 42 2) (J 45)) : ZC g l MX9_layHeights [.ref 42] (KF Kd, zi J, zj P, RF Rd, n, s0) (fun rr hh => rr = none ∧ ∃ J', hh = (KF Kd, zi J', zj P, RF Rd, n, s0) ∧ HI (J 42 2) (J 45) (-1) (J' 59) (J' 60) (J' 61) ∧ (∀ a, a ≠ 59 → a ≠ 60 → a ≠ 61 → J' a = J a)) := by
  refine ZC.of (by decide) (Nat.le_of_ble_eq_true rfl) ?_
  generalize hQ0 : (fun rr hh => rr = none ∧ ∃ J', hh = (KF Kd, zi J', zj P, RF Rd, n, s0) ∧ HI (J 42 2) (J 45) (-1) (J' 59) (J' 60) (J' 61) ∧ (∀ a, a ≠ 59 → a ≠ 60 → a ≠ 61 → J' a = J a) : Option Value → ZH → Prop) = Q0
  show Z g l MX9_layHeights 0 [some (.ref 42), none, none] [] (KF Kd, zi J, zj P, RF Rd, n, s0) Q0
  have h30 := hU.2.1
  have h00 := hU.1
  refine c_iconst dX9_layHeights_0 ?_
  refine z_istore_n dX9_layHeights_1 rfl (by decide) rfl ?_
  have L2 : ∀ (m2 : Nat), ∀ (k : Int) (J1 : Nat → Nat → Int), (J 42 2 - k).toNat = m2 → (0 ≤ k ∧ k ≤ J 42 2) → (J1 = (fun a q => if (a = 59 ∨ a = 60 ∨ a = 61) ∧ q < k.toNat then 0 else J a q)) → Z g l MX9_layHeights 2 [some (.ref 42), some (.int (iZ k)), none] [] (KF Kd, zi J1, zj P, RF Rd, n, s0) Q0 := by
    intro m2
    induction m2 using Nat.strongRecOn with
    | ind m2 ih2 =>
      intro k J1 hm2 hk hJ
      have e42 : J1 42 2 = J 42 2 := by subst hJ; simp
      refine z_iload_n dX9_layHeights_2 rfl rfl ?_
      refine z_aload_n dX9_layHeights_3 rfl rfl ?_
      refine c_getI (ci := 9) (kf := 2) dX9_layHeights_4 rfl (by decide) (by decide) rfl w_778 ?_
      rw [e42]
      refine c_icmp_ge (tgt := 37) dX9_layHeights_7 (by decide) (by omega) (by omega) (fun h7 => ?_) (fun h7 => ?_)
      · refine z_aload_n dX9_layHeights_37 rfl rfl ?_
        refine c_getI (ci := 9) (kf := 2) dX9_layHeights_38 rfl (by decide) (by decide) rfl w_778 ?_
        rw [e42]
        refine c_iconst dX9_layHeights_41 ?_
        refine c_isub dX9_layHeights_42 ?_
        refine z_istore_n dX9_layHeights_43 rfl (by decide) rfl ?_
        have L44 : ∀ (m44 : Nat), ∀ (k : Int) (J1 : Nat → Nat → Int), (k + 1).toNat = m44 → (-1 ≤ k ∧ k < J 42 2) → (HI (J 42 2) (J 45) k (J1 59) (J1 60) (J1 61)) → (∀ a, a ≠ 59 → a ≠ 60 → a ≠ 61 → J1 a = J a) → Z g l MX9_layHeights 44 [some (.ref 42), some (.int (iZ k)), none] [] (KF Kd, zi J1, zj P, RF Rd, n, s0) Q0 := by
          intro m44
          induction m44 using Nat.strongRecOn with
          | ind m44 ih44 =>
            intro k J1 hm44 hk hI hoff
            refine z_iload_n dX9_layHeights_44 rfl rfl ?_
            refine c_if_lt (tgt := 153) dX9_layHeights_45 (by decide) (by omega) (fun h45 => ?_) (fun h45 => ?_)
            · refine z_return dX9_layHeights_153 rfl ?_
              subst hQ0; refine ⟨rfl, J1, rfl, ?_, hoff⟩; rw [show (-1 : Int) = k by omega]; exact hI
            · have hbq := HI_bd hU (k := k) (by omega) hI
              have hb0 := hbq k.toNat (by omega)
              have hlv := lvC_bd hU k
              have hown := HI_own hU (k := k) (by omega) hI
              have e45 : J1 45 = J 45 := hoff 45 (by decide) (by decide) (by decide)
              refine z_aload_n dX9_layHeights_48 rfl rfl ?_
              refine z_getR (ci := 9) (kf := 28) dX9_layHeights_49 rfl (by decide) (by decide) rfl w_804 rfl ?_
              refine z_iload_n dX9_layHeights_52 rfl rfl ?_
              refine z_dup2 dX9_layHeights_53 rfl rfl ?_
              refine c_iald dX9_layHeights_54 rfl (by omega) (by decide) ?_
              refine z_aload_n dX9_layHeights_55 rfl rfl ?_
              refine z_getR (ci := 9) (kf := 29) dX9_layHeights_56 rfl (by decide) (by decide) rfl w_805 rfl ?_
              refine z_iload_n dX9_layHeights_59 rfl rfl ?_
              refine c_iald dX9_layHeights_60 rfl (by omega) (by decide) ?_
              refine c_if_ne (tgt := 68) dX9_layHeights_61 (by decide) (by omega) (fun h61 => ?_) (fun h61 => ?_)
              · refine c_iconst dX9_layHeights_68 ?_
                refine c_iadd dX9_layHeights_69 ?_
                refine c_iast dX9_layHeights_70 rfl (by omega) (by decide) ?_
                first | rw [if_pos (by omega)] at hown | rw [if_neg (by omega)] at hown
                rw [hown]
                refine z_iload_n dX9_layHeights_71 rfl rfl ?_
                refine c_if_le (tgt := 147) dX9_layHeights_72 (by decide) (by omega) (fun h72 => ?_) (fun h72 => ?_)
                · refine c_iinc dX9_layHeights_147 rfl (by decide) rfl ?_
                  refine z_goto (tgt := 44) dX9_layHeights_150 (by decide) ?_
                  exact Z.fg2 (ih44 _ (by omega) _ _ rfl (by omega) (by
                                clear ih44 ih2 hQ0
                                first
                                | (have hk0 : k = 0 := by omega
                                   subst hk0; rw [zup_ne (by decide), zup_ne (show (61 : Nat) ≠ 60 by decide)]; exact HI_zero hU (by omega) hI (fun q => by simp only [zup]; grind))
                                | (refine HI_step hU (by omega) hI rfl (fun q => ?_) (fun q => ?_) (fun q => ?_)
                                   · rw [zup_set1]; first | rw [if_pos (show J1 59 (J 45 k.toNat).toNat < J1 59 k.toNat + 1 by omega)] | rw [if_neg (show ¬ J1 59 (J 45 k.toNat).toNat < J1 59 k.toNat + 1 by omega)]
                                     rw [zup_ne (show (59 : Nat) ≠ 60 by decide), zup_ne (show (59 : Nat) ≠ 61 by decide), zup_ne (show (59 : Nat) ≠ 60 by decide)]
                                   · rw [zup_ne (show (60 : Nat) ≠ 59 by decide), zup_set1, zup_ne (show (60 : Nat) ≠ 61 by decide), zup_set1]
                                   · rw [zup_ne (show (61 : Nat) ≠ 59 by decide), zup_ne (show (61 : Nat) ≠ 60 by decide), zup_set1, zup_ne (show (61 : Nat) ≠ 60 by decide)])) (fun a a1 a2 a3 => by (repeat (first | rw [zup_ne a1] | rw [zup_ne a2] | rw [zup_ne a3])); exact hoff a a1 a2 a3)) (zs1 rfl (zs1 rfl (zsn zs0)))
                · refine z_aload_n dX9_layHeights_75 rfl rfl ?_
                  refine z_getR (ci := 9) (kf := 3) dX9_layHeights_76 rfl (by decide) (by decide) rfl w_779 rfl ?_
                  refine z_iload_n dX9_layHeights_79 rfl rfl ?_
                  refine c_iald dX9_layHeights_80 rfl (by omega) (by decide) ?_
                  rw [zzr (by decide), e45]
                  have hun := hU.2.2.2 k.toNat (by omega) (by omega)
                  have hbu := hbq (J 45 k.toNat).toNat (by omega)
                  refine z_istore_n dX9_layHeights_81 rfl (by decide) rfl ?_
                  refine z_aload_n dX9_layHeights_82 rfl rfl ?_
                  refine z_getR (ci := 9) (kf := 29) dX9_layHeights_83 rfl (by decide) (by decide) rfl w_805 rfl ?_
                  refine z_iload_n dX9_layHeights_86 rfl rfl ?_
                  refine z_dup2 dX9_layHeights_87 rfl rfl ?_
                  refine c_iald dX9_layHeights_88 rfl (by omega) (by decide) ?_
                  rw [zzr (by decide)]
                  refine c_iconst dX9_layHeights_89 ?_
                  refine c_iadd dX9_layHeights_90 ?_
                  refine c_iast dX9_layHeights_91 rfl (by omega) (by decide) ?_
                  refine z_aload_n dX9_layHeights_92 rfl rfl ?_
                  refine z_getR (ci := 9) (kf := 28) dX9_layHeights_93 rfl (by decide) (by decide) rfl w_804 rfl ?_
                  refine z_iload_n dX9_layHeights_96 rfl rfl ?_
                  refine z_dup2 dX9_layHeights_97 rfl rfl ?_
                  refine c_iald dX9_layHeights_98 rfl (by omega) (by decide) ?_
                  rw [zzr (by decide), zzi (by omega)]
                  refine z_aload_n dX9_layHeights_99 rfl rfl ?_
                  refine z_getR (ci := 9) (kf := 28) dX9_layHeights_100 rfl (by decide) (by decide) rfl w_804 rfl ?_
                  refine z_iload_n dX9_layHeights_103 rfl rfl ?_
                  refine c_iald dX9_layHeights_104 rfl (by omega) (by decide) ?_
                  rw [zzr (by decide), zz]
                  refine c_iadd dX9_layHeights_105 ?_
                  refine c_iast dX9_layHeights_106 rfl (by omega) (by decide) ?_
                  refine z_aload_n dX9_layHeights_107 rfl rfl ?_
                  refine z_getR (ci := 9) (kf := 27) dX9_layHeights_108 rfl (by decide) (by decide) rfl w_803 rfl ?_
                  refine z_iload_n dX9_layHeights_111 rfl rfl ?_
                  refine z_aload_n dX9_layHeights_112 rfl rfl ?_
                  refine z_getR (ci := 9) (kf := 27) dX9_layHeights_113 rfl (by decide) (by decide) rfl w_803 rfl ?_
                  refine z_iload_n dX9_layHeights_116 rfl rfl ?_
                  refine c_iald dX9_layHeights_117 rfl (by omega) (by decide) ?_
                  rw [zzr (by decide), zzr (by decide), zzr (by decide)]
                  refine c_iconst dX9_layHeights_118 ?_
                  refine c_iadd dX9_layHeights_119 ?_
                  refine z_aload_n dX9_layHeights_120 rfl rfl ?_
                  refine z_getR (ci := 9) (kf := 27) dX9_layHeights_121 rfl (by decide) (by decide) rfl w_803 rfl ?_
                  refine z_iload_n dX9_layHeights_124 rfl rfl ?_
                  refine c_iald dX9_layHeights_125 rfl (by omega) (by decide) ?_
                  rw [zzr (by decide), zzr (by decide), zzr (by decide)]
                  refine c_icmp_le (tgt := 140) dX9_layHeights_126 (by decide) (by omega) (by omega) (fun h126 => ?_) (fun h126 => ?_)
                  · refine z_aload_n dX9_layHeights_140 rfl rfl ?_
                    refine z_getR (ci := 9) (kf := 27) dX9_layHeights_141 rfl (by decide) (by decide) rfl w_803 rfl ?_
                    refine z_iload_n dX9_layHeights_144 rfl rfl ?_
                    refine c_iald dX9_layHeights_145 rfl (by omega) (by decide) ?_
                    try rw [zzr (by decide), zzr (by decide), zzr (by decide)]
                    refine c_iast dX9_layHeights_146 rfl (by omega) (by decide) ?_
                    refine c_iinc dX9_layHeights_147 rfl (by decide) rfl ?_
                    refine z_goto (tgt := 44) dX9_layHeights_150 (by decide) ?_
                    exact Z.fg2 (ih44 _ (by omega) _ _ rfl (by omega) (by
                                clear ih44 ih2 hQ0
                                first
                                | (have hk0 : k = 0 := by omega
                                   subst hk0; rw [zup_ne (by decide), zup_ne (show (61 : Nat) ≠ 60 by decide)]; exact HI_zero hU (by omega) hI (fun q => by simp only [zup]; grind))
                                | (refine HI_step hU (by omega) hI rfl (fun q => ?_) (fun q => ?_) (fun q => ?_)
                                   · rw [zup_set1]; first | rw [if_pos (show J1 59 (J 45 k.toNat).toNat < J1 59 k.toNat + 1 by omega)] | rw [if_neg (show ¬ J1 59 (J 45 k.toNat).toNat < J1 59 k.toNat + 1 by omega)]
                                     rw [zup_ne (show (59 : Nat) ≠ 60 by decide), zup_ne (show (59 : Nat) ≠ 61 by decide), zup_ne (show (59 : Nat) ≠ 60 by decide)]
                                   · rw [zup_ne (show (60 : Nat) ≠ 59 by decide), zup_set1, zup_ne (show (60 : Nat) ≠ 61 by decide), zup_set1]
                                   · rw [zup_ne (show (61 : Nat) ≠ 59 by decide), zup_ne (show (61 : Nat) ≠ 60 by decide), zup_set1, zup_ne (show (61 : Nat) ≠ 60 by decide)])) (fun a a1 a2 a3 => by (repeat (first | rw [zup_ne a1] | rw [zup_ne a2] | rw [zup_ne a3])); exact hoff a a1 a2 a3)) (zs1 rfl (zs1 rfl (zsn zs0)))
                  · refine z_aload_n dX9_layHeights_129 rfl rfl ?_
                    refine z_getR (ci := 9) (kf := 27) dX9_layHeights_130 rfl (by decide) (by decide) rfl w_803 rfl ?_
                    refine z_iload_n dX9_layHeights_133 rfl rfl ?_
                    refine c_iald dX9_layHeights_134 rfl (by omega) (by decide) ?_
                    rw [zzr (by decide), zzr (by decide), zzr (by decide)]
                    refine c_iconst dX9_layHeights_135 ?_
                    refine c_iadd dX9_layHeights_136 ?_
                    refine z_goto (tgt := 146) dX9_layHeights_137 (by decide) ?_
                    try rw [zzr (by decide), zzr (by decide), zzr (by decide)]
                    refine c_iast dX9_layHeights_146 rfl (by omega) (by decide) ?_
                    refine c_iinc dX9_layHeights_147 rfl (by decide) rfl ?_
                    refine z_goto (tgt := 44) dX9_layHeights_150 (by decide) ?_
                    exact Z.fg2 (ih44 _ (by omega) _ _ rfl (by omega) (by
                                clear ih44 ih2 hQ0
                                first
                                | (have hk0 : k = 0 := by omega
                                   subst hk0; rw [zup_ne (by decide), zup_ne (show (61 : Nat) ≠ 60 by decide)]; exact HI_zero hU (by omega) hI (fun q => by simp only [zup]; grind))
                                | (refine HI_step hU (by omega) hI rfl (fun q => ?_) (fun q => ?_) (fun q => ?_)
                                   · rw [zup_set1]; first | rw [if_pos (show J1 59 (J 45 k.toNat).toNat < J1 59 k.toNat + 1 by omega)] | rw [if_neg (show ¬ J1 59 (J 45 k.toNat).toNat < J1 59 k.toNat + 1 by omega)]
                                     rw [zup_ne (show (59 : Nat) ≠ 60 by decide), zup_ne (show (59 : Nat) ≠ 61 by decide), zup_ne (show (59 : Nat) ≠ 60 by decide)]
                                   · rw [zup_ne (show (60 : Nat) ≠ 59 by decide), zup_set1, zup_ne (show (60 : Nat) ≠ 61 by decide), zup_set1]
                                   · rw [zup_ne (show (61 : Nat) ≠ 59 by decide), zup_ne (show (61 : Nat) ≠ 60 by decide), zup_set1, zup_ne (show (61 : Nat) ≠ 60 by decide)])) (fun a a1 a2 a3 => by (repeat (first | rw [zup_ne a1] | rw [zup_ne a2] | rw [zup_ne a3])); exact hoff a a1 a2 a3)) (zs1 rfl (zs1 rfl (zsn zs0)))
              · refine c_iconst dX9_layHeights_64 ?_
                refine z_goto (tgt := 69) dX9_layHeights_65 (by decide) ?_
                refine c_iadd dX9_layHeights_69 ?_
                refine c_iast dX9_layHeights_70 rfl (by omega) (by decide) ?_
                first | rw [if_pos (by omega)] at hown | rw [if_neg (by omega)] at hown
                rw [hown]
                refine z_iload_n dX9_layHeights_71 rfl rfl ?_
                refine c_if_le (tgt := 147) dX9_layHeights_72 (by decide) (by omega) (fun h72 => ?_) (fun h72 => ?_)
                · refine c_iinc dX9_layHeights_147 rfl (by decide) rfl ?_
                  refine z_goto (tgt := 44) dX9_layHeights_150 (by decide) ?_
                  exact Z.fg2 (ih44 _ (by omega) _ _ rfl (by omega) (by
                                clear ih44 ih2 hQ0
                                first
                                | (have hk0 : k = 0 := by omega
                                   subst hk0; rw [zup_ne (by decide), zup_ne (show (61 : Nat) ≠ 60 by decide)]; exact HI_zero hU (by omega) hI (fun q => by simp only [zup]; grind))
                                | (refine HI_step hU (by omega) hI rfl (fun q => ?_) (fun q => ?_) (fun q => ?_)
                                   · rw [zup_set1]; first | rw [if_pos (show J1 59 (J 45 k.toNat).toNat < J1 59 k.toNat + 1 by omega)] | rw [if_neg (show ¬ J1 59 (J 45 k.toNat).toNat < J1 59 k.toNat + 1 by omega)]
                                     rw [zup_ne (show (59 : Nat) ≠ 60 by decide), zup_ne (show (59 : Nat) ≠ 61 by decide), zup_ne (show (59 : Nat) ≠ 60 by decide)]
                                   · rw [zup_ne (show (60 : Nat) ≠ 59 by decide), zup_set1, zup_ne (show (60 : Nat) ≠ 61 by decide), zup_set1]
                                   · rw [zup_ne (show (61 : Nat) ≠ 59 by decide), zup_ne (show (61 : Nat) ≠ 60 by decide), zup_set1, zup_ne (show (61 : Nat) ≠ 60 by decide)])) (fun a a1 a2 a3 => by (repeat (first | rw [zup_ne a1] | rw [zup_ne a2] | rw [zup_ne a3])); exact hoff a a1 a2 a3)) (zs1 rfl (zs1 rfl (zsn zs0)))
                · refine z_aload_n dX9_layHeights_75 rfl rfl ?_
                  refine z_getR (ci := 9) (kf := 3) dX9_layHeights_76 rfl (by decide) (by decide) rfl w_779 rfl ?_
                  refine z_iload_n dX9_layHeights_79 rfl rfl ?_
                  refine c_iald dX9_layHeights_80 rfl (by omega) (by decide) ?_
                  rw [zzr (by decide), e45]
                  have hun := hU.2.2.2 k.toNat (by omega) (by omega)
                  have hbu := hbq (J 45 k.toNat).toNat (by omega)
                  refine z_istore_n dX9_layHeights_81 rfl (by decide) rfl ?_
                  refine z_aload_n dX9_layHeights_82 rfl rfl ?_
                  refine z_getR (ci := 9) (kf := 29) dX9_layHeights_83 rfl (by decide) (by decide) rfl w_805 rfl ?_
                  refine z_iload_n dX9_layHeights_86 rfl rfl ?_
                  refine z_dup2 dX9_layHeights_87 rfl rfl ?_
                  refine c_iald dX9_layHeights_88 rfl (by omega) (by decide) ?_
                  rw [zzr (by decide)]
                  refine c_iconst dX9_layHeights_89 ?_
                  refine c_iadd dX9_layHeights_90 ?_
                  refine c_iast dX9_layHeights_91 rfl (by omega) (by decide) ?_
                  refine z_aload_n dX9_layHeights_92 rfl rfl ?_
                  refine z_getR (ci := 9) (kf := 28) dX9_layHeights_93 rfl (by decide) (by decide) rfl w_804 rfl ?_
                  refine z_iload_n dX9_layHeights_96 rfl rfl ?_
                  refine z_dup2 dX9_layHeights_97 rfl rfl ?_
                  refine c_iald dX9_layHeights_98 rfl (by omega) (by decide) ?_
                  rw [zzr (by decide), zzi (by omega)]
                  refine z_aload_n dX9_layHeights_99 rfl rfl ?_
                  refine z_getR (ci := 9) (kf := 28) dX9_layHeights_100 rfl (by decide) (by decide) rfl w_804 rfl ?_
                  refine z_iload_n dX9_layHeights_103 rfl rfl ?_
                  refine c_iald dX9_layHeights_104 rfl (by omega) (by decide) ?_
                  rw [zzr (by decide), zz]
                  refine c_iadd dX9_layHeights_105 ?_
                  refine c_iast dX9_layHeights_106 rfl (by omega) (by decide) ?_
                  refine z_aload_n dX9_layHeights_107 rfl rfl ?_
                  refine z_getR (ci := 9) (kf := 27) dX9_layHeights_108 rfl (by decide) (by decide) rfl w_803 rfl ?_
                  refine z_iload_n dX9_layHeights_111 rfl rfl ?_
                  refine z_aload_n dX9_layHeights_112 rfl rfl ?_
                  refine z_getR (ci := 9) (kf := 27) dX9_layHeights_113 rfl (by decide) (by decide) rfl w_803 rfl ?_
                  refine z_iload_n dX9_layHeights_116 rfl rfl ?_
                  refine c_iald dX9_layHeights_117 rfl (by omega) (by decide) ?_
                  rw [zzr (by decide), zzr (by decide), zzr (by decide)]
                  refine c_iconst dX9_layHeights_118 ?_
                  refine c_iadd dX9_layHeights_119 ?_
                  refine z_aload_n dX9_layHeights_120 rfl rfl ?_
                  refine z_getR (ci := 9) (kf := 27) dX9_layHeights_121 rfl (by decide) (by decide) rfl w_803 rfl ?_
                  refine z_iload_n dX9_layHeights_124 rfl rfl ?_
                  refine c_iald dX9_layHeights_125 rfl (by omega) (by decide) ?_
                  rw [zzr (by decide), zzr (by decide), zzr (by decide)]
                  refine c_icmp_le (tgt := 140) dX9_layHeights_126 (by decide) (by omega) (by omega) (fun h126 => ?_) (fun h126 => ?_)
                  · refine z_aload_n dX9_layHeights_140 rfl rfl ?_
                    refine z_getR (ci := 9) (kf := 27) dX9_layHeights_141 rfl (by decide) (by decide) rfl w_803 rfl ?_
                    refine z_iload_n dX9_layHeights_144 rfl rfl ?_
                    refine c_iald dX9_layHeights_145 rfl (by omega) (by decide) ?_
                    try rw [zzr (by decide), zzr (by decide), zzr (by decide)]
                    refine c_iast dX9_layHeights_146 rfl (by omega) (by decide) ?_
                    refine c_iinc dX9_layHeights_147 rfl (by decide) rfl ?_
                    refine z_goto (tgt := 44) dX9_layHeights_150 (by decide) ?_
                    exact Z.fg2 (ih44 _ (by omega) _ _ rfl (by omega) (by
                                clear ih44 ih2 hQ0
                                first
                                | (have hk0 : k = 0 := by omega
                                   subst hk0; rw [zup_ne (by decide), zup_ne (show (61 : Nat) ≠ 60 by decide)]; exact HI_zero hU (by omega) hI (fun q => by simp only [zup]; grind))
                                | (refine HI_step hU (by omega) hI rfl (fun q => ?_) (fun q => ?_) (fun q => ?_)
                                   · rw [zup_set1]; first | rw [if_pos (show J1 59 (J 45 k.toNat).toNat < J1 59 k.toNat + 1 by omega)] | rw [if_neg (show ¬ J1 59 (J 45 k.toNat).toNat < J1 59 k.toNat + 1 by omega)]
                                     rw [zup_ne (show (59 : Nat) ≠ 60 by decide), zup_ne (show (59 : Nat) ≠ 61 by decide), zup_ne (show (59 : Nat) ≠ 60 by decide)]
                                   · rw [zup_ne (show (60 : Nat) ≠ 59 by decide), zup_set1, zup_ne (show (60 : Nat) ≠ 61 by decide), zup_set1]
                                   · rw [zup_ne (show (61 : Nat) ≠ 59 by decide), zup_ne (show (61 : Nat) ≠ 60 by decide), zup_set1, zup_ne (show (61 : Nat) ≠ 60 by decide)])) (fun a a1 a2 a3 => by (repeat (first | rw [zup_ne a1] | rw [zup_ne a2] | rw [zup_ne a3])); exact hoff a a1 a2 a3)) (zs1 rfl (zs1 rfl (zsn zs0)))
                  · refine z_aload_n dX9_layHeights_129 rfl rfl ?_
                    refine z_getR (ci := 9) (kf := 27) dX9_layHeights_130 rfl (by decide) (by decide) rfl w_803 rfl ?_
                    refine z_iload_n dX9_layHeights_133 rfl rfl ?_
                    refine c_iald dX9_layHeights_134 rfl (by omega) (by decide) ?_
                    rw [zzr (by decide), zzr (by decide), zzr (by decide)]
                    refine c_iconst dX9_layHeights_135 ?_
                    refine c_iadd dX9_layHeights_136 ?_
                    refine z_goto (tgt := 146) dX9_layHeights_137 (by decide) ?_
                    try rw [zzr (by decide), zzr (by decide), zzr (by decide)]
                    refine c_iast dX9_layHeights_146 rfl (by omega) (by decide) ?_
                    refine c_iinc dX9_layHeights_147 rfl (by decide) rfl ?_
                    refine z_goto (tgt := 44) dX9_layHeights_150 (by decide) ?_
                    exact Z.fg2 (ih44 _ (by omega) _ _ rfl (by omega) (by
                                clear ih44 ih2 hQ0
                                first
                                | (have hk0 : k = 0 := by omega
                                   subst hk0; rw [zup_ne (by decide), zup_ne (show (61 : Nat) ≠ 60 by decide)]; exact HI_zero hU (by omega) hI (fun q => by simp only [zup]; grind))
                                | (refine HI_step hU (by omega) hI rfl (fun q => ?_) (fun q => ?_) (fun q => ?_)
                                   · rw [zup_set1]; first | rw [if_pos (show J1 59 (J 45 k.toNat).toNat < J1 59 k.toNat + 1 by omega)] | rw [if_neg (show ¬ J1 59 (J 45 k.toNat).toNat < J1 59 k.toNat + 1 by omega)]
                                     rw [zup_ne (show (59 : Nat) ≠ 60 by decide), zup_ne (show (59 : Nat) ≠ 61 by decide), zup_ne (show (59 : Nat) ≠ 60 by decide)]
                                   · rw [zup_ne (show (60 : Nat) ≠ 59 by decide), zup_set1, zup_ne (show (60 : Nat) ≠ 61 by decide), zup_set1]
                                   · rw [zup_ne (show (61 : Nat) ≠ 59 by decide), zup_ne (show (61 : Nat) ≠ 60 by decide), zup_set1, zup_ne (show (61 : Nat) ≠ 60 by decide)])) (fun a a1 a2 a3 => by (repeat (first | rw [zup_ne a1] | rw [zup_ne a2] | rw [zup_ne a3])); exact hoff a a1 a2 a3)) (zs1 rfl (zs1 rfl (zsn zs0)))
        exact Z.fg2 (L44 _ _ _ rfl (by omega) (HI_first (by omega) (fun q hq => by subst hJ; dsimp only; rw [if_pos (by omega), if_pos (by omega), if_pos (by omega)]; exact ⟨rfl, rfl, rfl⟩)) (fun a a1 a2 a3 => by subst hJ; funext q; dsimp only; rw [if_neg (by omega)])) (zs1 rfl (zs1 rfl (zsn zs0)))
      · refine z_aload_n dX9_layHeights_10 rfl rfl ?_
        refine z_getR (ci := 9) (kf := 27) dX9_layHeights_11 rfl (by decide) (by decide) rfl w_803 rfl ?_
        refine z_iload_n dX9_layHeights_14 rfl rfl ?_
        refine c_iconst dX9_layHeights_15 ?_
        refine c_iast dX9_layHeights_16 rfl (by omega) (by decide) ?_
        refine z_aload_n dX9_layHeights_17 rfl rfl ?_
        refine z_getR (ci := 9) (kf := 28) dX9_layHeights_18 rfl (by decide) (by decide) rfl w_804 rfl ?_
        refine z_iload_n dX9_layHeights_21 rfl rfl ?_
        refine c_iconst dX9_layHeights_22 ?_
        refine c_iast dX9_layHeights_23 rfl (by omega) (by decide) ?_
        refine z_aload_n dX9_layHeights_24 rfl rfl ?_
        refine z_getR (ci := 9) (kf := 29) dX9_layHeights_25 rfl (by decide) (by decide) rfl w_805 rfl ?_
        refine z_iload_n dX9_layHeights_28 rfl rfl ?_
        refine c_iconst dX9_layHeights_29 ?_
        refine c_iast dX9_layHeights_30 rfl (by omega) (by decide) ?_
        refine c_iinc dX9_layHeights_31 rfl (by decide) rfl ?_
        refine z_goto (tgt := 2) dX9_layHeights_34 (by decide) ?_
        exact Z.fg2 (ih2 _ (by omega) _ _ rfl (by omega) (by clear ih2 hQ0; subst hJ; funext a q; simp only [zup]; grind (splits := 20))) (zs1 rfl (zs1 rfl (zsn zs0)))
  exact Z.fg2 (L2 _ _ _ rfl (by omega) (by funext a q; rw [if_neg (by omega)])) (zs1 rfl (zs1 rfl (zsn zs0)))
set_option maxHeartbeats 4000000 in
set_option maxRecDepth 100000 in
theorem cMX9_ofNode {x w : Int} (hx : rI x) (hw : rI w) (hT : okT J) (hL : okJ J) (hR : okR J) : ZC g l MX9_ofNode [.ref 42, .int (iZ x), .int (iZ w)] (KF Kd, zi J, zj P, RF Rd, n, s0) (fun rr hh => ∃ J' P', hh = (KF Kd, zi J', zj P', RF Rd, n, s0) ∧ rr = some (.int (iZ (aOfNode J x w))) ∧ pq J J' ∧ pp P P') := by
  refine ZC.of (by decide) (Nat.le_of_ble_eq_true rfl) ?_
  generalize hQ0 : (fun rr hh => ∃ J' P', hh = (KF Kd, zi J', zj P', RF Rd, n, s0) ∧ rr = some (.int (iZ (aOfNode J x w))) ∧ pq J J' ∧ pp P P' : Option Value → ZH → Prop) = Q0
  show Z g l MX9_ofNode 0 [some (.ref 42), some (.int (iZ x)), some (.int (iZ w))] [] (KF Kd, zi J, zj P, RF Rd, n, s0) Q0
  have hU := okT_U hT
  have h30 := hU.2.1
  have h00 := hU.1
  refine z_aload_n dX9_ofNode_0 rfl rfl ?_
  refine z_iload_n dX9_ofNode_1 rfl rfl ?_
  refine z_callv (N := MX9_isNode) (ci := 9) (nas := 1) (as := [_]) dX9_ofNode_2 w_1154 w_1151 w_1153 ws_47 w_8 (by decide +kernel) rfl rfl rfl (by decide) (Nat.le_of_ble_eq_true rfl) (by decide) (by decide) (ZC.mono (cMX9_isNode (by omega) (by omega)) ?_)
  rintro _ _ ⟨b2, rfl, rfl, hb2⟩
  refine c_if_eq (tgt := 20) dX9_ofNode_5 (by decide) (by omega) (fun h5 => ?_) (fun h5 => ?_)
  · have g2 := (hb2.resolve_left (fun z => by have := z.1; omega)).2
    clear hb2
    refine c_iconst dX9_ofNode_20 ?_
    refine c_ireturn dX9_ofNode_21 rfl ?_
    subst hQ0; refine ⟨_, _, rfl, ?_⟩; unfold aOfNode; rw [cif_neg (by omega)]; exact ⟨rfl, pq_refl _, pp_refl _⟩
  · have g2 := (hb2.resolve_right (fun z => by have := z.1; omega)).2
    clear hb2
    refine z_iload_n dX9_ofNode_8 rfl rfl ?_
    refine c_i2l dX9_ofNode_9 (by omega) ?_
    refine c_lconst0 dX9_ofNode_10 ?_
    refine c_ldc2 (z := 8) dX9_ofNode_11 w_1159 (by decide) ?_
    refine z_calls (N := MX9_in) (nas := 3) (as := [_, _, _]) dX9_ofNode_14 w_889 w_887 w_888 w_8 (by decide +kernel) rfl rfl (Nat.le_of_ble_eq_true rfl) (by decide) (by decide) (ZC.mono (b_in (by omega) (by omega) (by omega)) ?_)
    rintro _ _ ⟨b14, rfl, rfl, hb14⟩
    refine c_if_ne (tgt := 22) dX9_ofNode_17 (by decide) (by omega) (fun h17 => ?_) (fun h17 => ?_)
    · have g14 := (hb14.resolve_right (fun z => by have := z.1; omega)).2
      clear hb14
      refine z_aload_n dX9_ofNode_22 rfl rfl ?_
      refine z_callv (N := MX9_layHeights) (ci := 9) (nas := 0) (as := []) dX9_ofNode_23 w_1163 w_1160 w_1162 ws_48 w_8 (by decide +kernel) rfl rfl rfl (by decide) (Nat.le_of_ble_eq_true rfl) (by decide) (by decide) (ZC.mono (cMX9_layHeights hU) ?_)
      rintro _ _ ⟨rfl, J2, rfl, hI, hO2⟩
      have e44 : J2 44 = J 44 := hO2 44 (by decide) (by decide) (by decide)
      have e45 : J2 45 = J 45 := hO2 45 (by decide) (by decide) (by decide)
      have e46 : J2 46 = J 46 := hO2 46 (by decide) (by decide) (by decide)
      have eE2 : eE J2 (6 + x) = eE J (6 + x) := by unfold eE; rw [hO2 43 (by decide) (by decide) (by decide)]
      have hk44 : 0 < J 44 (6 + x).toNat := by have := hT.2.2.2.1 x.toNat (by omega); rw [show (6 + x).toNat = 6 + x.toNat by omega]; exact this
      have hFx := okJ_form hL (s := 6 + x) (by omega) hk44
      have h1q : 1 ≤ J2 44 (6 + x).toNat := by rw [e44]; omega
      have hFq : okF (J2 44 (6 + x).toNat) (eE J2 (6 + x)) := by rw [e44, eE2]; exact hFx
      have hE2 : entS (eE J2 (6 + x)) := hFq.2.1.1
      have hpq : pq J J2 := pq_off (fun a ha => hO2 a (by intro e; subst e; rcases ha with h | h | h | h; exact absurd h (by decide); all_goals omega) (by intro e; subst e; rcases ha with h | h | h | h; exact absurd h (by decide); all_goals omega) (by intro e; subst e; rcases ha with h | h | h | h; exact absurd h (by decide); all_goals omega))
      have hT2 : okT J2 := by unfold okT; rw [hO2 42 (by decide) (by decide) (by decide), e44, e45, e46, hO2 47 (by decide) (by decide) (by decide), hO2 48 (by decide) (by decide) (by decide)]; exact hT
      have hL2 : okJ J2 := by unfold okJ; rw [e44, hO2 43 (by decide) (by decide) (by decide)]; exact hL
      have hR2 : okR J2 := by unfold okR; rw [hO2 56 (by decide) (by decide) (by decide)]; exact hR
      have hen := HI_end hU hI (q := x.toNat) (by omega)
      rw [Int.toNat_of_nonneg (show 0 ≤ x by omega)] at hen
      refine z_iload_n dX9_ofNode_26 rfl rfl ?_
      rcases (show w = 0 ∨ w = 1 ∨ w = 2 ∨ w = 3 ∨ w = 4 ∨ w = 5 ∨ w = 6 ∨ w = 7 ∨ (w < 0 ∨ 7 < w) by omega) with hsw | hsw | hsw | hsw | hsw | hsw | hsw | hsw | hsw
      · subst hsw
        refine c_tableIn (tgt := 72) dX9_ofNode_27 (by decide) (by decide) rfl (by decide) ?_
        refine z_aload_n dX9_ofNode_72 rfl rfl ?_
        refine z_getR (ci := 9) (kf := 3) dX9_ofNode_73 rfl (by decide) (by decide) rfl w_779 rfl ?_
        refine z_iload_n dX9_ofNode_76 rfl rfl ?_
        refine c_iald dX9_ofNode_77 rfl (by omega) (by decide) ?_
        rw [e45]
        refine c_ireturn dX9_ofNode_78 rfl ?_
        subst hQ0; refine ⟨_, _, rfl, ?_⟩; unfold aOfNode; rw [cif_pos (by omega)]; refine ⟨?_, hpq, pp_refl _⟩; first | (rw [if_pos rfl]) | skip
      · subst hsw
        refine c_tableIn (tgt := 79) dX9_ofNode_27 (by decide) (by decide) rfl (by decide) ?_
        refine z_aload_n dX9_ofNode_79 rfl rfl ?_
        refine z_getR (ci := 9) (kf := 1) dX9_ofNode_80 rfl (by decide) (by decide) rfl w_777 rfl ?_
        refine c_bipush dX9_ofNode_83 (by decide) ?_
        refine z_iload_n dX9_ofNode_85 rfl rfl ?_
        refine c_iadd dX9_ofNode_86 ?_
        refine c_iald dX9_ofNode_87 rfl (by omega) (by decide) ?_
        rw [e44]
        refine c_ireturn dX9_ofNode_88 rfl ?_
        subst hQ0; refine ⟨_, _, rfl, ?_⟩; unfold aOfNode; rw [cif_pos (by omega)]; refine ⟨?_, hpq, pp_refl _⟩; first | (rw [if_neg (by decide), if_pos rfl]) | skip
      · subst hsw
        refine c_tableIn (tgt := 89) dX9_ofNode_27 (by decide) (by decide) rfl (by decide) ?_
        refine z_aload_n dX9_ofNode_89 rfl rfl ?_
        refine c_bipush dX9_ofNode_90 (by decide) ?_
        refine z_iload_n dX9_ofNode_92 rfl rfl ?_
        refine c_iadd dX9_ofNode_93 ?_
        refine z_callv (N := MX9_truantOf) (ci := 9) (nas := 1) (as := [_]) dX9_ofNode_94 w_1047 w_1044 w_1046 ws_35 w_8 (by decide +kernel) rfl rfl rfl (by decide) (Nat.le_of_ble_eq_true rfl) (by decide) (by decide) (ZC.mono (cMX9_truantOf (by omega) h1q hFq) ?_)
        rintro _ _ ⟨rfl, J3, P3, rfl, hC3, hO3, hPo3⟩
        refine c_ireturn dX9_ofNode_97 rfl ?_
        subst hQ0; refine ⟨_, _, rfl, ?_⟩; unfold aOfNode; rw [cif_pos (by omega)]; refine ⟨?_, pq_trans hpq (pq_offC hO3), pp_offP hPo3⟩; first | (rw [if_neg (by decide), if_neg (by decide), if_pos rfl]; rw [e44, eE2]) | skip
      · subst hsw
        refine c_tableIn (tgt := 98) dX9_ofNode_27 (by decide) (by decide) rfl (by decide) ?_
        refine z_aload_n dX9_ofNode_98 rfl rfl ?_
        refine z_getR (ci := 9) (kf := 29) dX9_ofNode_99 rfl (by decide) (by decide) rfl w_805 rfl ?_
        refine z_iload_n dX9_ofNode_102 rfl rfl ?_
        refine c_iald dX9_ofNode_103 rfl (by omega) (by decide) ?_
        rw [hen.2.2]
        refine c_ireturn dX9_ofNode_104 rfl ?_
        subst hQ0; refine ⟨_, _, rfl, ?_⟩; unfold aOfNode; rw [cif_pos (by omega)]; refine ⟨?_, hpq, pp_refl _⟩; first | (rw [if_neg (by decide), if_neg (by decide), if_neg (by decide), if_pos rfl]) | skip
      · subst hsw
        refine c_tableIn (tgt := 105) dX9_ofNode_27 (by decide) (by decide) rfl (by decide) ?_
        refine z_aload_n dX9_ofNode_105 rfl rfl ?_
        refine z_getR (ci := 9) (kf := 27) dX9_ofNode_106 rfl (by decide) (by decide) rfl w_803 rfl ?_
        refine z_iload_n dX9_ofNode_109 rfl rfl ?_
        refine c_iald dX9_ofNode_110 rfl (by omega) (by decide) ?_
        rw [hen.1]
        refine c_ireturn dX9_ofNode_111 rfl ?_
        subst hQ0; refine ⟨_, _, rfl, ?_⟩; unfold aOfNode; rw [cif_pos (by omega)]; refine ⟨?_, hpq, pp_refl _⟩; first | (rw [if_neg (by decide), if_neg (by decide), if_neg (by decide), if_neg (by decide), if_pos rfl]) | skip
      · subst hsw
        refine c_tableIn (tgt := 112) dX9_ofNode_27 (by decide) (by decide) rfl (by decide) ?_
        refine z_aload_n dX9_ofNode_112 rfl rfl ?_
        refine z_getR (ci := 9) (kf := 28) dX9_ofNode_113 rfl (by decide) (by decide) rfl w_804 rfl ?_
        refine z_iload_n dX9_ofNode_116 rfl rfl ?_
        refine c_iald dX9_ofNode_117 rfl (by omega) (by decide) ?_
        rw [hen.2.1]
        refine c_ireturn dX9_ofNode_118 rfl ?_
        subst hQ0; refine ⟨_, _, rfl, ?_⟩; unfold aOfNode; rw [cif_pos (by omega)]; refine ⟨?_, hpq, pp_refl _⟩; first | (rw [if_neg (by decide), if_neg (by decide), if_neg (by decide), if_neg (by decide), if_neg (by decide), if_pos rfl]) | skip
      · subst hsw
        refine c_tableIn (tgt := 119) dX9_ofNode_27 (by decide) (by decide) rfl (by decide) ?_
        refine z_aload_n dX9_ofNode_119 rfl rfl ?_
        refine z_iload_n dX9_ofNode_120 rfl rfl ?_
        refine z_callv (N := MX9_claimsBelow) (ci := 9) (nas := 1) (as := [_]) dX9_ofNode_121 w_1167 w_1164 w_1166 ws_49 w_8 (by decide +kernel) rfl rfl rfl (by decide) (Nat.le_of_ble_eq_true rfl) (by decide) (by decide) (ZC.mono (cMX9_claimsBelow (by rw [hO2 42 (by decide) (by decide) (by decide)]; omega) hT2 hL2 hR2) ?_)
        rintro _ _ ⟨J3, P3, rfl, rfl, hO3, hPo3⟩
        refine c_ireturn dX9_ofNode_124 rfl ?_
        subst hQ0; refine ⟨_, _, rfl, ?_⟩; unfold aOfNode; rw [cif_pos (by omega)]; refine ⟨?_, pq_trans hpq (pq_offC hO3), pp_offP hPo3⟩; first | (rw [if_neg (by decide), if_neg (by decide), if_neg (by decide), if_neg (by decide), if_neg (by decide), if_neg (by decide), if_pos rfl]; rw [hO2 42 (by decide) (by decide) (by decide), show clB J2 x = clB J x by unfold clB eE; rw [e44, e45, hO2 43 (by decide) (by decide) (by decide)]]) | skip
      · subst hsw
        refine c_tableIn (tgt := 125) dX9_ofNode_27 (by decide) (by decide) rfl (by decide) ?_
        refine z_aload_n dX9_ofNode_125 rfl rfl ?_
        refine z_getR (ci := 9) (kf := 4) dX9_ofNode_126 rfl (by decide) (by decide) rfl w_780 rfl ?_
        refine z_iload_n dX9_ofNode_129 rfl rfl ?_
        refine c_iald dX9_ofNode_130 rfl (by omega) (by decide) ?_
        rw [e46]
        refine c_ireturn dX9_ofNode_131 rfl ?_
        subst hQ0; refine ⟨_, _, rfl, ?_⟩; unfold aOfNode; rw [cif_pos (by omega)]; refine ⟨?_, hpq, pp_refl _⟩; first | (rw [if_neg (by decide), if_neg (by decide), if_neg (by decide), if_neg (by decide), if_neg (by decide), if_neg (by decide), if_neg (by decide), if_pos rfl]) | skip
      · refine c_tableOut (tgt := 132) dX9_ofNode_27 (by omega) hsw (by decide) ?_
        refine z_aload_n dX9_ofNode_132 rfl rfl ?_
        refine c_bipush dX9_ofNode_133 (by decide) ?_
        refine z_iload_n dX9_ofNode_135 rfl rfl ?_
        refine c_iadd dX9_ofNode_136 ?_
        refine z_aload_n dX9_ofNode_137 rfl rfl ?_
        refine z_getR (ci := 9) (kf := 1) dX9_ofNode_138 rfl (by decide) (by decide) rfl w_777 rfl ?_
        refine c_bipush dX9_ofNode_141 (by decide) ?_
        refine z_iload_n dX9_ofNode_143 rfl rfl ?_
        refine c_iadd dX9_ofNode_144 ?_
        refine c_iald dX9_ofNode_145 rfl (by omega) (by decide) ?_
        rw [e44]
        have hl4 := hFx.1
        refine c_iconst dX9_ofNode_146 ?_
        refine z_callv (N := MX9_detOf) (ci := 9) (nas := 3) (as := [_, _, _]) dX9_ofNode_147 w_921 w_918 w_920 ws_24 w_8 (by decide +kernel) rfl rfl rfl (by decide) (Nat.le_of_ble_eq_true rfl) (by decide) (by decide) (ZC.mono (cMX9_detOf (by omega) (by omega) (by omega) hE2) ?_)
        rintro _ _ ⟨P3, rfl, rfl, hPo3⟩
        refine c_l2i dX9_ofNode_150 ?_
        refine c_ireturn dX9_ofNode_151 rfl ?_
        subst hQ0; refine ⟨_, _, rfl, ?_⟩; unfold aOfNode; rw [cif_pos (by omega)]; refine ⟨?_, hpq, pp_off1 hPo3⟩; rw [if_neg (by omega), if_neg (by omega), if_neg (by omega), if_neg (by omega), if_neg (by omega), if_neg (by omega), if_neg (by omega), if_neg (by omega), eE2]
    · have g14 := (hb14.resolve_left (fun z => by have := z.1; omega)).2
      clear hb14
      refine c_iconst dX9_ofNode_20 ?_
      refine c_ireturn dX9_ofNode_21 rfl ?_
      subst hQ0; refine ⟨_, _, rfl, ?_⟩; unfold aOfNode; rw [cif_neg (by omega)]; exact ⟨rfl, pq_refl _, pp_refl _⟩
set_option maxHeartbeats 4000000 in
set_option maxRecDepth 100000 in
theorem cMX9_cut {x : Int} (hx : rI x) (hT : okT J) : ZC g l MX9_cut [.ref 42, .int (iZ x)] (KF Kd, zi J, zj P, RF Rd, n, s0) (fun rr hh => ∃ J' P', hh = (KF Kd, zi J', zj P', RF Rd, n, s0) ∧ rr = some (.int (iZ (aCut J x).1)) ∧ pq (aCut J x).2 J' ∧ pp P P') := by
  refine ZC.of (by decide) (Nat.le_of_ble_eq_true rfl) ?_
  generalize hQ0 : (fun rr hh => ∃ J' P', hh = (KF Kd, zi J', zj P', RF Rd, n, s0) ∧ rr = some (.int (iZ (aCut J x).1)) ∧ pq (aCut J x).2 J' ∧ pp P P' : Option Value → ZH → Prop) = Q0
  show Z g l MX9_cut 0 [some (.ref 42), some (.int (iZ x)), none, none, none, none, none] [] (KF Kd, zi J, zj P, RF Rd, n, s0) Q0
  have hU := okT_U hT
  have h30 := hU.2.1
  have h00 := hU.1
  have hgo : ∀ k : Int, 0 ≤ k → (goes (J 45) x k.toNat = true ↔ climb 30 (J 45) x k = x) := fun k hk => by unfold goes; rw [Int.toNat_of_nonneg hk]; simp
  refine z_aload_n dX9_cut_0 rfl rfl ?_
  refine z_iload_n dX9_cut_1 rfl rfl ?_
  refine z_callv (N := MX9_isNode) (ci := 9) (nas := 1) (as := [_]) dX9_cut_2 w_1154 w_1151 w_1153 ws_47 w_8 (by decide +kernel) rfl rfl rfl (by decide) (Nat.le_of_ble_eq_true rfl) (by decide) (by decide) (ZC.mono (cMX9_isNode (by omega) (by omega)) ?_)
  rintro _ _ ⟨b2, rfl, rfl, hb2⟩
  refine c_if_ne (tgt := 10) dX9_cut_5 (by decide) (by omega) (fun h5 => ?_) (fun h5 => ?_)
  · have g2 := (hb2.resolve_right (fun z => by have := z.1; omega)).2
    clear hb2
    refine c_iconst dX9_cut_10 ?_
    refine z_istore_n dX9_cut_11 rfl (by decide) rfl ?_
    refine c_iconst dX9_cut_12 ?_
    refine z_istore_n dX9_cut_13 rfl (by decide) rfl ?_
    have L14 : ∀ (m14 : Nat), ∀ (k c : Int) (J1 : Nat → Nat → Int), (J 42 2 - k).toNat = m14 → (0 ≤ k ∧ k ≤ J 42 2) → (c = cnt (fun o => !goes (J 45) x o) k.toNat) → (J1 = (fun a q => if a = 62 ∧ q < k.toNat then nuC (J 45) x q else J a q)) → Z g l MX9_cut 14 [some (.ref 42), some (.int (iZ x)), some (.int (iZ c)), some (.int (iZ k)), none, none, none] [] (KF Kd, zi J1, zj P, RF Rd, n, s0) Q0 := by
      intro m14
      induction m14 using Nat.strongRecOn with
      | ind m14 ih14 =>
        intro k c J1 hm14 hk hc hJ
        have e42 : J1 42 2 = J 42 2 := by subst hJ; simp
        have e45 : J1 45 = J 45 := by subst hJ; funext q; simp
        refine z_iload_n dX9_cut_14 rfl rfl ?_
        refine z_aload_n dX9_cut_15 rfl rfl ?_
        refine c_getI (ci := 9) (kf := 2) dX9_cut_16 rfl (by decide) (by decide) rfl w_778 ?_
        rw [e42]
        refine c_icmp_ge (tgt := 79) dX9_cut_19 (by decide) (by omega) (by omega) (fun h19 => ?_) (fun h19 => ?_)
        · have hcE : c = cnt (fun o => !goes (J 45) x o) (J 42 2).toNat := by rw [hc, show k.toNat = (J 42 2).toNat by omega]
          subst hcE
          refine c_iconst dX9_cut_79 ?_
          refine z_istore_n dX9_cut_80 rfl (by decide) rfl ?_
          have L81 : ∀ (m81 : Nat), ∀ (k : Int) (J2 : Nat → Nat → Int), (J 42 2 - k).toNat = m81 → (0 ≤ k ∧ k ≤ J 42 2) → (J2 = jcut (fun a q => if a = 62 ∧ q < (J 42 2).toNat then nuC (J 45) x q else J a q) x k.toNat) → Z g l MX9_cut 81 [some (.ref 42), some (.int (iZ x)), some (.int (iZ (cnt (fun o => !goes (J 45) x o) (J 42 2).toNat))), some (.int (iZ k)), none, none, none] [] (KF Kd, zi J2, zj P, RF Rd, n, s0) Q0 := by
            intro m81
            induction m81 using Nat.strongRecOn with
            | ind m81 ih81 =>
              intro k J2 hm81 hk hJ
              have e42 : J2 42 2 = J 42 2 := by rw [hJ, jcut_42]; simp
              have e62 : ∀ q : Nat, (q : Int) < J 42 2 → J2 62 q = nuC (J 45) x q := fun q hq => by rw [hJ, jcut_62]; rw [if_pos ⟨rfl, by omega⟩]
              have e45 : J2 45 k.toNat = J 45 k.toNat := by rw [hJ, jcut_45 (Nat.le_refl _)]; simp
              refine z_iload_n dX9_cut_81 rfl rfl ?_
              refine z_aload_n dX9_cut_82 rfl rfl ?_
              refine c_getI (ci := 9) (kf := 2) dX9_cut_83 rfl (by decide) (by decide) rfl w_778 ?_
              rw [e42]
              refine c_icmp_ge (tgt := 174) dX9_cut_86 (by decide) (by omega) (by omega) (fun h86 => ?_) (fun h86 => ?_)
              · refine z_aload_n dX9_cut_174 rfl rfl ?_
                refine z_iload_n dX9_cut_175 rfl rfl ?_
                refine c_putI (ci := 9) (kf := 2) dX9_cut_176 rfl (by decide) (by decide) rfl (by decide) w_778 ?_
                refine z_aload_n dX9_cut_179 rfl rfl ?_
                refine c_getI (ci := 9) (kf := 2) dX9_cut_180 rfl (by decide) (by decide) rfl w_778 ?_
                refine c_ireturn dX9_cut_183 rfl ?_
                rw [zz]; subst hQ0; refine ⟨_, _, rfl, ?_⟩; unfold aCut; rw [cif_pos (by omega)]; refine ⟨rfl, pq_62 (fun a ha => ?_), pp_refl _⟩
                funext q; simp only [zup]; rw [hJ, show k.toNat = (J 42 2).toNat by omega, jcut_congr (J := J) (fun b hb => by funext y; rw [if_neg (fun z => hb z.1)]) _ a ha]
              · refine z_aload_n dX9_cut_89 rfl rfl ?_
                refine z_getR (ci := 9) (kf := 30) dX9_cut_90 rfl (by decide) (by decide) rfl w_806 rfl ?_
                refine z_iload_n dX9_cut_93 rfl rfl ?_
                refine c_iald dX9_cut_94 rfl (by omega) (by decide) ?_
                rw [e62 k.toNat (by omega)]
                have hnb := nuC_bd (J 45) x k.toNat
                refine z_istore dX9_cut_95 (by decide) rfl ?_
                refine z_iload dX9_cut_97 rfl ?_
                refine c_if_lt (tgt := 168) dX9_cut_99 (by decide) (by omega) (fun h99 => ?_) (fun h99 => ?_)
                · skip
                  refine c_iinc dX9_cut_168 rfl (by decide) rfl ?_
                  refine z_goto (tgt := 81) dX9_cut_171 (by decide) ?_
                  exact Z.fg2 (ih81 _ (by omega) _ _ rfl (by omega) (by
                                rw [show (k + 1).toNat = k.toNat + 1 by omega, hJ]
                                first
                                | exact (cut_skip (by simpa using nuC_neg (by omega))).symm
                                | exact cut_lay (by omega) (by simpa using nuC_pos (by omega)) (by unfold jcU; rw [← hJ, e45, if_pos (by omega)])
                                | exact cut_lay (by omega) (by simpa using nuC_pos (by omega)) (by unfold jcU; rw [← hJ, e45, if_neg (by omega)]; exact (e62 _ (by omega)).trans rfl))) (zs1 rfl (zs1 rfl (zs1 rfl (zs1 rfl (zsn (zsn (zsn zs0)))))))
                · refine z_aload_n dX9_cut_102 rfl rfl ?_
                  refine z_getR (ci := 9) (kf := 3) dX9_cut_103 rfl (by decide) (by decide) rfl w_779 rfl ?_
                  refine z_iload_n dX9_cut_106 rfl rfl ?_
                  refine c_iald dX9_cut_107 rfl (by omega) (by decide) ?_
                  rw [e45]
                  have hun0 := hT.1.2.2.2.2 k.toNat (by omega)
                  refine c_if_ge (tgt := 116) dX9_cut_108 (by decide) (by omega) (fun h108 => ?_) (fun h108 => ?_)
                  · have hup : 0 ≤ J 45 k.toNat ∧ J 45 k.toNat < k := okU_up hU (by omega) (by omega)
                    have hnu := nuC_bd (J 45) x (J 45 k.toNat).toNat
                    refine z_aload_n dX9_cut_116 rfl rfl ?_
                    refine z_getR (ci := 9) (kf := 30) dX9_cut_117 rfl (by decide) (by decide) rfl w_806 rfl ?_
                    refine z_aload_n dX9_cut_120 rfl rfl ?_
                    refine z_getR (ci := 9) (kf := 3) dX9_cut_121 rfl (by decide) (by decide) rfl w_779 rfl ?_
                    refine z_iload_n dX9_cut_124 rfl rfl ?_
                    refine c_iald dX9_cut_125 rfl (by omega) (by decide) ?_
                    rw [e45]
                    refine c_iald dX9_cut_126 rfl (by omega) (by decide) ?_
                    skip
                    refine z_istore dX9_cut_127 (by decide) rfl ?_
                    refine z_aload_n dX9_cut_129 rfl rfl ?_
                    refine z_getR (ci := 9) (kf := 4) dX9_cut_130 rfl (by decide) (by decide) rfl w_780 rfl ?_
                    refine z_iload_n dX9_cut_133 rfl rfl ?_
                    refine c_iald dX9_cut_134 rfl (by omega) (by decide) ?_
                    refine z_istore dX9_cut_135 (by decide) rfl ?_
                    refine z_aload_n dX9_cut_137 rfl rfl ?_
                    refine c_bipush dX9_cut_138 (by decide) ?_
                    refine z_iload_n dX9_cut_140 rfl rfl ?_
                    refine c_iadd dX9_cut_141 ?_
                    refine c_bipush dX9_cut_142 (by decide) ?_
                    refine z_iload dX9_cut_144 rfl ?_
                    refine c_iadd dX9_cut_146 ?_
                    refine z_callv (N := MX9_copyTo) (ci := 9) (nas := 2) (as := [_, _]) dX9_cut_147 w_940 w_937 w_939 ws_27 w_8 (by decide +kernel) rfl rfl rfl (by decide) (Nat.le_of_ble_eq_true rfl) (by decide) (by decide) (ZC.mono (j_copyTo (by omega) (by omega)) ?_)
                    rintro _ _ ⟨rfl, rfl⟩
                    refine z_aload_n dX9_cut_150 rfl rfl ?_
                    refine z_getR (ci := 9) (kf := 3) dX9_cut_151 rfl (by decide) (by decide) rfl w_779 rfl ?_
                    refine z_iload dX9_cut_154 rfl ?_
                    refine z_iload dX9_cut_156 rfl ?_
                    refine c_iast dX9_cut_158 rfl (by omega) (by decide) ?_
                    refine z_aload_n dX9_cut_159 rfl rfl ?_
                    refine z_getR (ci := 9) (kf := 4) dX9_cut_160 rfl (by decide) (by decide) rfl w_780 rfl ?_
                    refine z_iload dX9_cut_163 rfl ?_
                    refine z_iload dX9_cut_165 rfl ?_
                    refine c_iast dX9_cut_167 rfl (by omega) (by decide) ?_
                    skip
                    refine c_iinc dX9_cut_168 rfl (by decide) rfl ?_
                    refine z_goto (tgt := 81) dX9_cut_171 (by decide) ?_
                    exact Z.fg2 (ih81 _ (by omega) _ _ rfl (by omega) (by
                                rw [show (k + 1).toNat = k.toNat + 1 by omega, hJ]
                                first
                                | exact (cut_skip (by simpa using nuC_neg (by omega))).symm
                                | exact cut_lay (by omega) (by simpa using nuC_pos (by omega)) (by unfold jcU; rw [← hJ, e45, if_pos (by omega)])
                                | exact cut_lay (by omega) (by simpa using nuC_pos (by omega)) (by unfold jcU; rw [← hJ, e45, if_neg (by omega)]; exact (e62 _ (by omega)).trans rfl))) (zs1 rfl (zs1 rfl (zs1 rfl (zs1 rfl (zsn (zsn (zsn zs0)))))))
                  · refine c_bipush dX9_cut_111 (by decide) ?_
                    refine z_goto (tgt := 127) dX9_cut_113 (by decide) ?_
                    skip
                    refine z_istore dX9_cut_127 (by decide) rfl ?_
                    refine z_aload_n dX9_cut_129 rfl rfl ?_
                    refine z_getR (ci := 9) (kf := 4) dX9_cut_130 rfl (by decide) (by decide) rfl w_780 rfl ?_
                    refine z_iload_n dX9_cut_133 rfl rfl ?_
                    refine c_iald dX9_cut_134 rfl (by omega) (by decide) ?_
                    refine z_istore dX9_cut_135 (by decide) rfl ?_
                    refine z_aload_n dX9_cut_137 rfl rfl ?_
                    refine c_bipush dX9_cut_138 (by decide) ?_
                    refine z_iload_n dX9_cut_140 rfl rfl ?_
                    refine c_iadd dX9_cut_141 ?_
                    refine c_bipush dX9_cut_142 (by decide) ?_
                    refine z_iload dX9_cut_144 rfl ?_
                    refine c_iadd dX9_cut_146 ?_
                    refine z_callv (N := MX9_copyTo) (ci := 9) (nas := 2) (as := [_, _]) dX9_cut_147 w_940 w_937 w_939 ws_27 w_8 (by decide +kernel) rfl rfl rfl (by decide) (Nat.le_of_ble_eq_true rfl) (by decide) (by decide) (ZC.mono (j_copyTo (by omega) (by omega)) ?_)
                    rintro _ _ ⟨rfl, rfl⟩
                    refine z_aload_n dX9_cut_150 rfl rfl ?_
                    refine z_getR (ci := 9) (kf := 3) dX9_cut_151 rfl (by decide) (by decide) rfl w_779 rfl ?_
                    refine z_iload dX9_cut_154 rfl ?_
                    refine z_iload dX9_cut_156 rfl ?_
                    refine c_iast dX9_cut_158 rfl (by omega) (by decide) ?_
                    refine z_aload_n dX9_cut_159 rfl rfl ?_
                    refine z_getR (ci := 9) (kf := 4) dX9_cut_160 rfl (by decide) (by decide) rfl w_780 rfl ?_
                    refine z_iload dX9_cut_163 rfl ?_
                    refine z_iload dX9_cut_165 rfl ?_
                    refine c_iast dX9_cut_167 rfl (by omega) (by decide) ?_
                    skip
                    refine c_iinc dX9_cut_168 rfl (by decide) rfl ?_
                    refine z_goto (tgt := 81) dX9_cut_171 (by decide) ?_
                    exact Z.fg2 (ih81 _ (by omega) _ _ rfl (by omega) (by
                                rw [show (k + 1).toNat = k.toNat + 1 by omega, hJ]
                                first
                                | exact (cut_skip (by simpa using nuC_neg (by omega))).symm
                                | exact cut_lay (by omega) (by simpa using nuC_pos (by omega)) (by unfold jcU; rw [← hJ, e45, if_pos (by omega)])
                                | exact cut_lay (by omega) (by simpa using nuC_pos (by omega)) (by unfold jcU; rw [← hJ, e45, if_neg (by omega)]; exact (e62 _ (by omega)).trans rfl))) (zs1 rfl (zs1 rfl (zs1 rfl (zs1 rfl (zsn (zsn (zsn zs0)))))))
          exact Z.fg2 (L81 _ _ _ rfl (by omega) (by subst hJ; rw [show k.toNat = (J 42 2).toNat by omega]; rfl)) (zs1 rfl (zs1 rfl (zs1 rfl (zs1 rfl (zsn (zsn (zsn zs0)))))))
        · have hU1 : okU (J1 42 2) (J1 45) := by rw [e42, e45]; exact hU
          have hcb := cnt_bd (fun o => !goes (J 45) x o) k.toNat
          have L41 : ∀ (gb : Int), ((gb = 1 ∧ goes (J 45) x k.toNat = true) ∨ (gb = 0 ∧ goes (J 45) x k.toNat = false)) → Z g l MX9_cut 41 [some (.ref 42), some (.int (iZ x)), some (.int (iZ c)), some (.int (iZ k)), none, none, none] [.int (iZ gb)] (KF Kd, zi J1, zj P, RF Rd, n, s0) Q0 := by
            intro gb hg
            refine z_istore dX9_cut_41 (by decide) rfl ?_
            refine z_aload_n dX9_cut_43 rfl rfl ?_
            refine z_getR (ci := 9) (kf := 30) dX9_cut_44 rfl (by decide) (by decide) rfl w_806 rfl ?_
            refine z_iload_n dX9_cut_47 rfl rfl ?_
            refine z_iload dX9_cut_48 rfl ?_
            refine c_if_eq (tgt := 58) dX9_cut_50 (by decide) (by omega) (fun h50 => ?_) (fun h50 => ?_)
            · refine z_iload_n dX9_cut_58 rfl rfl ?_
              refine c_iast dX9_cut_59 rfl (by omega) (by decide) ?_
              refine z_iload_n dX9_cut_60 rfl rfl ?_
              refine z_iload dX9_cut_61 rfl ?_
              refine c_if_eq (tgt := 70) dX9_cut_63 (by decide) (by omega) (fun h63 => ?_) (fun h63 => ?_)
              · refine c_iconst dX9_cut_70 ?_
                refine c_iadd dX9_cut_71 ?_
                refine z_istore_n dX9_cut_72 rfl (by decide) rfl ?_
                refine c_iinc dX9_cut_73 rfl (by decide) rfl ?_
                refine z_goto (tgt := 14) dX9_cut_76 (by decide) ?_
                exact Z.fg2 (ih14 _ (by omega) _ _ _ rfl (by omega) (by rw [show (k + 1).toNat = k.toNat + 1 by omega, cnt, ← hc]; rcases hg with ⟨h1, h2⟩ | ⟨h1, h2⟩ <;> (rw [h2]; simp <;> omega)) (cut_n1 hk.1 hJ (by unfold nuC; rcases hg with ⟨h1, h2⟩ | ⟨h1, h2⟩ <;> (rw [h2]; first | (exfalso; omega) | exact hc | rfl)))) (zs1 rfl (zs1 rfl (zs1 rfl (zs1 rfl (zsn (zsn (zsn zs0)))))))
              · refine c_iconst dX9_cut_66 ?_
                refine z_goto (tgt := 71) dX9_cut_67 (by decide) ?_
                refine c_iadd dX9_cut_71 ?_
                refine z_istore_n dX9_cut_72 rfl (by decide) rfl ?_
                refine c_iinc dX9_cut_73 rfl (by decide) rfl ?_
                refine z_goto (tgt := 14) dX9_cut_76 (by decide) ?_
                exact Z.fg2 (ih14 _ (by omega) _ _ _ rfl (by omega) (by rw [show (k + 1).toNat = k.toNat + 1 by omega, cnt, ← hc]; rcases hg with ⟨h1, h2⟩ | ⟨h1, h2⟩ <;> (rw [h2]; simp <;> omega)) (cut_n1 hk.1 hJ (by unfold nuC; rcases hg with ⟨h1, h2⟩ | ⟨h1, h2⟩ <;> (rw [h2]; first | (exfalso; omega) | exact hc | rfl)))) (zs1 rfl (zs1 rfl (zs1 rfl (zs1 rfl (zsn (zsn (zsn zs0)))))))
            · refine c_bipush dX9_cut_53 (by decide) ?_
              refine z_goto (tgt := 59) dX9_cut_55 (by decide) ?_
              refine c_iast dX9_cut_59 rfl (by omega) (by decide) ?_
              refine z_iload_n dX9_cut_60 rfl rfl ?_
              refine z_iload dX9_cut_61 rfl ?_
              refine c_if_eq (tgt := 70) dX9_cut_63 (by decide) (by omega) (fun h63 => ?_) (fun h63 => ?_)
              · refine c_iconst dX9_cut_70 ?_
                refine c_iadd dX9_cut_71 ?_
                refine z_istore_n dX9_cut_72 rfl (by decide) rfl ?_
                refine c_iinc dX9_cut_73 rfl (by decide) rfl ?_
                refine z_goto (tgt := 14) dX9_cut_76 (by decide) ?_
                exact Z.fg2 (ih14 _ (by omega) _ _ _ rfl (by omega) (by rw [show (k + 1).toNat = k.toNat + 1 by omega, cnt, ← hc]; rcases hg with ⟨h1, h2⟩ | ⟨h1, h2⟩ <;> (rw [h2]; simp <;> omega)) (cut_n1 hk.1 hJ (by unfold nuC; rcases hg with ⟨h1, h2⟩ | ⟨h1, h2⟩ <;> (rw [h2]; first | (exfalso; omega) | exact hc | rfl)))) (zs1 rfl (zs1 rfl (zs1 rfl (zs1 rfl (zsn (zsn (zsn zs0)))))))
              · refine c_iconst dX9_cut_66 ?_
                refine z_goto (tgt := 71) dX9_cut_67 (by decide) ?_
                refine c_iadd dX9_cut_71 ?_
                refine z_istore_n dX9_cut_72 rfl (by decide) rfl ?_
                refine c_iinc dX9_cut_73 rfl (by decide) rfl ?_
                refine z_goto (tgt := 14) dX9_cut_76 (by decide) ?_
                exact Z.fg2 (ih14 _ (by omega) _ _ _ rfl (by omega) (by rw [show (k + 1).toNat = k.toNat + 1 by omega, cnt, ← hc]; rcases hg with ⟨h1, h2⟩ | ⟨h1, h2⟩ <;> (rw [h2]; simp <;> omega)) (cut_n1 hk.1 hJ (by unfold nuC; rcases hg with ⟨h1, h2⟩ | ⟨h1, h2⟩ <;> (rw [h2]; first | (exfalso; omega) | exact hc | rfl)))) (zs1 rfl (zs1 rfl (zs1 rfl (zs1 rfl (zsn (zsn (zsn zs0)))))))
          refine z_iload_n dX9_cut_22 rfl rfl ?_
          refine z_iload_n dX9_cut_23 rfl rfl ?_
          refine c_icmp_lt (tgt := 40) dX9_cut_24 (by decide) (by omega) (by omega) (fun h24 => ?_) (fun h24 => ?_)
          · refine c_iconst dX9_cut_40 ?_
            exact Z.fg2 (L41 _ (by first | exact Or.inl ⟨rfl, (hgo k (by omega)).mpr g30⟩ | exact Or.inr ⟨rfl, by rw [Bool.eq_false_iff]; exact fun z => g30 ((hgo k (by omega)).mp z)⟩ | exact Or.inr ⟨rfl, by rw [Bool.eq_false_iff]; intro z; have := (hgo k (by omega)).mp z; rw [climb_stop (by omega)] at this; omega⟩)) (zs1 rfl (zs1 rfl (zs1 rfl (zs1 rfl (zsn (zsn (zsn zs0)))))))
          · refine z_aload_n dX9_cut_27 rfl rfl ?_
            refine z_iload_n dX9_cut_28 rfl rfl ?_
            refine z_iload_n dX9_cut_29 rfl rfl ?_
            refine z_callv (N := MX9_isBelow) (ci := 9) (nas := 2) (as := [_, _]) dX9_cut_30 w_1171 w_1168 w_1170 ws_50 w_8 (by decide +kernel) rfl rfl rfl (by decide) (Nat.le_of_ble_eq_true rfl) (by decide) (by decide) (ZC.mono (cMX9_isBelow hU1 (by omega) (by omega)) ?_)
            rintro _ _ ⟨b30, rfl, rfl, hb30⟩
            rw [e45] at hb30
            refine c_if_eq (tgt := 40) dX9_cut_33 (by decide) (by omega) (fun h33 => ?_) (fun h33 => ?_)
            · have g30 := (hb30.resolve_left (fun z => by have := z.1; omega)).2
              clear hb30
              refine c_iconst dX9_cut_40 ?_
              exact Z.fg2 (L41 _ (by first | exact Or.inl ⟨rfl, (hgo k (by omega)).mpr g30⟩ | exact Or.inr ⟨rfl, by rw [Bool.eq_false_iff]; exact fun z => g30 ((hgo k (by omega)).mp z)⟩ | exact Or.inr ⟨rfl, by rw [Bool.eq_false_iff]; intro z; have := (hgo k (by omega)).mp z; rw [climb_stop (by omega)] at this; omega⟩)) (zs1 rfl (zs1 rfl (zs1 rfl (zs1 rfl (zsn (zsn (zsn zs0)))))))
            · have g30 := (hb30.resolve_right (fun z => by have := z.1; omega)).2
              clear hb30
              refine c_iconst dX9_cut_36 ?_
              refine z_goto (tgt := 41) dX9_cut_37 (by decide) ?_
              exact Z.fg2 (L41 _ (by first | exact Or.inl ⟨rfl, (hgo k (by omega)).mpr g30⟩ | exact Or.inr ⟨rfl, by rw [Bool.eq_false_iff]; exact fun z => g30 ((hgo k (by omega)).mp z)⟩ | exact Or.inr ⟨rfl, by rw [Bool.eq_false_iff]; intro z; have := (hgo k (by omega)).mp z; rw [climb_stop (by omega)] at this; omega⟩)) (zs1 rfl (zs1 rfl (zs1 rfl (zs1 rfl (zsn (zsn (zsn zs0)))))))
    exact Z.fg2 (L14 _ _ _ _ rfl (by omega) rfl (by funext a q; rw [if_neg (by omega)])) (zs1 rfl (zs1 rfl (zs1 rfl (zs1 rfl (zsn (zsn (zsn zs0)))))))
  · have g2 := (hb2.resolve_left (fun z => by have := z.1; omega)).2
    clear hb2
    refine c_iconst dX9_cut_8 ?_
    refine c_ireturn dX9_cut_9 rfl ?_
    subst hQ0; refine ⟨_, _, rfl, ?_⟩; unfold aCut; rw [cif_neg (by omega)]; exact ⟨rfl, pq_refl _, pp_refl _⟩
end Ref18
