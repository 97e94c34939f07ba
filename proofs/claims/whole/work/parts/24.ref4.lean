section Ref4
variable {g : ZG} {l : Launch} {Kd : ZK} {Rd : ZR} {n s0 : Nat} {J P : Nat → Nat → Int}
set_option maxHeartbeats 4000000 in
set_option maxRecDepth 100000 in
theorem cMX9_root {v : Int} (hv : 0 ≤ v ∧ v < 4398046511104) : ZC g l MX9_root [.long (lZ v)] (KF Kd, zi J, zj P, RF Rd, n, s0) (fun rr hh => rr = some (.long (lZ (rootQ v))) ∧ hh = (KF Kd, zi J, zj P, RF Rd, n, s0)) := by
  refine ZC.of (by decide) (Nat.le_of_ble_eq_true rfl) ?_
  generalize hQ0 : (fun rr hh => rr = some (.long (lZ (rootQ v))) ∧ hh = (KF Kd, zi J, zj P, RF Rd, n, s0) : Option Value → ZH → Prop) = Q0
  show Z g l MX9_root 0 [some (.long (lZ v)), none, none, none, none, none] [] (KF Kd, zi J, zj P, RF Rd, n, s0) Q0
  refine c_lconst0 dX9_root_0 ?_
  refine z_lstore_n dX9_root_1 rfl (by decide) rfl ?_
  refine c_ldc2 (z := 1048576) dX9_root_2 w_934 (by decide) ?_
  refine z_lstore dX9_root_5 (by decide) rfl ?_
  have L7 : ∀ (m7 : Nat), ∀ (k : Nat) (r : Int), ((k : Int)).toNat = m7 → (k ≤ 21) → (0 ≤ r ∧ r + (2 ^ k : Nat) ≤ 2097152) → (rootB k r v = rootQ v) → Z g l MX9_root 7 [some (.long (lZ v)), none, some (.long (lZ r)), none, some (.long (lZ (bv k))), none] [] (KF Kd, zi J, zj P, RF Rd, n, s0) Q0 := by
    intro m7
    induction m7 using Nat.strongRecOn with
    | ind m7 ih7 =>
      intro k r hm7 hk hr hD
      refine z_lload dX9_root_7 rfl ?_
      refine c_lconst0 dX9_root_9 ?_
      refine c_lif_le (tgt := 46) dX9_root_10 dX9_root_11 (by decide) (bv_rL hk) (by omega) (fun h10 => ?_) (fun h10 => ?_)
      · refine z_lload_n dX9_root_46 rfl rfl ?_
        refine z_lreturn dX9_root_47 rfl ?_
        subst hQ0; refine ⟨?_, rfl⟩
        have hk0 : k = 0 := by by_cases h0 : k = 0; exact h0; (have := bv_pos h0; omega)
        subst hk0; rw [← hD]; rfl
      · have hk1 : k ≠ 0 := by (intro h0; subst h0; simp [bv] at h10)
        obtain ⟨k2, rfl⟩ : ∃ k2, k = k2 + 1 := ⟨k - 1, by omega⟩
        have eb : bv (k2 + 1) = ((2 ^ k2 : Nat) : Int) := by simp [bv]
        have eb1 := bv_pos (k := k2 + 1) (by omega)
        have e2 : ((2 ^ (k2 + 1) : Nat) : Int) = bv (k2 + 1) + bv (k2 + 1) := by rw [eb, Nat.pow_succ]; omega
        rw [e2] at hr
        have mm := mul_bd (a := r + bv (k2 + 1)) (b := r + bv (k2 + 1)) (A := 2097152) (B := 2097152) (by omega) (by omega) (by omega) (by omega)
        refine z_lload_n dX9_root_14 rfl rfl ?_
        refine z_lload dX9_root_15 rfl ?_
        refine c_ladd dX9_root_17 ?_
        refine z_lload_n dX9_root_18 rfl rfl ?_
        refine z_lload dX9_root_19 rfl ?_
        refine c_ladd dX9_root_21 ?_
        refine c_lmul dX9_root_22 ?_
        refine z_lload_n dX9_root_23 rfl rfl ?_
        refine c_lif_gt (tgt := 35) dX9_root_24 dX9_root_25 (by decide) (by omega) (by omega) (fun h24 => ?_) (fun h24 => ?_)
        · refine z_lload_n dX9_root_35 rfl rfl ?_
          refine z_lstore_n dX9_root_36 rfl (by decide) rfl ?_
          refine z_lload dX9_root_37 rfl ?_
          refine c_iconst dX9_root_39 ?_
          refine z_lshr dX9_root_40 ?_
          rw [shr_bv (k2 + 1) (by omega) hk]
          refine z_lstore dX9_root_41 (by decide) rfl ?_
          refine z_goto (tgt := 7) dX9_root_43 (by decide) ?_
          exact Z.fg2 (ih7 _ (by omega) k2 _ rfl (by omega) (by rw [← eb]; omega) (by rw [← hD, rootB_succ, ← eb]; first | rw [if_pos (by omega)] | rw [if_neg (by omega)])) (zs1 rfl (zsn (zs1 rfl (zsn (zs1 rfl (zsn zs0))))))
        · refine z_lload_n dX9_root_28 rfl rfl ?_
          refine z_lload dX9_root_29 rfl ?_
          refine c_ladd dX9_root_31 ?_
          refine z_goto (tgt := 36) dX9_root_32 (by decide) ?_
          refine z_lstore_n dX9_root_36 rfl (by decide) rfl ?_
          refine z_lload dX9_root_37 rfl ?_
          refine c_iconst dX9_root_39 ?_
          refine z_lshr dX9_root_40 ?_
          rw [shr_bv (k2 + 1) (by omega) hk]
          refine z_lstore dX9_root_41 (by decide) rfl ?_
          refine z_goto (tgt := 7) dX9_root_43 (by decide) ?_
          exact Z.fg2 (ih7 _ (by omega) k2 _ rfl (by omega) (by rw [← eb]; omega) (by rw [← hD, rootB_succ, ← eb]; first | rw [if_pos (by omega)] | rw [if_neg (by omega)])) (zs1 rfl (zsn (zs1 rfl (zsn (zs1 rfl (zsn zs0))))))
  exact Z.fg2 (L7 _ 21 0 rfl (by omega) (by decide) rfl) (zs1 rfl (zsn (zs1 rfl (zsn (zs1 rfl (zsn zs0))))))
set_option maxHeartbeats 4000000 in
set_option maxRecDepth 100000 in
theorem cMX9_isLawful {p : Int} (hp : 0 ≤ p ∧ p < 74) (hn : 0 ≤ J 44 p.toNat ∧ J 44 p.toNat ≤ 4) (hR : ∀ k, k < 16 → -2147483647 ≤ eE J p k ∧ eE J p k ≤ 2147483647) : ZC g l MX9_isLawful [.ref 42, .int (iZ p)] (KF Kd, zi J, zj P, RF Rd, n, s0) (fun rr hh => ∃ P' b, hh = (KF Kd, zi J, zj P', RF Rd, n, s0) ∧ rr = some (.int (iZ b)) ∧ ((b = 1 ∧ lawS (J 44 p.toNat) (eE J p)) ∨ (b = 0 ∧ ¬ lawS (J 44 p.toNat) (eE J p))) ∧ (lawS (J 44 p.toNat) (eE J p) → P' 42 11 = detS (eE J p) (J 44 p.toNat) (-1) ∧ P' 42 12 = boxP (J 44 p.toNat) (eE J p) 4 ∧ ∀ q : Nat, q < 4 → P' 50 q = reachS (J 44 p.toNat) (eE J p) q) ∧ ∀ a, a ≠ 49 → a ≠ 50 → a ≠ 42 → P' a = P a) := by
  refine ZC.of (by decide) (Nat.le_of_ble_eq_true rfl) ?_
  generalize hQ0 : (fun rr hh => ∃ P' b, hh = (KF Kd, zi J, zj P', RF Rd, n, s0) ∧ rr = some (.int (iZ b)) ∧ ((b = 1 ∧ lawS (J 44 p.toNat) (eE J p)) ∨ (b = 0 ∧ ¬ lawS (J 44 p.toNat) (eE J p))) ∧ (lawS (J 44 p.toNat) (eE J p) → P' 42 11 = detS (eE J p) (J 44 p.toNat) (-1) ∧ P' 42 12 = boxP (J 44 p.toNat) (eE J p) 4 ∧ ∀ q : Nat, q < 4 → P' 50 q = reachS (J 44 p.toNat) (eE J p) q) ∧ ∀ a, a ≠ 49 → a ≠ 50 → a ≠ 42 → P' a = P a : Option Value → ZH → Prop) = Q0
  show Z g l MX9_isLawful 0 [some (.ref 42), some (.int (iZ p)), none, none] [] (KF Kd, zi J, zj P, RF Rd, n, s0) Q0
  refine z_aload_n dX9_isLawful_0 rfl rfl ?_
  refine z_getR (ci := 9) (kf := 1) dX9_isLawful_1 rfl (by decide) (by decide) rfl w_777 rfl ?_
  refine z_iload_n dX9_isLawful_4 rfl rfl ?_
  refine c_iald dX9_isLawful_5 rfl (by omega) (by decide) ?_
  refine z_istore_n dX9_isLawful_6 rfl (by decide) rfl ?_
  refine c_iconst dX9_isLawful_7 ?_
  refine z_istore_n dX9_isLawful_8 rfl (by decide) rfl ?_
  have L9 : ∀ (m9 : Nat), ∀ (k : Int), (16 - k).toNat = m9 → (0 ≤ k ∧ k ≤ 16) → (∀ q : Nat, (q : Int) < k → -99 ≤ eE J p q ∧ eE J p q ≤ 99) → Z g l MX9_isLawful 9 [some (.ref 42), some (.int (iZ p)), some (.int (iZ (J 44 p.toNat))), some (.int (iZ k))] [] (KF Kd, zi J, zj P, RF Rd, n, s0) Q0 := by
    intro m9
    induction m9 using Nat.strongRecOn with
    | ind m9 ih9 =>
      intro k hm9 hk hS
      refine z_iload_n dX9_isLawful_9 rfl rfl ?_
      refine c_bipush dX9_isLawful_10 (by decide) ?_
      refine c_icmp_ge (tgt := 42) dX9_isLawful_12 (by decide) (by omega) (by omega) (fun h12 => ?_) (fun h12 => ?_)
      · have hE : entS (eE J p) := fun q hq => hS q (by omega)
        have hd1 := detS_nonneg (eE J p) (J 44 p.toNat) (-1)
        have hd2 := detS_bd4 (k := J 44 p.toNat) (but := -1) hE hn.2
        refine z_aload_n dX9_isLawful_42 rfl rfl ?_
        refine z_aload_n dX9_isLawful_43 rfl rfl ?_
        refine z_iload_n dX9_isLawful_44 rfl rfl ?_
        refine z_iload_n dX9_isLawful_45 rfl rfl ?_
        refine c_iconst dX9_isLawful_46 ?_
        refine z_callv (N := MX9_detOf) (ci := 9) (nas := 3) (as := [_, _, _]) dX9_isLawful_47 w_921 w_918 w_920 ws_24 w_8 (by decide +kernel) rfl rfl rfl (by decide) (Nat.le_of_ble_eq_true rfl) (by decide) (by decide) (ZC.mono (cMX9_detOf (by omega) (by omega) (by omega) hE) ?_)
        rintro _ _ ⟨P2, rfl, rfl, hO2⟩
        refine c_putL (ci := 9) (kf := 11) dX9_isLawful_50 rfl (by decide) (by decide) rfl (by decide) w_787 ?_
        refine z_aload_n dX9_isLawful_53 rfl rfl ?_
        refine c_getL (ci := 9) (kf := 11) dX9_isLawful_54 rfl (by decide) (by decide) rfl w_787 ?_
        rw [zz]
        refine c_lconst0 dX9_isLawful_57 ?_
        refine c_lif_gt (tgt := 64) dX9_isLawful_58 dX9_isLawful_59 (by decide) (by omega) (by omega) (fun h58 => ?_) (fun h58 => ?_)
        · refine z_aload_n dX9_isLawful_64 rfl rfl ?_
          refine c_lconst1 dX9_isLawful_65 ?_
          refine c_putL (ci := 9) (kf := 12) dX9_isLawful_66 rfl (by decide) (by decide) rfl (by decide) w_788 ?_
          refine c_iconst dX9_isLawful_69 ?_
          refine z_istore_n dX9_isLawful_70 rfl (by decide) rfl ?_
          have L71 : ∀ (m71 : Nat), ∀ (i : Int) (P1 : Nat → Nat → Int), (4 - i).toNat = m71 → (0 ≤ i ∧ i ≤ 4) → (P1 42 11 = detS (eE J p) (J 44 p.toNat) (-1)) → (P1 42 12 = boxP (J 44 p.toNat) (eE J p) i.toNat) → (∀ q : Nat, (q : Int) < i → P1 50 q = reachS (J 44 p.toNat) (eE J p) q) → (∀ a, a ≠ 49 → a ≠ 50 → a ≠ 42 → P1 a = P a) → Z g l MX9_isLawful 71 [some (.ref 42), some (.int (iZ p)), some (.int (iZ (J 44 p.toNat))), some (.int (iZ i))] [] (KF Kd, zi J, zj P1, RF Rd, n, s0) Q0 := by
            intro m71
            induction m71 using Nat.strongRecOn with
            | ind m71 ih71 =>
              intro i P1 hm71 hi h11 h12 hre ho
              refine z_iload_n dX9_isLawful_71 rfl rfl ?_
              refine c_iconst dX9_isLawful_72 ?_
              refine c_icmp_ge (tgt := 155) dX9_isLawful_73 (by decide) (by omega) (by omega) (fun h73 => ?_) (fun h73 => ?_)
              · refine z_aload_n dX9_isLawful_155 rfl rfl ?_
                refine c_getL (ci := 9) (kf := 12) dX9_isLawful_156 rfl (by decide) (by decide) rfl w_788 ?_
                rw [h12, show i.toNat = 4 by omega]
                refine c_ldc2 (z := 1000000) dX9_isLawful_159 w_935 (by decide) ?_
                refine c_lif_gt (tgt := 170) dX9_isLawful_162 dX9_isLawful_163 (by decide) (by have := boxP_bd (J 44 p.toNat) (eE J p) 4; omega) (by omega) (fun h162 => ?_) (fun h162 => ?_)
                · refine c_iconst dX9_isLawful_170 ?_
                  refine c_zreturn dX9_isLawful_171 rfl (by omega) ?_
                  subst hQ0; refine ⟨P1, _, rfl, rfl, ?_, fun hl => ⟨h11, by rw [h12, show i.toNat = 4 by omega], fun q hq => hre q (by omega)⟩, ho⟩
                  first | exact Or.inl ⟨rfl, hE, by omega, by omega⟩ | exact Or.inr ⟨rfl, fun hl => by have := hl.2.2; omega⟩
                · refine c_iconst dX9_isLawful_166 ?_
                  refine z_goto (tgt := 171) dX9_isLawful_167 (by decide) ?_
                  refine c_zreturn dX9_isLawful_171 rfl (by omega) ?_
                  subst hQ0; refine ⟨P1, _, rfl, rfl, ?_, fun hl => ⟨h11, by rw [h12, show i.toNat = 4 by omega], fun q hq => hre q (by omega)⟩, ho⟩
                  first | exact Or.inl ⟨rfl, hE, by omega, by omega⟩ | exact Or.inr ⟨rfl, fun hl => by have := hl.2.2; omega⟩
              · have L110 : ∀ (P3 : Nat → Nat → Int), (P3 42 11 = detS (eE J p) (J 44 p.toNat) (-1)) → (P3 42 12 = boxP (J 44 p.toNat) (eE J p) i.toNat) → (∀ q : Nat, (q : Int) < i + 1 → P3 50 q = reachS (J 44 p.toNat) (eE J p) q) → (∀ a, a ≠ 49 → a ≠ 50 → a ≠ 42 → P3 a = P a) → Z g l MX9_isLawful 110 [some (.ref 42), some (.int (iZ p)), some (.int (iZ (J 44 p.toNat))), some (.int (iZ i))] [] (KF Kd, zi J, zj P3, RF Rd, n, s0) Q0 := by
                  intro P3 g11 g12 gre go
                  refine z_aload_n dX9_isLawful_110 rfl rfl ?_
                  refine z_aload_n dX9_isLawful_111 rfl rfl ?_
                  refine c_getL (ci := 9) (kf := 12) dX9_isLawful_112 rfl (by decide) (by decide) rfl w_788 ?_
                  rw [g12]
                  refine c_ldc2 (z := 1000000) dX9_isLawful_115 w_935 (by decide) ?_
                  refine c_lif_le (tgt := 129) dX9_isLawful_118 dX9_isLawful_119 (by decide) (by have := boxP_bd (J 44 p.toNat) (eE J p) i.toNat; omega) (by omega) (fun h118 => ?_) (fun h118 => ?_)
                  · refine z_aload_n dX9_isLawful_129 rfl rfl ?_
                    refine c_getL (ci := 9) (kf := 12) dX9_isLawful_130 rfl (by decide) (by decide) rfl w_788 ?_
                    rw [g12]
                    refine c_ldc2 (z := 2) dX9_isLawful_133 w_936 (by decide) ?_
                    refine z_aload_n dX9_isLawful_136 rfl rfl ?_
                    refine z_getR (ci := 9) (kf := 10) dX9_isLawful_137 rfl (by decide) (by decide) rfl w_786 rfl ?_
                    refine z_iload_n dX9_isLawful_140 rfl rfl ?_
                    refine c_lald dX9_isLawful_141 rfl (by omega) (by decide) ?_
                    rw [gre i.toNat (by omega)]
                    refine c_lmul dX9_isLawful_142 ?_
                    refine c_lconst1 dX9_isLawful_143 ?_
                    refine c_ladd dX9_isLawful_144 ?_
                    refine c_lmul dX9_isLawful_145 ?_
                    refine c_putL (ci := 9) (kf := 12) dX9_isLawful_146 rfl (by decide) (by decide) rfl (by decide) w_788 ?_
                    refine c_iinc dX9_isLawful_149 rfl (by decide) rfl ?_
                    refine z_goto (tgt := 71) dX9_isLawful_152 (by decide) ?_
                    exact Z.fg2 (ih71 _ (by omega) _ _ rfl (by omega) (by rw [zzi (by decide)]; exact g11) (by rw [zz, show (i + 1).toNat = i.toNat + 1 by omega, boxP]; first | rw [if_pos (by omega)] | rw [if_neg (by omega)]) (fun q hq => by rw [zzr (by decide)]; exact gre q (by omega)) (fun a a1 a2 a3 => by rw [zup_ne a3]; exact go a a1 a2 a3)) (zs1 rfl (zs1 rfl (zs1 rfl (zs1 rfl zs0))))
                  · refine z_aload_n dX9_isLawful_122 rfl rfl ?_
                    refine c_getL (ci := 9) (kf := 12) dX9_isLawful_123 rfl (by decide) (by decide) rfl w_788 ?_
                    rw [g12]
                    refine z_goto (tgt := 146) dX9_isLawful_126 (by decide) ?_
                    refine c_putL (ci := 9) (kf := 12) dX9_isLawful_146 rfl (by decide) (by decide) rfl (by decide) w_788 ?_
                    refine c_iinc dX9_isLawful_149 rfl (by decide) rfl ?_
                    refine z_goto (tgt := 71) dX9_isLawful_152 (by decide) ?_
                    exact Z.fg2 (ih71 _ (by omega) _ _ rfl (by omega) (by rw [zzi (by decide)]; exact g11) (by rw [zz, show (i + 1).toNat = i.toNat + 1 by omega, boxP]; first | rw [if_pos (by omega)] | rw [if_neg (by omega)]) (fun q hq => by rw [zzr (by decide)]; exact gre q (by omega)) (fun a a1 a2 a3 => by rw [zup_ne a3]; exact go a a1 a2 a3)) (zs1 rfl (zs1 rfl (zs1 rfl (zs1 rfl zs0))))
                refine z_aload_n dX9_isLawful_76 rfl rfl ?_
                refine z_getR (ci := 9) (kf := 10) dX9_isLawful_77 rfl (by decide) (by decide) rfl w_786 rfl ?_
                refine z_iload_n dX9_isLawful_80 rfl rfl ?_
                refine z_iload_n dX9_isLawful_81 rfl rfl ?_
                refine z_iload_n dX9_isLawful_82 rfl rfl ?_
                refine c_icmp_ge (tgt := 108) dX9_isLawful_83 (by decide) (by omega) (by omega) (fun h83 => ?_) (fun h83 => ?_)
                · refine c_lconst0 dX9_isLawful_108 ?_
                  refine c_last dX9_isLawful_109 rfl (by omega) (by decide) ?_
                  exact Z.fg2 (L110 _ (by rw [zzr (by decide)]; first | exact h11 | (rw [hO2 42 (by decide)]; exact h11)) (by rw [zzr (by decide)]; first | exact h12 | (rw [hO2 42 (by decide)]; exact h12)) (fun q hq => by by_cases hqi : q = i.toNat; (subst hqi; rw [zz]; unfold reachS; first | (rw [if_pos (by omega), Int.toNat_of_nonneg (by omega)]) | rw [if_neg (by omega)]); (rw [zzi hqi]; first | exact hre q (by omega) | (rw [hO2 50 (by decide)]; exact hre q (by omega)))) (fun a a1 a2 a3 => by rw [zup_ne a2]; first | exact ho a a1 a2 a3 | (rw [hO2 a a1]; exact ho a a1 a2 a3))) (zs1 rfl (zs1 rfl (zs1 rfl (zs1 rfl zs0))))
                · refine c_ldc2 (z := 100) dX9_isLawful_86 w_930 (by decide) ?_
                  refine z_aload_n dX9_isLawful_89 rfl rfl ?_
                  refine z_iload_n dX9_isLawful_90 rfl rfl ?_
                  refine z_iload_n dX9_isLawful_91 rfl rfl ?_
                  refine z_iload_n dX9_isLawful_92 rfl rfl ?_
                  refine z_callv (N := MX9_detOf) (ci := 9) (nas := 3) (as := [_, _, _]) dX9_isLawful_93 w_921 w_918 w_920 ws_24 w_8 (by decide +kernel) rfl rfl rfl (by decide) (Nat.le_of_ble_eq_true rfl) (by decide) (by decide) (ZC.mono (cMX9_detOf (by omega) (by omega) (by omega) hE) ?_)
                  rintro _ _ ⟨P2, rfl, rfl, hO2⟩
                  have hd3 := detS_nonneg (eE J p) (J 44 p.toNat) i
                  have hd4 := detS_bd3 (k := J 44 p.toNat) (but := i) hE hn.2 (by omega)
                  refine c_lmul dX9_isLawful_96 ?_
                  refine z_aload_n dX9_isLawful_97 rfl rfl ?_
                  refine c_getL (ci := 9) (kf := 11) dX9_isLawful_98 rfl (by decide) (by decide) rfl w_787 ?_
                  rw [show P2 42 11 = detS (eE J p) (J 44 p.toNat) (-1) by rw [hO2 42 (by decide)]; exact h11]
                  refine c_ldiv dX9_isLawful_101 (by omega) (by omega) (by omega) (by omega) ?_
                  have hv0 := tdiv_nn (a := 100 * detS (eE J p) (J 44 p.toNat) i) (b := detS (eE J p) (J 44 p.toNat) (-1)) (by omega) (by omega)
                  have hv1 := tdiv_bd (a := 100 * detS (eE J p) (J 44 p.toNat) i) (b := detS (eE J p) (J 44 p.toNat) (-1)) (B := 76847680800) (by omega) (by omega)
                  refine z_calls (N := MX9_root) (nas := 1) (as := [_]) dX9_isLawful_102 w_933 w_931 w_932 w_8 (by decide +kernel) rfl rfl (Nat.le_of_ble_eq_true rfl) (by decide) (by decide) (ZC.mono (cMX9_root (by omega)) ?_)
                  rintro _ _ ⟨rfl, rfl⟩
                  refine z_goto (tgt := 109) dX9_isLawful_105 (by decide) ?_
                  refine c_last dX9_isLawful_109 rfl (by omega) (by decide) ?_
                  exact Z.fg2 (L110 _ (by rw [zzr (by decide)]; first | exact h11 | (rw [hO2 42 (by decide)]; exact h11)) (by rw [zzr (by decide)]; first | exact h12 | (rw [hO2 42 (by decide)]; exact h12)) (fun q hq => by by_cases hqi : q = i.toNat; (subst hqi; rw [zz]; unfold reachS; first | (rw [if_pos (by omega), Int.toNat_of_nonneg (by omega)]) | rw [if_neg (by omega)]); (rw [zzi hqi]; first | exact hre q (by omega) | (rw [hO2 50 (by decide)]; exact hre q (by omega)))) (fun a a1 a2 a3 => by rw [zup_ne a2]; first | exact ho a a1 a2 a3 | (rw [hO2 a a1]; exact ho a a1 a2 a3))) (zs1 rfl (zs1 rfl (zs1 rfl (zs1 rfl zs0))))
          exact Z.fg2 (L71 _ _ _ rfl (by omega) (by rw [zzi (by decide), zz]) (by rw [zz]; rfl) (fun q hq => absurd hq (by omega)) (fun a a1 a2 a3 => by rw [zup_ne a3, zup_ne a3]; exact hO2 a a1)) (zs1 rfl (zs1 rfl (zs1 rfl (zs1 rfl zs0))))
        · refine c_iconst dX9_isLawful_62 ?_
          refine c_zreturn dX9_isLawful_63 rfl (by omega) ?_
          subst hQ0; refine ⟨_, 0, rfl, rfl, Or.inr ⟨rfl, fun hl => ?_⟩, fun hl => absurd hl ?_, fun a a1 a2 a3 => by rw [zup_ne a3]; exact hO2 a a1⟩
          · have := hl.2.1; omega
          · intro hl; have := hl.2.1; omega
      · refine z_aload_n dX9_isLawful_15 rfl rfl ?_
        refine z_getR (ci := 9) (kf := 0) dX9_isLawful_16 rfl (by decide) (by decide) rfl w_776 rfl ?_
        refine c_bipush dX9_isLawful_19 (by decide) ?_
        refine z_iload_n dX9_isLawful_21 rfl rfl ?_
        refine c_imul dX9_isLawful_22 ?_
        refine z_iload_n dX9_isLawful_23 rfl rfl ?_
        refine c_iadd dX9_isLawful_24 ?_
        refine c_iald dX9_isLawful_25 rfl (by omega) (by decide) ?_
        rw [eE_at1 (J := J) hp.1 (show 0 ≤ k by omega)]
        have hRk := hR k.toNat (by omega)
        refine z_calls (N := MX9_size) (nas := 1) (as := [_]) dX9_isLawful_26 w_917 w_915 w_916 w_8 (by decide +kernel) rfl rfl (Nat.le_of_ble_eq_true rfl) (by decide) (by decide) (ZC.mono (cMX9_size (by omega)) ?_)
        rintro _ _ ⟨rfl, rfl⟩
        refine c_bipush dX9_isLawful_29 (by decide) ?_
        refine c_icmp_le (tgt := 36) dX9_isLawful_31 (by decide) (by split <;> omega) (by omega) (fun h31 => ?_) (fun h31 => ?_)
        · refine c_iinc dX9_isLawful_36 rfl (by decide) rfl ?_
          refine z_goto (tgt := 9) dX9_isLawful_39 (by decide) ?_
          exact Z.fg2 (ih9 _ (by omega) _ rfl (by omega) (fun q hq => by by_cases hqk : (q : Int) < k; exact hS q hqk; (rw [show q = k.toNat by omega]; split at h31 <;> omega))) (zs1 rfl (zs1 rfl (zs1 rfl (zs1 rfl zs0))))
        · refine c_iconst dX9_isLawful_34 ?_
          refine c_zreturn dX9_isLawful_35 rfl (by omega) ?_
          subst hQ0; refine ⟨P, 0, rfl, rfl, Or.inr ⟨rfl, fun hl => ?_⟩, fun hl => absurd hl ?_, fun _ _ _ _ => rfl⟩
          · have := hl.1 k.toNat (by omega); split at h31 <;> omega
          · intro hl; have := hl.1 k.toNat (by omega); split at h31 <;> omega
  exact Z.fg2 (L9 _ _ rfl (by omega) (fun q hq => absurd hq (by omega))) (zs1 rfl (zs1 rfl (zs1 rfl (zs1 rfl zs0))))
end Ref4
