section Ref11
variable {g : ZG} {l : Launch} {Kd : ZK} {Rd : ZR} {n s0 : Nat} {J P : Nat → Nat → Int}
set_option maxHeartbeats 4000000 in
set_option maxRecDepth 100000 in
theorem cMX9_seeAt {v t : Int} (hv : 0 ≤ v ∧ v ≤ 100) (hr : rI (J 52 v.toNat)) : ZC g l MX9_seeAt [.ref 42, .int (iZ v), .int (iZ t)] (KF Kd, zi J, zj P, RF Rd, n, s0) (fun rr hh => rr = none ∧ ∃ J', hh = (KF Kd, zi J', zj P, RF Rd, n, s0) ∧ J' 52 = (fun q => if q = v.toNat then J 52 q + 1 else J 52 q) ∧ (J 52 v.toNat ≠ 0 → J' 54 = J 54) ∧ (J 52 v.toNat = 0 → J' 54 = (fun q => if q = 4 * v.toNat + 3 then t else if q = 4 * v.toNat + 2 then J 42 19 else if q = 4 * v.toNat + 1 then J 42 18 else if q = 4 * v.toNat then J 42 17 else J 54 q)) ∧ ∀ a, a ≠ 52 → a ≠ 54 → J' a = J a) := by
  refine ZC.of (by decide) (Nat.le_of_ble_eq_true rfl) ?_
  generalize hQ0 : (fun rr hh => rr = none ∧ ∃ J', hh = (KF Kd, zi J', zj P, RF Rd, n, s0) ∧ J' 52 = (fun q => if q = v.toNat then J 52 q + 1 else J 52 q) ∧ (J 52 v.toNat ≠ 0 → J' 54 = J 54) ∧ (J 52 v.toNat = 0 → J' 54 = (fun q => if q = 4 * v.toNat + 3 then t else if q = 4 * v.toNat + 2 then J 42 19 else if q = 4 * v.toNat + 1 then J 42 18 else if q = 4 * v.toNat then J 42 17 else J 54 q)) ∧ ∀ a, a ≠ 52 → a ≠ 54 → J' a = J a : Option Value → ZH → Prop) = Q0
  show Z g l MX9_seeAt 0 [some (.ref 42), some (.int (iZ v)), some (.int (iZ t))] [] (KF Kd, zi J, zj P, RF Rd, n, s0) Q0
  refine z_aload_n dX9_seeAt_0 rfl rfl ?_
  refine z_getR (ci := 9) (kf := 14) dX9_seeAt_1 rfl (by decide) (by decide) rfl w_790 rfl ?_
  refine z_iload_n dX9_seeAt_4 rfl rfl ?_
  refine c_iald dX9_seeAt_5 rfl (by omega) (by decide) ?_
  refine c_if_ne (tgt := 60) dX9_seeAt_6 (by decide) (by omega) (fun h6 => ?_) (fun h6 => ?_)
  · refine z_aload_n dX9_seeAt_60 rfl rfl ?_
    refine z_getR (ci := 9) (kf := 14) dX9_seeAt_61 rfl (by decide) (by decide) rfl w_790 rfl ?_
    refine z_iload_n dX9_seeAt_64 rfl rfl ?_
    refine z_dup2 dX9_seeAt_65 rfl rfl ?_
    refine c_iald dX9_seeAt_66 rfl (by omega) (by decide) ?_
    refine c_iconst dX9_seeAt_67 ?_
    refine c_iadd dX9_seeAt_68 ?_
    refine c_iast dX9_seeAt_69 rfl (by omega) (by decide) ?_
    refine z_return dX9_seeAt_70 rfl ?_
    subst hQ0; refine ⟨rfl, _, rfl, ?_, ?_, ?_, ?_⟩
    · funext q; by_cases hq : q = v.toNat
      · subst hq; rw [zz, if_pos rfl]; repeat (first | rw [zzr (by decide)] | rfl)
      · rw [zzi hq, if_neg hq]; repeat (first | rw [zzr (by decide)] | rfl)
    · intro hz; first | (exfalso; omega) | (rw [zup_ne (by decide)])
    · intro hz; first | (exfalso; omega) | (rw [zup_ne (by decide), show (4 * v + 3).toNat = 4 * v.toNat + 3 by omega, show (4 * v + 2).toNat = 4 * v.toNat + 2 by omega, show (4 * v + 1).toNat = 4 * v.toNat + 1 by omega, show (4 * v).toNat = 4 * v.toNat by omega]; funext q; simp only [zup]; grind)
    · intro a a1 a2; rw [zup_ne a1]; repeat (first | rw [zup_ne a2] | rfl)
  · refine z_aload_n dX9_seeAt_9 rfl rfl ?_
    refine z_getR (ci := 9) (kf := 16) dX9_seeAt_10 rfl (by decide) (by decide) rfl w_792 rfl ?_
    refine c_iconst dX9_seeAt_13 ?_
    refine z_iload_n dX9_seeAt_14 rfl rfl ?_
    refine c_imul dX9_seeAt_15 ?_
    refine z_aload_n dX9_seeAt_16 rfl rfl ?_
    refine c_getI (ci := 9) (kf := 17) dX9_seeAt_17 rfl (by decide) (by decide) rfl w_793 ?_
    refine c_iast dX9_seeAt_20 rfl (by omega) (by decide) ?_
    refine z_aload_n dX9_seeAt_21 rfl rfl ?_
    refine z_getR (ci := 9) (kf := 16) dX9_seeAt_22 rfl (by decide) (by decide) rfl w_792 rfl ?_
    refine c_iconst dX9_seeAt_25 ?_
    refine z_iload_n dX9_seeAt_26 rfl rfl ?_
    refine c_imul dX9_seeAt_27 ?_
    refine c_iconst dX9_seeAt_28 ?_
    refine c_iadd dX9_seeAt_29 ?_
    refine z_aload_n dX9_seeAt_30 rfl rfl ?_
    refine c_getI (ci := 9) (kf := 18) dX9_seeAt_31 rfl (by decide) (by decide) rfl w_794 ?_
    refine c_iast dX9_seeAt_34 rfl (by omega) (by decide) ?_
    refine z_aload_n dX9_seeAt_35 rfl rfl ?_
    refine z_getR (ci := 9) (kf := 16) dX9_seeAt_36 rfl (by decide) (by decide) rfl w_792 rfl ?_
    refine c_iconst dX9_seeAt_39 ?_
    refine z_iload_n dX9_seeAt_40 rfl rfl ?_
    refine c_imul dX9_seeAt_41 ?_
    refine c_iconst dX9_seeAt_42 ?_
    refine c_iadd dX9_seeAt_43 ?_
    refine z_aload_n dX9_seeAt_44 rfl rfl ?_
    refine c_getI (ci := 9) (kf := 19) dX9_seeAt_45 rfl (by decide) (by decide) rfl w_795 ?_
    refine c_iast dX9_seeAt_48 rfl (by omega) (by decide) ?_
    refine z_aload_n dX9_seeAt_49 rfl rfl ?_
    refine z_getR (ci := 9) (kf := 16) dX9_seeAt_50 rfl (by decide) (by decide) rfl w_792 rfl ?_
    refine c_iconst dX9_seeAt_53 ?_
    refine z_iload_n dX9_seeAt_54 rfl rfl ?_
    refine c_imul dX9_seeAt_55 ?_
    refine c_iconst dX9_seeAt_56 ?_
    refine c_iadd dX9_seeAt_57 ?_
    refine z_iload_n dX9_seeAt_58 rfl rfl ?_
    refine c_iast dX9_seeAt_59 rfl (by omega) (by decide) ?_
    refine z_aload_n dX9_seeAt_60 rfl rfl ?_
    refine z_getR (ci := 9) (kf := 14) dX9_seeAt_61 rfl (by decide) (by decide) rfl w_790 rfl ?_
    refine z_iload_n dX9_seeAt_64 rfl rfl ?_
    refine z_dup2 dX9_seeAt_65 rfl rfl ?_
    refine c_iald dX9_seeAt_66 rfl (by omega) (by decide) ?_
    refine c_iconst dX9_seeAt_67 ?_
    refine c_iadd dX9_seeAt_68 ?_
    refine c_iast dX9_seeAt_69 rfl (by omega) (by decide) ?_
    refine z_return dX9_seeAt_70 rfl ?_
    subst hQ0; refine ⟨rfl, _, rfl, ?_, ?_, ?_, ?_⟩
    · funext q; by_cases hq : q = v.toNat
      · subst hq; rw [zz, if_pos rfl]; repeat (first | rw [zzr (by decide)] | rfl)
      · rw [zzi hq, if_neg hq]; repeat (first | rw [zzr (by decide)] | rfl)
    · intro hz; first | (exfalso; omega) | (rw [zup_ne (by decide)])
    · intro hz; first | (exfalso; omega) | (rw [zup_ne (by decide), show (4 * v + 3).toNat = 4 * v.toNat + 3 by omega, show (4 * v + 2).toNat = 4 * v.toNat + 2 by omega, show (4 * v + 1).toNat = 4 * v.toNat + 1 by omega, show (4 * v).toNat = 4 * v.toNat by omega]; funext q; simp only [zup]; grind)
    · intro a a1 a2; rw [zup_ne a1]; repeat (first | rw [zup_ne a2] | rfl)
set_option maxHeartbeats 4000000 in
set_option maxRecDepth 100000 in
theorem cMX9_layLast {p m3 : Int} {L : List V4} (hp : 0 ≤ p ∧ p < 74) (hE : entS (eE J p)) (hm : 0 ≤ m3 ∧ m3 ≤ 2097152) (hx0 : -2097152 ≤ J 42 17 ∧ J 42 17 ≤ 2097152) (hx1 : -2097152 ≤ J 42 18 ∧ J 42 18 ≤ 2097152) (hx2 : -2097152 ≤ J 42 19 ∧ J 42 19 ≤ 2097152) (hpos : ∀ t, -m3 ≤ t ∧ t ≤ m3 → 0 ≤ wv (eE J p) (J 42 17, J 42 18, J 42 19, t)) (hLn : (L.length : Int) ≤ 1000000000) (hC0 : CntOK (eE J p) L J) : ZC g l MX9_layLast [.ref 42, .int (iZ p), .int (iZ m3)] (KF Kd, zi J, zj P, RF Rd, n, s0) (fun rr hh => rr = none ∧ ∃ J', hh = (KF Kd, zi J', zj P, RF Rd, n, s0) ∧ CntOK (eE J p) (L ++ vec3 (J 42 17) (J 42 18) (J 42 19) m3 (2 * m3 + 1).toNat) J' ∧ ∀ a, a ≠ 52 → a ≠ 54 → J' a = J a) := by
  refine ZC.of (by decide) (Nat.le_of_ble_eq_true rfl) ?_
  generalize hQ0 : (fun rr hh => rr = none ∧ ∃ J', hh = (KF Kd, zi J', zj P, RF Rd, n, s0) ∧ CntOK (eE J p) (L ++ vec3 (J 42 17) (J 42 18) (J 42 19) m3 (2 * m3 + 1).toNat) J' ∧ ∀ a, a ≠ 52 → a ≠ 54 → J' a = J a : Option Value → ZH → Prop) = Q0
  show Z g l MX9_layLast 0 [some (.ref 42), some (.int (iZ p)), some (.int (iZ m3)), none, none, none, none, none, none, none, none, none] [] (KF Kd, zi J, zj P, RF Rd, n, s0) Q0
  refine z_aload_n dX9_layLast_0 rfl rfl ?_
  refine z_iload_n dX9_layLast_1 rfl rfl ?_
  refine c_iconst dX9_layLast_2 ?_
  refine c_iconst dX9_layLast_3 ?_
  refine z_callv (N := MX9_entryAt) (ci := 9) (nas := 3) (as := [_, _, _]) dX9_layLast_4 w_925 w_922 w_924 ws_25 w_8 (by decide +kernel) rfl rfl rfl (by decide) (Nat.le_of_ble_eq_true rfl) (by decide) (by decide) (ZC.mono (cMX9_entryAt (by omega)) ?_)
  rintro _ _ ⟨rfl, rfl⟩
  rw [eE_at (J := J) hp.1 (show (0 : Int) ≤ 0 by omega) (show (0 : Int) ≤ 0 by omega)]
  have b00 := hE (4 * (0 : Int).toNat + (0 : Int).toNat) (by decide)
  refine c_i2l dX9_layLast_7 (by omega) ?_
  refine z_aload_n dX9_layLast_8 rfl rfl ?_
  refine c_getI (ci := 9) (kf := 17) dX9_layLast_9 rfl (by decide) (by decide) rfl w_793 ?_
  refine c_i2l dX9_layLast_12 (by omega) ?_
  refine c_lmul dX9_layLast_13 ?_
  refine z_aload_n dX9_layLast_14 rfl rfl ?_
  refine c_getI (ci := 9) (kf := 17) dX9_layLast_15 rfl (by decide) (by decide) rfl w_793 ?_
  refine c_i2l dX9_layLast_18 (by omega) ?_
  refine c_lmul dX9_layLast_19 ?_
  refine z_aload_n dX9_layLast_20 rfl rfl ?_
  refine z_iload_n dX9_layLast_21 rfl rfl ?_
  refine c_iconst dX9_layLast_22 ?_
  refine c_iconst dX9_layLast_23 ?_
  refine z_callv (N := MX9_entryAt) (ci := 9) (nas := 3) (as := [_, _, _]) dX9_layLast_24 w_925 w_922 w_924 ws_25 w_8 (by decide +kernel) rfl rfl rfl (by decide) (Nat.le_of_ble_eq_true rfl) (by decide) (by decide) (ZC.mono (cMX9_entryAt (by omega)) ?_)
  rintro _ _ ⟨rfl, rfl⟩
  rw [eE_at (J := J) hp.1 (show (0 : Int) ≤ 1 by omega) (show (0 : Int) ≤ 1 by omega)]
  have b11 := hE (4 * (1 : Int).toNat + (1 : Int).toNat) (by decide)
  refine c_i2l dX9_layLast_27 (by omega) ?_
  refine z_aload_n dX9_layLast_28 rfl rfl ?_
  refine c_getI (ci := 9) (kf := 18) dX9_layLast_29 rfl (by decide) (by decide) rfl w_794 ?_
  refine c_i2l dX9_layLast_32 (by omega) ?_
  refine c_lmul dX9_layLast_33 ?_
  refine z_aload_n dX9_layLast_34 rfl rfl ?_
  refine c_getI (ci := 9) (kf := 18) dX9_layLast_35 rfl (by decide) (by decide) rfl w_794 ?_
  refine c_i2l dX9_layLast_38 (by omega) ?_
  refine c_lmul dX9_layLast_39 ?_
  refine c_ladd dX9_layLast_40 ?_
  refine z_aload_n dX9_layLast_41 rfl rfl ?_
  refine z_iload_n dX9_layLast_42 rfl rfl ?_
  refine c_iconst dX9_layLast_43 ?_
  refine c_iconst dX9_layLast_44 ?_
  refine z_callv (N := MX9_entryAt) (ci := 9) (nas := 3) (as := [_, _, _]) dX9_layLast_45 w_925 w_922 w_924 ws_25 w_8 (by decide +kernel) rfl rfl rfl (by decide) (Nat.le_of_ble_eq_true rfl) (by decide) (by decide) (ZC.mono (cMX9_entryAt (by omega)) ?_)
  rintro _ _ ⟨rfl, rfl⟩
  rw [eE_at (J := J) hp.1 (show (0 : Int) ≤ 2 by omega) (show (0 : Int) ≤ 2 by omega)]
  have b22 := hE (4 * (2 : Int).toNat + (2 : Int).toNat) (by decide)
  refine c_i2l dX9_layLast_48 (by omega) ?_
  refine z_aload_n dX9_layLast_49 rfl rfl ?_
  refine c_getI (ci := 9) (kf := 19) dX9_layLast_50 rfl (by decide) (by decide) rfl w_795 ?_
  refine c_i2l dX9_layLast_53 (by omega) ?_
  refine c_lmul dX9_layLast_54 ?_
  refine z_aload_n dX9_layLast_55 rfl rfl ?_
  refine c_getI (ci := 9) (kf := 19) dX9_layLast_56 rfl (by decide) (by decide) rfl w_795 ?_
  refine c_i2l dX9_layLast_59 (by omega) ?_
  refine c_lmul dX9_layLast_60 ?_
  refine c_ladd dX9_layLast_61 ?_
  refine z_lstore_n dX9_layLast_62 rfl (by decide) rfl ?_
  refine z_lload_n dX9_layLast_63 rfl rfl ?_
  refine c_ldc2 (z := 2) dX9_layLast_64 w_936 (by decide) ?_
  refine z_aload_n dX9_layLast_67 rfl rfl ?_
  refine z_iload_n dX9_layLast_68 rfl rfl ?_
  refine c_iconst dX9_layLast_69 ?_
  refine c_iconst dX9_layLast_70 ?_
  refine z_callv (N := MX9_entryAt) (ci := 9) (nas := 3) (as := [_, _, _]) dX9_layLast_71 w_925 w_922 w_924 ws_25 w_8 (by decide +kernel) rfl rfl rfl (by decide) (Nat.le_of_ble_eq_true rfl) (by decide) (by decide) (ZC.mono (cMX9_entryAt (by omega)) ?_)
  rintro _ _ ⟨rfl, rfl⟩
  rw [eE_at (J := J) hp.1 (show (0 : Int) ≤ 0 by omega) (show (0 : Int) ≤ 1 by omega)]
  have b01 := hE (4 * (0 : Int).toNat + (1 : Int).toNat) (by decide)
  refine c_i2l dX9_layLast_74 (by omega) ?_
  refine c_lmul dX9_layLast_75 ?_
  refine z_aload_n dX9_layLast_76 rfl rfl ?_
  refine c_getI (ci := 9) (kf := 17) dX9_layLast_77 rfl (by decide) (by decide) rfl w_793 ?_
  refine c_i2l dX9_layLast_80 (by omega) ?_
  refine c_lmul dX9_layLast_81 ?_
  refine z_aload_n dX9_layLast_82 rfl rfl ?_
  refine c_getI (ci := 9) (kf := 18) dX9_layLast_83 rfl (by decide) (by decide) rfl w_794 ?_
  refine c_i2l dX9_layLast_86 (by omega) ?_
  refine c_lmul dX9_layLast_87 ?_
  refine c_ldc2 (z := 2) dX9_layLast_88 w_936 (by decide) ?_
  refine z_aload_n dX9_layLast_91 rfl rfl ?_
  refine z_iload_n dX9_layLast_92 rfl rfl ?_
  refine c_iconst dX9_layLast_93 ?_
  refine c_iconst dX9_layLast_94 ?_
  refine z_callv (N := MX9_entryAt) (ci := 9) (nas := 3) (as := [_, _, _]) dX9_layLast_95 w_925 w_922 w_924 ws_25 w_8 (by decide +kernel) rfl rfl rfl (by decide) (Nat.le_of_ble_eq_true rfl) (by decide) (by decide) (ZC.mono (cMX9_entryAt (by omega)) ?_)
  rintro _ _ ⟨rfl, rfl⟩
  rw [eE_at (J := J) hp.1 (show (0 : Int) ≤ 0 by omega) (show (0 : Int) ≤ 2 by omega)]
  have b02 := hE (4 * (0 : Int).toNat + (2 : Int).toNat) (by decide)
  refine c_i2l dX9_layLast_98 (by omega) ?_
  refine c_lmul dX9_layLast_99 ?_
  refine z_aload_n dX9_layLast_100 rfl rfl ?_
  refine c_getI (ci := 9) (kf := 17) dX9_layLast_101 rfl (by decide) (by decide) rfl w_793 ?_
  refine c_i2l dX9_layLast_104 (by omega) ?_
  refine c_lmul dX9_layLast_105 ?_
  refine z_aload_n dX9_layLast_106 rfl rfl ?_
  refine c_getI (ci := 9) (kf := 19) dX9_layLast_107 rfl (by decide) (by decide) rfl w_795 ?_
  refine c_i2l dX9_layLast_110 (by omega) ?_
  refine c_lmul dX9_layLast_111 ?_
  refine c_ladd dX9_layLast_112 ?_
  refine c_ldc2 (z := 2) dX9_layLast_113 w_936 (by decide) ?_
  refine z_aload_n dX9_layLast_116 rfl rfl ?_
  refine z_iload_n dX9_layLast_117 rfl rfl ?_
  refine c_iconst dX9_layLast_118 ?_
  refine c_iconst dX9_layLast_119 ?_
  refine z_callv (N := MX9_entryAt) (ci := 9) (nas := 3) (as := [_, _, _]) dX9_layLast_120 w_925 w_922 w_924 ws_25 w_8 (by decide +kernel) rfl rfl rfl (by decide) (Nat.le_of_ble_eq_true rfl) (by decide) (by decide) (ZC.mono (cMX9_entryAt (by omega)) ?_)
  rintro _ _ ⟨rfl, rfl⟩
  rw [eE_at (J := J) hp.1 (show (0 : Int) ≤ 1 by omega) (show (0 : Int) ≤ 2 by omega)]
  have b12 := hE (4 * (1 : Int).toNat + (2 : Int).toNat) (by decide)
  refine c_i2l dX9_layLast_123 (by omega) ?_
  refine c_lmul dX9_layLast_124 ?_
  refine z_aload_n dX9_layLast_125 rfl rfl ?_
  refine c_getI (ci := 9) (kf := 18) dX9_layLast_126 rfl (by decide) (by decide) rfl w_794 ?_
  refine c_i2l dX9_layLast_129 (by omega) ?_
  refine c_lmul dX9_layLast_130 ?_
  refine z_aload_n dX9_layLast_131 rfl rfl ?_
  refine c_getI (ci := 9) (kf := 19) dX9_layLast_132 rfl (by decide) (by decide) rfl w_795 ?_
  refine c_i2l dX9_layLast_135 (by omega) ?_
  refine c_lmul dX9_layLast_136 ?_
  refine c_ladd dX9_layLast_137 ?_
  refine c_ladd dX9_layLast_138 ?_
  refine z_lstore_n dX9_layLast_139 rfl (by decide) rfl ?_
  refine c_ldc2 (z := 2) dX9_layLast_140 w_936 (by decide) ?_
  refine z_aload_n dX9_layLast_143 rfl rfl ?_
  refine z_iload_n dX9_layLast_144 rfl rfl ?_
  refine c_iconst dX9_layLast_145 ?_
  refine c_iconst dX9_layLast_146 ?_
  refine z_callv (N := MX9_entryAt) (ci := 9) (nas := 3) (as := [_, _, _]) dX9_layLast_147 w_925 w_922 w_924 ws_25 w_8 (by decide +kernel) rfl rfl rfl (by decide) (Nat.le_of_ble_eq_true rfl) (by decide) (by decide) (ZC.mono (cMX9_entryAt (by omega)) ?_)
  rintro _ _ ⟨rfl, rfl⟩
  rw [eE_at (J := J) hp.1 (show (0 : Int) ≤ 0 by omega) (show (0 : Int) ≤ 3 by omega)]
  have b03 := hE (4 * (0 : Int).toNat + (3 : Int).toNat) (by decide)
  refine c_i2l dX9_layLast_150 (by omega) ?_
  refine c_lmul dX9_layLast_151 ?_
  refine z_aload_n dX9_layLast_152 rfl rfl ?_
  refine c_getI (ci := 9) (kf := 17) dX9_layLast_153 rfl (by decide) (by decide) rfl w_793 ?_
  refine c_i2l dX9_layLast_156 (by omega) ?_
  refine c_lmul dX9_layLast_157 ?_
  refine c_ldc2 (z := 2) dX9_layLast_158 w_936 (by decide) ?_
  refine z_aload_n dX9_layLast_161 rfl rfl ?_
  refine z_iload_n dX9_layLast_162 rfl rfl ?_
  refine c_iconst dX9_layLast_163 ?_
  refine c_iconst dX9_layLast_164 ?_
  refine z_callv (N := MX9_entryAt) (ci := 9) (nas := 3) (as := [_, _, _]) dX9_layLast_165 w_925 w_922 w_924 ws_25 w_8 (by decide +kernel) rfl rfl rfl (by decide) (Nat.le_of_ble_eq_true rfl) (by decide) (by decide) (ZC.mono (cMX9_entryAt (by omega)) ?_)
  rintro _ _ ⟨rfl, rfl⟩
  rw [eE_at (J := J) hp.1 (show (0 : Int) ≤ 1 by omega) (show (0 : Int) ≤ 3 by omega)]
  have b13 := hE (4 * (1 : Int).toNat + (3 : Int).toNat) (by decide)
  refine c_i2l dX9_layLast_168 (by omega) ?_
  refine c_lmul dX9_layLast_169 ?_
  refine z_aload_n dX9_layLast_170 rfl rfl ?_
  refine c_getI (ci := 9) (kf := 18) dX9_layLast_171 rfl (by decide) (by decide) rfl w_794 ?_
  refine c_i2l dX9_layLast_174 (by omega) ?_
  refine c_lmul dX9_layLast_175 ?_
  refine c_ladd dX9_layLast_176 ?_
  refine c_ldc2 (z := 2) dX9_layLast_177 w_936 (by decide) ?_
  refine z_aload_n dX9_layLast_180 rfl rfl ?_
  refine z_iload_n dX9_layLast_181 rfl rfl ?_
  refine c_iconst dX9_layLast_182 ?_
  refine c_iconst dX9_layLast_183 ?_
  refine z_callv (N := MX9_entryAt) (ci := 9) (nas := 3) (as := [_, _, _]) dX9_layLast_184 w_925 w_922 w_924 ws_25 w_8 (by decide +kernel) rfl rfl rfl (by decide) (Nat.le_of_ble_eq_true rfl) (by decide) (by decide) (ZC.mono (cMX9_entryAt (by omega)) ?_)
  rintro _ _ ⟨rfl, rfl⟩
  rw [eE_at (J := J) hp.1 (show (0 : Int) ≤ 2 by omega) (show (0 : Int) ≤ 3 by omega)]
  have b23 := hE (4 * (2 : Int).toNat + (3 : Int).toNat) (by decide)
  refine c_i2l dX9_layLast_187 (by omega) ?_
  refine c_lmul dX9_layLast_188 ?_
  refine z_aload_n dX9_layLast_189 rfl rfl ?_
  refine c_getI (ci := 9) (kf := 19) dX9_layLast_190 rfl (by decide) (by decide) rfl w_795 ?_
  refine c_i2l dX9_layLast_193 (by omega) ?_
  refine c_lmul dX9_layLast_194 ?_
  refine c_ladd dX9_layLast_195 ?_
  refine z_lstore dX9_layLast_196 (by decide) rfl ?_
  refine z_aload_n dX9_layLast_198 rfl rfl ?_
  refine z_iload_n dX9_layLast_199 rfl rfl ?_
  refine c_iconst dX9_layLast_200 ?_
  refine c_iconst dX9_layLast_201 ?_
  refine z_callv (N := MX9_entryAt) (ci := 9) (nas := 3) (as := [_, _, _]) dX9_layLast_202 w_925 w_922 w_924 ws_25 w_8 (by decide +kernel) rfl rfl rfl (by decide) (Nat.le_of_ble_eq_true rfl) (by decide) (by decide) (ZC.mono (cMX9_entryAt (by omega)) ?_)
  rintro _ _ ⟨rfl, rfl⟩
  rw [eE_at (J := J) hp.1 (show (0 : Int) ≤ 3 by omega) (show (0 : Int) ≤ 3 by omega)]
  have b33 := hE (4 * (3 : Int).toNat + (3 : Int).toNat) (by decide)
  refine c_i2l dX9_layLast_205 (by omega) ?_
  refine z_lstore dX9_layLast_206 (by decide) rfl ?_
  refine z_iload_n dX9_layLast_208 rfl rfl ?_
  refine z_istore dX9_layLast_209 (by decide) rfl ?_
  have L211 : ∀ (m211 : Nat), ∀ (t : Int) (J1 : Nat → Nat → Int), (t + m3 + 1).toNat = m211 → (-m3 - 1 ≤ t ∧ t ≤ m3) → (CntOK (eE J p) (L ++ vec3 (J 42 17) (J 42 18) (J 42 19) m3 (m3 - t).toNat) J1) → (∀ a, a ≠ 52 → a ≠ 54 → J1 a = J a) → Z g l MX9_layLast 211 [some (.ref 42), some (.int (iZ p)), some (.int (iZ m3)), some (.long (lZ (eE J p 0 * J 42 17 * J 42 17 + eE J p 5 * J 42 18 * J 42 18 + eE J p 10 * J 42 19 * J 42 19 + (2 * eE J p 1 * J 42 17 * J 42 18 + 2 * eE J p 2 * J 42 17 * J 42 19 + 2 * eE J p 6 * J 42 18 * J 42 19)))), none, some (.long (lZ (2 * eE J p 3 * J 42 17 + 2 * eE J p 7 * J 42 18 + 2 * eE J p 11 * J 42 19))), none, some (.long (lZ (eE J p 15))), none, some (.int (iZ t)), none, none] [] (KF Kd, zi J1, zj P, RF Rd, n, s0) Q0 := by
    intro m211
    induction m211 using Nat.strongRecOn with
    | ind m211 ih211 =>
      intro t J1 hm211 ht hC hoff
      have e17 : J1 42 17 = J 42 17 := by rw [hoff 42 (by decide) (by decide)]
      refine z_iload dX9_layLast_211 rfl ?_
      refine z_iload_n dX9_layLast_213 rfl rfl ?_
      refine c_ineg dX9_layLast_214 ?_
      refine c_icmp_lt (tgt := 263) dX9_layLast_215 (by decide) (by omega) (by omega) (fun h215 => ?_) (fun h215 => ?_)
      · refine z_return dX9_layLast_263 rfl ?_
        subst hQ0; refine ⟨rfl, J1, rfl, ?_, hoff⟩; rw [show (2 * m3 + 1).toNat = (m3 - t).toNat by omega]; exact hC
      · refine z_lload_n dX9_layLast_218 rfl rfl ?_
        refine z_lload dX9_layLast_219 rfl ?_
        refine z_iload dX9_layLast_221 rfl ?_
        refine c_i2l dX9_layLast_223 (by omega) ?_
        refine c_lmul dX9_layLast_224 ?_
        refine c_ladd dX9_layLast_225 ?_
        refine z_lload dX9_layLast_226 rfl ?_
        refine z_iload dX9_layLast_228 rfl ?_
        refine c_i2l dX9_layLast_230 (by omega) ?_
        refine c_lmul dX9_layLast_231 ?_
        refine z_iload dX9_layLast_232 rfl ?_
        refine c_i2l dX9_layLast_234 (by omega) ?_
        refine c_lmul dX9_layLast_235 ?_
        refine c_ladd dX9_layLast_236 ?_
        refine z_lstore dX9_layLast_237 (by decide) rfl ?_
        rw [show (eE J p 0 * J 42 17 * J 42 17 + eE J p 5 * J 42 18 * J 42 18 + eE J p 10 * J 42 19 * J 42 19 + (2 * eE J p 1 * J 42 17 * J 42 18 + 2 * eE J p 2 * J 42 17 * J 42 19 + 2 * eE J p 6 * J 42 18 * J 42 19)) + (2 * eE J p 3 * J 42 17 + 2 * eE J p 7 * J 42 18 + 2 * eE J p 11 * J 42 19) * t + eE J p 15 * t * t = wv (eE J p) (J 42 17, J 42 18, J 42 19, t) from rfl]
        have hw0 := hpos t (by omega)
        have hwr := wv_rL (x := (J 42 17, J 42 18, J 42 19, t)) hE (by omega) (by omega) (by omega) (by show -2097152 ≤ t ∧ t ≤ 2097152; omega)
        refine z_lload dX9_layLast_239 rfl ?_
        refine c_ldc2 (z := 100) dX9_layLast_241 w_930 (by decide) ?_
        refine c_lif_gt (tgt := 257) dX9_layLast_244 dX9_layLast_245 (by decide) (by omega) (by omega) (fun h244 => ?_) (fun h244 => ?_)
        · refine c_iinc dX9_layLast_257 rfl (by decide) rfl ?_
          refine z_goto (tgt := 211) dX9_layLast_260 (by decide) ?_
          exact Z.fg2 (ih211 _ (by omega) _ _ rfl (by omega) (by rw [show (m3 - (t + -1)).toNat = (m3 - t).toNat + 1 by omega, vec3_succ, show m3 - ((m3 - t).toNat : Int) = t by omega, ← List.append_assoc]; first | exact CntOK_skip hC (by omega) | exact CntOK_see hC ⟨hw0, by omega⟩ s1 s2 (by rw [hoff 42 (by decide) (by decide)] at s3; exact s3)) (fun a a1 a2 => by first | exact hoff a a1 a2 | (rw [s4 a a1 a2]; exact hoff a a1 a2))) (zs1 rfl (zs1 rfl (zs1 rfl (zs1 rfl (zsn (zs1 rfl (zsn (zs1 rfl (zsn (zs1 rfl (zsn (zsn zs0))))))))))))
        · refine z_aload_n dX9_layLast_248 rfl rfl ?_
          refine z_lload dX9_layLast_249 rfl ?_
          refine c_l2i dX9_layLast_251 ?_
          refine z_iload dX9_layLast_252 rfl ?_
          have hcb := (hC (wv (eE J p) (J 42 17, J 42 18, J 42 19, t)).toNat (by omega)).1
          have hcl := cntL_bd (eE J p) (L ++ vec3 (J 42 17) (J 42 18) (J 42 19) m3 (m3 - t).toNat) ((wv (eE J p) (J 42 17, J 42 18, J 42 19, t)).toNat : Nat)
          rw [List.length_append, vec3_len] at hcl
          refine z_callv (N := MX9_seeAt) (ci := 9) (nas := 2) (as := [_, _]) dX9_layLast_254 w_1031 w_1028 w_1030 ws_34 w_8 (by decide +kernel) rfl rfl rfl (by decide) (Nat.le_of_ble_eq_true rfl) (by decide) (by decide) (ZC.mono (cMX9_seeAt (by omega) (by omega)) ?_)
          rintro _ _ ⟨rfl, J2, rfl, s1, s2, s3, s4⟩
          refine c_iinc dX9_layLast_257 rfl (by decide) rfl ?_
          refine z_goto (tgt := 211) dX9_layLast_260 (by decide) ?_
          exact Z.fg2 (ih211 _ (by omega) _ _ rfl (by omega) (by rw [show (m3 - (t + -1)).toNat = (m3 - t).toNat + 1 by omega, vec3_succ, show m3 - ((m3 - t).toNat : Int) = t by omega, ← List.append_assoc]; first | exact CntOK_skip hC (by omega) | exact CntOK_see hC ⟨hw0, by omega⟩ s1 s2 (by rw [hoff 42 (by decide) (by decide)] at s3; exact s3)) (fun a a1 a2 => by first | exact hoff a a1 a2 | (rw [s4 a a1 a2]; exact hoff a a1 a2))) (zs1 rfl (zs1 rfl (zs1 rfl (zs1 rfl (zsn (zs1 rfl (zsn (zs1 rfl (zsn (zs1 rfl (zsn (zsn zs0))))))))))))
  exact Z.fg2 (L211 _ _ _ rfl (by omega) (by rw [show (m3 - m3).toNat = 0 by omega]; show CntOK _ (L ++ []) _; rw [List.append_nil]; exact hC0) (fun _ _ _ => rfl)) (zs1 rfl (zs1 rfl (zs1 rfl (zs1 rfl (zsn (zs1 rfl (zsn (zs1 rfl (zsn (zs1 rfl (zsn (zsn zs0))))))))))))
end Ref11
