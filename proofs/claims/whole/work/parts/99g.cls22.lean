section Cls22
variable {g : ZG} {l : Launch} {Kd : ZK} {Rd : ZR} {n s0 c : Nat} {A J P : Nat → Nat → Int}
theorem det_D3 {E : Nat → Int} (h : okF 3 E) : detS E 3 (-1) = D3R E := by
  have p := (okF_PD (by decide) h).2
  have hs := h.2.2.1
  have hz := h.2.2.2
  have e1 : E 1 = E 4 := hs 0 1 (by decide) (by decide)
  have e2 : E 2 = E 8 := hs 0 2 (by decide) (by decide)
  have e6 : E 6 = E 9 := hs 1 2 (by decide) (by decide)
  have t00 : padT 3 E 0 0 = E 0 := padT_in (by decide)
  have t01 : padT 3 E 0 1 = E 4 := (padT_in (by decide)).trans e1
  have t02 : padT 3 E 0 2 = E 8 := (padT_in (by decide)).trans e2
  have t11 : padT 3 E 1 1 = E 5 := padT_in (by decide)
  have t12 : padT 3 E 1 2 = E 9 := (padT_in (by decide)).trans e6
  have t22 : padT 3 E 2 2 = E 10 := padT_in (by decide)
  have t03 : padT 3 E 0 3 = 0 := (padT_in (by decide)).trans (hz 0 3 (by decide) (by decide) (by decide))
  have t13 : padT 3 E 1 3 = 0 := (padT_in (by decide)).trans (hz 1 3 (by decide) (by decide) (by decide))
  have t23 : padT 3 E 2 3 = 0 := (padT_in (by decide)).trans (hz 2 3 (by decide) (by decide) (by decide))
  have t33 : padT 3 E 3 3 = 1 := by unfold padT; rw [if_pos ⟨rfl, by decide⟩]
  rw [← p]
  unfold P4 t4 t3 D3R D2R
  rw [t00, t01, t02, t11, t12, t22, t03, t13, t23, t33]
  grind
set_option maxHeartbeats 4000000 in
set_option maxRecDepth 100000 in
theorem cMX2_openRows {r ee : Nat} {nl t : Int} {E : Nat → Int} (hn : 1 ≤ nl) (h3 : nl ≤ 3) (hO : okF nl E) (ht : 1 ≤ t ∧ t ≤ 100) (hK : (KF Kd r).1 = 13) (hR : RF Rd r 1 = some ee) (hKe : KF Kd ee = (1, 16)) (hr : 66 ≤ r ∧ 66 ≤ ee) (hl : J r 0 = nl) (hE : J ee = E) (hdt : J r 2 = detS E nl (-1)) : ZC g l MX2_openRows [.ref 30, .ref r, .int (iZ t)] (KF Kd, zi J, zj P, RF Rd, n, s0) (fun rr hh => rr = none ∧ ∃ J' P' : Nat → Nat → Int, hh = (KF Kd, zi J', zj P', RF Rd, n, s0) ∧ EI (eR nl E t) J' P' 0 ∧ (eR nl E t).rs (J' 35) (J' 36) 1 = (eR nl E t).en nl.toNat (J 35) ∧ (∀ a, a ≠ 30 → a ≠ 35 → a ≠ 36 → J' a = J a) ∧ ∀ a, a ≠ 31 → a ≠ 32 → a ≠ 33 → a ≠ 34 → P' a = P a) := by
  refine ZC.of (by decide) (Nat.le_of_ble_eq_true rfl) ?_
  generalize hQ0 : (fun rr hh => rr = none ∧ ∃ J' P' : Nat → Nat → Int, hh = (KF Kd, zi J', zj P', RF Rd, n, s0) ∧ EI (eR nl E t) J' P' 0 ∧ (eR nl E t).rs (J' 35) (J' 36) 1 = (eR nl E t).en nl.toNat (J 35) ∧ (∀ a, a ≠ 30 → a ≠ 35 → a ≠ 36 → J' a = J a) ∧ ∀ a, a ≠ 31 → a ≠ 32 → a ≠ 33 → a ≠ 34 → P' a = P a : Option Value → ZH → Prop) = Q0
  show Z g l MX2_openRows 0 [some (.ref 30), some (.ref r), some (.int (iZ t)), none, none, none, none, none, none, none, none, none, none] [] (KF Kd, zi J, zj P, RF Rd, n, s0) Q0
  have hok := eR_ok hn h3 hO ht
  have hen := hO.2.1.1
  have hdb := detS_small (k := nl) hO.2.1.1 hO.2.2.1 ⟨by omega, by omega⟩
  have hdp := hO.2.1.2.1
  refine z_aload_n dX2_openRows_0 rfl rfl ?_
  refine z_aload_n dX2_openRows_1 rfl rfl ?_
  refine c_getI (ci := 3) (kf := 0) dX2_openRows_2 hK (by decide) (by decide) rfl w_279 ?_
  rw [hl]
  refine c_iconst dX2_openRows_5 ?_
  refine z_calls (N := MJ9_min_7cf53) (nas := 2) (as := [_, _]) dX2_openRows_6 w_612 w_610 w_611 w_12 (by decide +kernel) rfl rfl (Nat.le_of_ble_eq_true rfl) (by decide) (by decide) (ZC.mono (cMJ9_min_7cf53 (by omega) (by omega)) ?_)
  rintro _ _ ⟨rfl, rfl⟩
  rw [show min nl 3 = nl by omega]
  refine c_putI (ci := 2) (kf := 0) dX2_openRows_9 rfl (by decide) (by decide) rfl (by decide) w_111 ?_
  refine z_aload_n dX2_openRows_12 rfl rfl ?_
  refine z_iload_n dX2_openRows_13 rfl rfl ?_
  refine c_putI (ci := 2) (kf := 2) dX2_openRows_14 rfl (by decide) (by decide) rfl (by decide) w_113 ?_
  refine z_aload_n dX2_openRows_17 rfl rfl ?_
  refine c_iconst dX2_openRows_18 ?_
  refine c_putZ (ci := 2) (kf := 3) dX2_openRows_19 rfl (by decide) (by decide) rfl (by decide) (by omega) w_114 ?_
  refine z_aload_n dX2_openRows_22 rfl rfl ?_
  refine c_iconst dX2_openRows_23 ?_
  refine c_putI (ci := 2) (kf := 4) dX2_openRows_24 rfl (by decide) (by decide) rfl (by decide) w_115 ?_
  have hE9 : ∀ k, k < 16 → (zup (zup (zup (zup J 30 0 nl) 30 2 t) 30 3 0) 30 4 1) ee k = E k := fun k _ => by rw [zzr (by omega), zzr (by omega), zzr (by omega), zzr (by omega), hE]
  refine z_aload_n dX2_openRows_27 rfl rfl ?_
  refine z_getR (ci := 3) (kf := 1) dX2_openRows_28 hK (by decide) (by decide) rfl w_285 hR ?_
  refine c_iconst dX2_openRows_31 ?_
  refine c_iald dX2_openRows_32 hKe (by omega) (by decide) ?_
  rw [show (0 : Int).toNat = 0 from rfl, hE9 0 (by decide)]
  have q0 := hen 0 (by decide)
  refine c_i2l dX2_openRows_33 (by omega) ?_
  refine z_lstore_n dX2_openRows_34 rfl (by decide) rfl ?_
  refine z_aload_n dX2_openRows_35 rfl rfl ?_
  refine z_getR (ci := 3) (kf := 1) dX2_openRows_36 hK (by decide) (by decide) rfl w_285 hR ?_
  refine c_iconst dX2_openRows_39 ?_
  refine c_iald dX2_openRows_40 hKe (by omega) (by decide) ?_
  rw [show (4 : Int).toNat = 4 from rfl, hE9 4 (by decide)]
  have q4 := hen 4 (by decide)
  refine c_i2l dX2_openRows_41 (by omega) ?_
  refine z_lstore dX2_openRows_42 (by decide) rfl ?_
  refine z_aload_n dX2_openRows_44 rfl rfl ?_
  refine z_getR (ci := 3) (kf := 1) dX2_openRows_45 hK (by decide) (by decide) rfl w_285 hR ?_
  refine c_iconst dX2_openRows_48 ?_
  refine c_iald dX2_openRows_49 hKe (by omega) (by decide) ?_
  rw [show (5 : Int).toNat = 5 from rfl, hE9 5 (by decide)]
  have q5 := hen 5 (by decide)
  refine c_i2l dX2_openRows_50 (by omega) ?_
  refine z_lstore dX2_openRows_51 (by decide) rfl ?_
  refine z_aload_n dX2_openRows_53 rfl rfl ?_
  refine z_getR (ci := 3) (kf := 1) dX2_openRows_54 hK (by decide) (by decide) rfl w_285 hR ?_
  refine c_bipush dX2_openRows_57 (by decide) ?_
  refine c_iald dX2_openRows_59 hKe (by omega) (by decide) ?_
  rw [show (8 : Int).toNat = 8 from rfl, hE9 8 (by decide)]
  have q8 := hen 8 (by decide)
  refine c_i2l dX2_openRows_60 (by omega) ?_
  refine z_lstore dX2_openRows_61 (by decide) rfl ?_
  refine z_aload_n dX2_openRows_63 rfl rfl ?_
  refine z_getR (ci := 3) (kf := 1) dX2_openRows_64 hK (by decide) (by decide) rfl w_285 hR ?_
  refine c_bipush dX2_openRows_67 (by decide) ?_
  refine c_iald dX2_openRows_69 hKe (by omega) (by decide) ?_
  rw [show (9 : Int).toNat = 9 from rfl, hE9 9 (by decide)]
  have q9 := hen 9 (by decide)
  refine c_i2l dX2_openRows_70 (by omega) ?_
  refine z_lstore dX2_openRows_71 (by decide) rfl ?_
  refine z_aload_n dX2_openRows_73 rfl rfl ?_
  refine z_getR (ci := 2) (kf := 5) dX2_openRows_74 rfl (by decide) (by decide) rfl w_116 rfl ?_
  refine c_iconst dX2_openRows_77 ?_
  refine c_lconst1 dX2_openRows_78 ?_
  refine c_last dX2_openRows_79 rfl (by omega) (by decide) ?_
  refine z_aload_n dX2_openRows_80 rfl rfl ?_
  refine z_getR (ci := 2) (kf := 5) dX2_openRows_81 rfl (by decide) (by decide) rfl w_116 rfl ?_
  refine c_iconst dX2_openRows_84 ?_
  refine z_lload dX2_openRows_85 rfl ?_
  refine c_lneg dX2_openRows_87 ?_
  refine c_last dX2_openRows_88 rfl (by omega) (by decide) ?_
  refine z_aload_n dX2_openRows_89 rfl rfl ?_
  refine z_getR (ci := 2) (kf := 5) dX2_openRows_90 rfl (by decide) (by decide) rfl w_116 rfl ?_
  refine c_iconst dX2_openRows_93 ?_
  refine z_lload_n dX2_openRows_94 rfl rfl ?_
  refine c_last dX2_openRows_95 rfl (by omega) (by decide) ?_
  refine z_aload_n dX2_openRows_96 rfl rfl ?_
  refine z_getR (ci := 2) (kf := 5) dX2_openRows_97 rfl (by decide) (by decide) rfl w_116 rfl ?_
  refine c_bipush dX2_openRows_100 (by decide) ?_
  refine z_lload dX2_openRows_102 rfl ?_
  refine z_lload dX2_openRows_104 rfl ?_
  refine c_lmul dX2_openRows_106 ?_
  refine z_lload dX2_openRows_107 rfl ?_
  refine z_lload dX2_openRows_109 rfl ?_
  refine c_lmul dX2_openRows_111 ?_
  refine c_lsub dX2_openRows_112 ?_
  refine c_last dX2_openRows_113 rfl (by omega) (by decide) ?_
  refine z_aload_n dX2_openRows_114 rfl rfl ?_
  refine z_getR (ci := 2) (kf := 5) dX2_openRows_115 rfl (by decide) (by decide) rfl w_116 rfl ?_
  refine c_bipush dX2_openRows_118 (by decide) ?_
  refine z_lload dX2_openRows_120 rfl ?_
  refine z_lload dX2_openRows_122 rfl ?_
  refine c_lmul dX2_openRows_124 ?_
  refine z_lload_n dX2_openRows_125 rfl rfl ?_
  refine z_lload dX2_openRows_126 rfl ?_
  refine c_lmul dX2_openRows_128 ?_
  refine c_lsub dX2_openRows_129 ?_
  refine c_last dX2_openRows_130 rfl (by omega) (by decide) ?_
  refine z_aload_n dX2_openRows_131 rfl rfl ?_
  refine z_getR (ci := 2) (kf := 5) dX2_openRows_132 rfl (by decide) (by decide) rfl w_116 rfl ?_
  refine c_bipush dX2_openRows_135 (by decide) ?_
  refine z_lload_n dX2_openRows_137 rfl rfl ?_
  refine z_lload dX2_openRows_138 rfl ?_
  refine c_lmul dX2_openRows_140 ?_
  refine z_lload dX2_openRows_141 rfl ?_
  refine z_lload dX2_openRows_143 rfl ?_
  refine c_lmul dX2_openRows_145 ?_
  refine c_lsub dX2_openRows_146 ?_
  refine c_last dX2_openRows_147 rfl (by omega) (by decide) ?_
  refine z_aload_n dX2_openRows_148 rfl rfl ?_
  refine z_getR (ci := 2) (kf := 6) dX2_openRows_149 rfl (by decide) (by decide) rfl w_117 rfl ?_
  refine c_iconst dX2_openRows_152 ?_
  refine z_lload_n dX2_openRows_153 rfl rfl ?_
  refine c_last dX2_openRows_154 rfl (by omega) (by decide) ?_
  refine z_aload_n dX2_openRows_155 rfl rfl ?_
  refine z_getR (ci := 2) (kf := 6) dX2_openRows_156 rfl (by decide) (by decide) rfl w_117 rfl ?_
  refine c_iconst dX2_openRows_159 ?_
  refine z_lload_n dX2_openRows_160 rfl rfl ?_
  refine z_lload dX2_openRows_161 rfl ?_
  refine c_lmul dX2_openRows_163 ?_
  refine z_lload dX2_openRows_164 rfl ?_
  refine z_lload dX2_openRows_166 rfl ?_
  refine c_lmul dX2_openRows_168 ?_
  refine c_lsub dX2_openRows_169 ?_
  refine c_last dX2_openRows_170 rfl (by omega) (by decide) ?_
  refine z_aload_n dX2_openRows_171 rfl rfl ?_
  refine z_getR (ci := 2) (kf := 6) dX2_openRows_172 rfl (by decide) (by decide) rfl w_117 rfl ?_
  refine c_iconst dX2_openRows_175 ?_
  refine z_aload_n dX2_openRows_176 rfl rfl ?_
  refine c_getI (ci := 3) (kf := 2) dX2_openRows_177 hK (by decide) (by decide) rfl w_288 ?_
  rw [show (zup (zup (zup (zup J 30 0 nl) 30 2 t) 30 3 0) 30 4 1) r 2 = detS E nl (-1) by rw [zzr (by omega), zzr (by omega), zzr (by omega), zzr (by omega)]; exact hdt]
  refine c_i2l dX2_openRows_180 (by omega) ?_
  refine c_last dX2_openRows_181 rfl (by omega) (by decide) ?_
  refine z_aload_n dX2_openRows_182 rfl rfl ?_
  refine z_getR (ci := 2) (kf := 7) dX2_openRows_183 rfl (by decide) (by decide) rfl w_118 rfl ?_
  refine c_iconst dX2_openRows_186 ?_
  refine z_iload_n dX2_openRows_187 rfl rfl ?_
  refine c_i2l dX2_openRows_188 (by omega) ?_
  refine c_last dX2_openRows_189 rfl (by omega) (by decide) ?_
  have hJ9 : (zup (zup (zup (zup J 30 0 nl) 30 2 t) 30 3 0) 30 4 1) 30 0 = (((eR nl E t).n : Nat) : Int) ∧ (zup (zup (zup (zup J 30 0 nl) 30 2 t) 30 3 0) 30 4 1) 30 3 = (eR nl E t).hf ∧ (zup (zup (zup (zup J 30 0 nl) 30 2 t) 30 3 0) 30 4 1) 30 4 = (eR nl E t).st := ⟨by rw [zzi (by decide), zzi (by decide), zzi (by decide), zz]; show nl = ((nl.toNat : Nat) : Int); omega, by rw [zzi (by decide), zz]; rfl, by rw [zz]; rfl⟩
  have hS9 : ∀ i j, i < (eR nl E t).n → j ≤ i → (zup (zup (zup (zup (zup (zup (zup (zup (zup (zup P 31 (0 : Int).toNat 1) 31 (4 : Int).toNat (-E 4)) 31 (5 : Int).toNat (E 0)) 31 (8 : Int).toNat (E 4 * E 9 - E 5 * E 8)) 31 (9 : Int).toNat (E 4 * E 8 - E 0 * E 9)) 31 (10 : Int).toNat (E 0 * E 5 - E 4 * E 4)) 32 (0 : Int).toNat (E 0)) 32 (1 : Int).toNat (E 0 * E 5 - E 4 * E 4)) 32 (2 : Int).toNat (detS E nl (-1))) 33 (0 : Int).toNat t) 31 (4 * i + j) = (eR nl E t).sl i j := fun i j hi hj => by
    have hi' : i < nl.toNat := hi
    show (zup (zup (zup (zup (zup (zup (zup (zup (zup (zup P 31 (0 : Int).toNat 1) 31 (4 : Int).toNat (-E 4)) 31 (5 : Int).toNat (E 0)) 31 (8 : Int).toNat (E 4 * E 9 - E 5 * E 8)) 31 (9 : Int).toNat (E 4 * E 8 - E 0 * E 9)) 31 (10 : Int).toNat (E 0 * E 5 - E 4 * E 4)) 32 (0 : Int).toNat (E 0)) 32 (1 : Int).toNat (E 0 * E 5 - E 4 * E 4)) 32 (2 : Int).toNat (detS E nl (-1))) 33 (0 : Int).toNat t) 31 (4 * i + j) = sR E i j
    rcases (show i = 0 ∧ j = 0 ∨ i = 1 ∧ j = 0 ∨ i = 1 ∧ j = 1 ∨ i = 2 ∧ j = 0 ∨ i = 2 ∧ j = 1 ∨ i = 2 ∧ j = 2 by omega) with ⟨rfl, rfl⟩ | ⟨rfl, rfl⟩ | ⟨rfl, rfl⟩ | ⟨rfl, rfl⟩ | ⟨rfl, rfl⟩ | ⟨rfl, rfl⟩ <;> rfl
  have hO9 : ∀ i, i < (eR nl E t).n → (zup (zup (zup (zup (zup (zup (zup (zup (zup (zup P 31 (0 : Int).toNat 1) 31 (4 : Int).toNat (-E 4)) 31 (5 : Int).toNat (E 0)) 31 (8 : Int).toNat (E 4 * E 9 - E 5 * E 8)) 31 (9 : Int).toNat (E 4 * E 8 - E 0 * E 9)) 31 (10 : Int).toNat (E 0 * E 5 - E 4 * E 4)) 32 (0 : Int).toNat (E 0)) 32 (1 : Int).toNat (E 0 * E 5 - E 4 * E 4)) 32 (2 : Int).toNat (detS E nl (-1))) 33 (0 : Int).toNat t) 32 i = (eR nl E t).ou i := fun i hi => by
    have hi' : i < nl.toNat := hi
    show (zup (zup (zup (zup (zup (zup (zup (zup (zup (zup P 31 (0 : Int).toNat 1) 31 (4 : Int).toNat (-E 4)) 31 (5 : Int).toNat (E 0)) 31 (8 : Int).toNat (E 4 * E 9 - E 5 * E 8)) 31 (9 : Int).toNat (E 4 * E 8 - E 0 * E 9)) 31 (10 : Int).toNat (E 0 * E 5 - E 4 * E 4)) 32 (0 : Int).toNat (E 0)) 32 (1 : Int).toNat (E 0 * E 5 - E 4 * E 4)) 32 (2 : Int).toNat (detS E nl (-1))) 33 (0 : Int).toNat t) 32 i = dR E (i + 1)
    rcases (show i = 0 ∨ i = 1 ∨ i = 2 by omega) with rfl | rfl | rfl
    · rfl
    · rfl
    · have e3 : nl = 3 := by omega
      subst e3
      show detS E 3 (-1) = D3R E
      exact det_D3 hO
  have hL9 : (zup (zup (zup (zup (zup (zup (zup (zup (zup (zup P 31 (0 : Int).toNat 1) 31 (4 : Int).toNat (-E 4)) 31 (5 : Int).toNat (E 0)) 31 (8 : Int).toNat (E 4 * E 9 - E 5 * E 8)) 31 (9 : Int).toNat (E 4 * E 8 - E 0 * E 9)) 31 (10 : Int).toNat (E 0 * E 5 - E 4 * E 4)) 32 (0 : Int).toNat (E 0)) 32 (1 : Int).toNat (E 0 * E 5 - E 4 * E 4)) 32 (2 : Int).toNat (detS E nl (-1))) 33 (0 : Int).toNat t) 33 (0 : Int).toNat = (eR nl E t).lf (0 : Int).toNat ((zup (zup (zup (zup J 30 0 nl) 30 2 t) 30 3 0) 30 4 1) 35) ∧ (eR nl E t).st ≤ (eR nl E t).lf (0 : Int).toNat ((zup (zup (zup (zup J 30 0 nl) 30 2 t) 30 3 0) 30 4 1) 35) := ⟨by rw [zz]; rfl, ht.1⟩
  refine z_aload_n dX2_openRows_190 rfl rfl ?_
  refine c_iconst dX2_openRows_191 ?_
  refine z_callv (N := MX2_enter) (ci := 2) (nas := 1) (as := [_]) dX2_openRows_192 w_463 w_460 w_462 ws_5 w_5 (by decide +kernel) rfl rfl rfl (by decide) (Nat.le_of_ble_eq_true rfl) (by decide) (by decide) (ZC.mono (cMX2_enter (e := (eR nl E t)) (k := 0) hok ⟨by omega, by show (0 : Int) < ((nl.toNat : Nat) : Int); omega⟩ hJ9 hS9 hO9 hL9 (fun j hj => absurd hj (by omega))) ?_)
  rintro _ _ ⟨rfl, rfl⟩
  refine z_return dX2_openRows_195 rfl ?_
  subst hQ0
  have hf := EI_first (e := (eR nl E t)) (J := (zup (zup (zup (zup J 30 0 nl) 30 2 t) 30 3 0) 30 4 1)) (P := (zup (zup (zup (zup (zup (zup (zup (zup (zup (zup P 31 (0 : Int).toNat 1) 31 (4 : Int).toNat (-E 4)) 31 (5 : Int).toNat (E 0)) 31 (8 : Int).toNat (E 4 * E 9 - E 5 * E 8)) 31 (9 : Int).toNat (E 4 * E 8 - E 0 * E 9)) 31 (10 : Int).toNat (E 0 * E 5 - E 4 * E 4)) 32 (0 : Int).toNat (E 0)) 32 (1 : Int).toNat (E 0 * E 5 - E 4 * E 4)) 32 (2 : Int).toNat (detS E nl (-1))) 33 (0 : Int).toNat t)) hok rfl hJ9 hS9 hO9 hL9.2 hL9.1
  have r35 : (zup (zup (zup (zup J 30 0 nl) 30 2 t) 30 3 0) 30 4 1) 35 = J 35 := by rw [zup_ne (by decide), zup_ne (by decide), zup_ne (by decide), zup_ne (by decide)]
  have r36 : (zup (zup (zup (zup J 30 0 nl) 30 2 t) 30 3 0) 30 4 1) 36 = J 36 := by rw [zup_ne (by decide), zup_ne (by decide), zup_ne (by decide), zup_ne (by decide)]
  refine ⟨rfl, _, _, rfl, hf, ?_, fun a a1 a2 a3 => ?_, fun a a1 a2 a3 a4 => ?_⟩
  · have q5 : zup (zup (zup (zup (zup (zup (zup J 30 0 nl) 30 2 t) 30 3 0) 30 4 1) 30 1 0) 35 (0 : Int).toNat ((eR nl E t).hi (0 : Int).toNat ((zup (zup (zup (zup J 30 0 nl) 30 2 t) 30 3 0) 30 4 1) 35) + 1)) 36 (0 : Int).toNat ((eR nl E t).lo (0 : Int).toNat ((zup (zup (zup (zup J 30 0 nl) 30 2 t) 30 3 0) 30 4 1) 35)) 35 = upx (J 35) 0 ((eR nl E t).hi 0 (J 35) + 1) := by rw [zup_ne (by decide), zup_row, zup_ne (by decide), r35]; rfl
    have q6 : zup (zup (zup (zup (zup (zup (zup J 30 0 nl) 30 2 t) 30 3 0) 30 4 1) 30 1 0) 35 (0 : Int).toNat ((eR nl E t).hi (0 : Int).toNat ((zup (zup (zup (zup J 30 0 nl) 30 2 t) 30 3 0) 30 4 1) 35) + 1)) 36 (0 : Int).toNat ((eR nl E t).lo (0 : Int).toNat ((zup (zup (zup (zup J 30 0 nl) 30 2 t) 30 3 0) 30 4 1) 35)) 36 = upx (J 36) 0 ((eR nl E t).lo 0 (J 35)) := by rw [zup_row, zup_ne (by decide), zup_ne (by decide), r35, r36]; rfl
    rw [q5, q6]; exact rs_first hok
  · rw [zup_ne a3, zup_ne a2, zup_ne a1, zup_ne a1, zup_ne a1, zup_ne a1, zup_ne a1]
  · rw [zup_ne a4, zup_ne a3, zup_ne a2, zup_ne a2, zup_ne a2, zup_ne a1, zup_ne a1, zup_ne a1, zup_ne a1, zup_ne a1, zup_ne a1]
end Cls22
