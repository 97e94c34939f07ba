section Ref23
variable {g : ZG} {l : Launch} {Kd : ZK} {Rd : ZR} {n s0 : Nat} {J P : Nat → Nat → Int}
set_option maxHeartbeats 4000000 in
set_option maxRecDepth 100000 in
theorem cMX9_worth {s x y z w : Int} (hs : rI s) (hx : rI x) (hy : rI y) (hz : rI z) (hw : rI w) (hL : okJ J) : ZC g l MX9_worth [.ref 42, .int (iZ s), .int (iZ x), .int (iZ y), .int (iZ z), .int (iZ w)] (KF Kd, zi J, zj P, RF Rd, n, s0) (fun rr hh => ∃ J' P', hh = (KF Kd, zi J', zj P', RF Rd, n, s0) ∧ rr = some (.long (lZ (aWorth J s x y z w))) ∧ pq J J' ∧ pp P P') := by
  refine ZC.of (by decide) (Nat.le_of_ble_eq_true rfl) ?_
  generalize hQ0 : (fun rr hh => ∃ J' P', hh = (KF Kd, zi J', zj P', RF Rd, n, s0) ∧ rr = some (.long (lZ (aWorth J s x y z w))) ∧ pq J J' ∧ pp P P' : Option Value → ZH → Prop) = Q0
  show Z g l MX9_worth 0 [some (.ref 42), some (.int (iZ s)), some (.int (iZ x)), some (.int (iZ y)), some (.int (iZ z)), some (.int (iZ w)), none, none, none, none, none, none, none, none, none, none, none, none, none, none] [] (KF Kd, zi J, zj P, RF Rd, n, s0) Q0
  refine z_aload_n dX9_worth_0 rfl rfl ?_
  refine z_iload_n dX9_worth_1 rfl rfl ?_
  refine z_callv (N := MX9_hasForm) (ci := 9) (nas := 1) (as := [_]) dX9_worth_2 w_948 w_945 w_947 ws_28 w_8 (by decide +kernel) rfl rfl rfl (by decide) (Nat.le_of_ble_eq_true rfl) (by decide) (by decide) (ZC.mono (b_hasForm (by omega) hL) ?_)
  rintro _ _ ⟨b2, rfl, rfl, hb2⟩
  refine c_if_ne (tgt := 12) dX9_worth_5 (by decide) (by omega) (fun h5 => ?_) (fun h5 => ?_)
  · have g2 := (hb2.resolve_right (fun z => by have := z.1; omega)).2
    clear hb2
    have hfo := okJ_form hL (s := s) (by omega) (by omega)
    have hl4 := hfo.1
    have hE := hfo.2.1.1
    refine z_aload_n dX9_worth_12 rfl rfl ?_
    refine z_getR (ci := 9) (kf := 13) dX9_worth_13 rfl (by decide) (by decide) rfl w_789 rfl ?_
    refine c_iconst dX9_worth_16 ?_
    refine z_iload_n dX9_worth_17 rfl rfl ?_
    refine c_i2l dX9_worth_18 (by omega) ?_
    refine c_last dX9_worth_19 rfl (by omega) (by decide) ?_
    refine z_aload_n dX9_worth_20 rfl rfl ?_
    refine z_getR (ci := 9) (kf := 13) dX9_worth_21 rfl (by decide) (by decide) rfl w_789 rfl ?_
    refine c_iconst dX9_worth_24 ?_
    refine z_iload_n dX9_worth_25 rfl rfl ?_
    refine c_i2l dX9_worth_26 (by omega) ?_
    refine c_last dX9_worth_27 rfl (by omega) (by decide) ?_
    refine z_aload_n dX9_worth_28 rfl rfl ?_
    refine z_getR (ci := 9) (kf := 13) dX9_worth_29 rfl (by decide) (by decide) rfl w_789 rfl ?_
    refine c_iconst dX9_worth_32 ?_
    refine z_iload dX9_worth_33 rfl ?_
    refine c_i2l dX9_worth_35 (by omega) ?_
    refine c_last dX9_worth_36 rfl (by omega) (by decide) ?_
    refine z_aload_n dX9_worth_37 rfl rfl ?_
    refine z_getR (ci := 9) (kf := 13) dX9_worth_38 rfl (by decide) (by decide) rfl w_789 rfl ?_
    refine c_iconst dX9_worth_41 ?_
    refine z_iload dX9_worth_42 rfl ?_
    refine c_i2l dX9_worth_44 (by omega) ?_
    refine c_last dX9_worth_45 rfl (by omega) (by decide) ?_
    have hP5 : ∀ q : Nat, q < 4 → zup (zup (zup (zup P 51 (0 : Int).toNat x) 51 (1 : Int).toNat y) 51 (2 : Int).toNat z) 51 (3 : Int).toNat w 51 q = (xs4 x y z w) q := fun q hq => by rcases (show q = 0 ∨ q = 1 ∨ q = 2 ∨ q = 3 by omega) with e | e | e | e <;> subst e <;> simp [zup, xs4]
    have hPo : ∀ a, a ≠ 51 → zup (zup (zup (zup P 51 (0 : Int).toNat x) 51 (1 : Int).toNat y) 51 (2 : Int).toNat z) 51 (3 : Int).toNat w a = P a := fun a ha => by rw [zup_ne ha, zup_ne ha, zup_ne ha, zup_ne ha]
    generalize zup (zup (zup (zup P 51 (0 : Int).toNat x) 51 (1 : Int).toNat y) 51 (2 : Int).toNat z) 51 (3 : Int).toNat w = P1 at hP5 hPo ⊢
    have hxr : ∀ q, q < 4 → rI ((xs4 x y z w) q) := fun q hq => by rcases (show q = 0 ∨ q = 1 ∨ q = 2 ∨ q = 3 by omega) with e | e | e | e <;> subst e <;> assumption
    refine c_lconst0 dX9_worth_46 ?_
    refine z_lstore dX9_worth_47 (by decide) rfl ?_
    refine c_lconst0 dX9_worth_49 ?_
    refine z_lstore dX9_worth_50 (by decide) rfl ?_
    refine c_iconst dX9_worth_52 ?_
    refine z_istore dX9_worth_53 (by decide) rfl ?_
    have L55 : ∀ (m55 : Nat), ∀ (i sm al : Int), ((J 44 s.toNat) - i).toNat = m55 → (0 ≤ i ∧ i ≤ (J 44 s.toNat)) → (sm = qsum (eE J s) (xs4 x y z w) ((J 44 s.toNat)).toNat i.toNat) → (al = qsum (absF (eE J s)) (absF (xs4 x y z w)) ((J 44 s.toNat)).toNat i.toNat) → (0 ≤ al ∧ al ≤ 9223372036854775807) → Z g l MX9_worth 55 [some (.ref 42), some (.int (iZ s)), some (.int (iZ x)), some (.int (iZ y)), some (.int (iZ z)), some (.int (iZ w)), some (.long (lZ sm)), none, some (.long (lZ al)), none, some (.int (iZ i)), none, none, none, none, none, none, none, none, none] [] (KF Kd, zi J, zj P1, RF Rd, n, s0) Q0 := by
      intro m55
      induction m55 using Nat.strongRecOn with
      | ind m55 ih55 =>
        intro i sm al hm55 hi hsm hal hab
        refine z_iload dX9_worth_55 rfl ?_
        refine z_aload_n dX9_worth_57 rfl rfl ?_
        refine z_getR (ci := 9) (kf := 1) dX9_worth_58 rfl (by decide) (by decide) rfl w_777 rfl ?_
        refine z_iload_n dX9_worth_61 rfl rfl ?_
        refine c_iald dX9_worth_62 rfl (by omega) (by decide) ?_
        refine c_icmp_ge (tgt := 201) dX9_worth_63 (by decide) (by omega) (by omega) (fun h63 => ?_) (fun h63 => ?_)
        · refine z_lload dX9_worth_201 rfl ?_
          refine z_lreturn dX9_worth_203 rfl ?_
          subst hQ0; refine ⟨_, _, rfl, ?_, pq_refl _, fun a ha => hPo a (by omega)⟩; unfold aWorth; rw [show i.toNat = ((J 44 s.toNat)).toNat by omega] at hsm hal; rw [cif_pos (by omega), if_pos (by omega), hsm, qsum_wv (by omega) hl4 hfo.2.2.1 hfo.2.2.2]; rfl
        · refine c_iconst dX9_worth_66 ?_
          refine z_istore dX9_worth_67 (by decide) rfl ?_
          have L69 : ∀ (m69 : Nat), ∀ (j sm al : Int), ((J 44 s.toNat) - j).toNat = m69 → (0 ≤ j ∧ j ≤ (J 44 s.toNat)) → (sm = qsum (eE J s) (xs4 x y z w) ((J 44 s.toNat)).toNat i.toNat + rsum (eE J s) (xs4 x y z w) i.toNat j.toNat) → (al = qsum (absF (eE J s)) (absF (xs4 x y z w)) ((J 44 s.toNat)).toNat i.toNat + rsum (absF (eE J s)) (absF (xs4 x y z w)) i.toNat j.toNat) → (0 ≤ al ∧ al ≤ 9223372036854775807) → Z g l MX9_worth 69 [some (.ref 42), some (.int (iZ s)), some (.int (iZ x)), some (.int (iZ y)), some (.int (iZ z)), some (.int (iZ w)), some (.long (lZ sm)), none, some (.long (lZ al)), none, some (.int (iZ i)), some (.int (iZ j)), none, none, none, none, none, none, none, none] [] (KF Kd, zi J, zj P1, RF Rd, n, s0) Q0 := by
            intro m69
            induction m69 using Nat.strongRecOn with
            | ind m69 ih69 =>
              intro j sm al hm69 hj hsm hal hab
              refine z_iload dX9_worth_69 rfl ?_
              refine z_aload_n dX9_worth_71 rfl rfl ?_
              refine z_getR (ci := 9) (kf := 1) dX9_worth_72 rfl (by decide) (by decide) rfl w_777 rfl ?_
              refine z_iload_n dX9_worth_75 rfl rfl ?_
              refine c_iald dX9_worth_76 rfl (by omega) (by decide) ?_
              refine c_icmp_ge (tgt := 195) dX9_worth_77 (by decide) (by omega) (by omega) (fun h77 => ?_) (fun h77 => ?_)
              · refine c_iinc dX9_worth_195 rfl (by decide) rfl ?_
                refine z_goto (tgt := 55) dX9_worth_198 (by decide) ?_
                exact Z.fg2 (ih55 _ (by omega) _ _ _ rfl (by omega) (by rw [hsm, show (i + 1).toNat = i.toNat + 1 by omega, qsum, show j.toNat = ((J 44 s.toNat)).toNat by omega]) (by rw [hal, show (i + 1).toNat = i.toNat + 1 by omega, qsum, show j.toNat = ((J 44 s.toNat)).toNat by omega]) (by omega)) (zs1 rfl (zs1 rfl (zs1 rfl (zs1 rfl (zs1 rfl (zs1 rfl (zs1 rfl (zsn (zs1 rfl (zsn (zs1 rfl (zsn (zsn (zsn (zsn (zsn (zsn (zsn (zsn (zsn zs0))))))))))))))))))))
              · have haF : absF (eE J s) (4 * i.toNat + j.toNat) = (((eE J s) (4 * i.toNat + j.toNat)).natAbs : Int) := rfl
                have hen := hE (4 * i.toNat + j.toNat) (by omega)
                have hxi := hxr i.toNat (by omega)
                have hxj := hxr j.toNat (by omega)
                have hvb := mul_bd (a := (xs4 x y z w) i.toNat) (b := (xs4 x y z w) j.toNat) (A := 2147483648) (B := 2147483648) (by omega) (by omega) (by omega) (by omega)
                refine z_aload_n dX9_worth_80 rfl rfl ?_
                refine z_iload_n dX9_worth_81 rfl rfl ?_
                refine z_iload dX9_worth_82 rfl ?_
                refine z_iload dX9_worth_84 rfl ?_
                refine z_callv (N := MX9_entryAt) (ci := 9) (nas := 3) (as := [_, _, _]) dX9_worth_86 w_925 w_922 w_924 ws_25 w_8 (by decide +kernel) rfl rfl rfl (by decide) (Nat.le_of_ble_eq_true rfl) (by decide) (by decide) (ZC.mono (cMX9_entryAt (by omega)) ?_)
                rintro _ _ ⟨rfl, rfl⟩
                rw [show J 43 (16 * s + 4 * i + j).toNat = (eE J s) (4 * i.toNat + j.toNat) from eE_at (by omega) (by omega) (by omega)]
                refine c_i2l dX9_worth_89 (by omega) ?_
                refine z_lstore dX9_worth_90 (by decide) rfl ?_
                refine z_aload_n dX9_worth_92 rfl rfl ?_
                refine z_getR (ci := 9) (kf := 13) dX9_worth_93 rfl (by decide) (by decide) rfl w_789 rfl ?_
                refine z_iload dX9_worth_96 rfl ?_
                refine c_lald dX9_worth_98 rfl (by omega) (by decide) ?_
                rw [hP5 i.toNat (by omega)]
                refine z_aload_n dX9_worth_99 rfl rfl ?_
                refine z_getR (ci := 9) (kf := 13) dX9_worth_100 rfl (by decide) (by decide) rfl w_789 rfl ?_
                refine z_iload dX9_worth_103 rfl ?_
                refine c_lald dX9_worth_105 rfl (by omega) (by decide) ?_
                rw [hP5 j.toNat (by omega)]
                refine c_lmul dX9_worth_106 ?_
                refine z_lstore dX9_worth_107 (by decide) rfl ?_
                have L124 : ∀ (v0 : Int), (v0 = ((((xs4 x y z w) i.toNat * (xs4 x y z w) j.toNat)).natAbs : Int)) → Z g l MX9_worth 124 [some (.ref 42), some (.int (iZ s)), some (.int (iZ x)), some (.int (iZ y)), some (.int (iZ z)), some (.int (iZ w)), some (.long (lZ sm)), none, some (.long (lZ al)), none, some (.int (iZ i)), some (.int (iZ j)), some (.long (lZ ((eE J s) (4 * i.toNat + j.toNat)))), none, some (.long (lZ ((xs4 x y z w) i.toNat * (xs4 x y z w) j.toNat))), none, none, none, none, none] [.long (lZ v0)] (KF Kd, zi J, zj P1, RF Rd, n, s0) Q0 := by
                  intro v0 hv0
                  refine z_lstore dX9_worth_124 (by decide) rfl ?_
                  have L141 : ∀ (a0 : Int), (a0 = absF (eE J s) (4 * i.toNat + j.toNat)) → Z g l MX9_worth 141 [some (.ref 42), some (.int (iZ s)), some (.int (iZ x)), some (.int (iZ y)), some (.int (iZ z)), some (.int (iZ w)), some (.long (lZ sm)), none, some (.long (lZ al)), none, some (.int (iZ i)), some (.int (iZ j)), some (.long (lZ ((eE J s) (4 * i.toNat + j.toNat)))), none, some (.long (lZ ((xs4 x y z w) i.toNat * (xs4 x y z w) j.toNat))), none, some (.long (lZ v0)), none, none, none] [.long (lZ a0)] (KF Kd, zi J, zj P1, RF Rd, n, s0) Q0 := by
                    intro a0 ha0
                    refine z_lstore dX9_worth_141 (by decide) rfl ?_
                    have L169 : (a0 * v0 ≤ 9223372036854775807 - al) → Z g l MX9_worth 169 [some (.ref 42), some (.int (iZ s)), some (.int (iZ x)), some (.int (iZ y)), some (.int (iZ z)), some (.int (iZ w)), some (.long (lZ sm)), none, some (.long (lZ al)), none, some (.int (iZ i)), some (.int (iZ j)), some (.long (lZ ((eE J s) (4 * i.toNat + j.toNat)))), none, some (.long (lZ ((xs4 x y z w) i.toNat * (xs4 x y z w) j.toNat))), none, some (.long (lZ v0)), none, some (.long (lZ a0)), none] [] (KF Kd, zi J, zj P1, RF Rd, n, s0) Q0 := by
                      intro hle
                      refine z_lload dX9_worth_169 rfl ?_
                      refine z_lload dX9_worth_171 rfl ?_
                      refine z_lload dX9_worth_173 rfl ?_
                      refine c_lmul dX9_worth_175 ?_
                      refine c_ladd dX9_worth_176 ?_
                      refine z_lstore dX9_worth_177 (by decide) rfl ?_
                      refine z_lload dX9_worth_179 rfl ?_
                      refine z_lload dX9_worth_181 rfl ?_
                      refine z_lload dX9_worth_183 rfl ?_
                      refine c_lmul dX9_worth_185 ?_
                      refine c_ladd dX9_worth_186 ?_
                      refine z_lstore dX9_worth_187 (by decide) rfl ?_
                      refine c_iinc dX9_worth_189 rfl (by decide) rfl ?_
                      refine z_goto (tgt := 69) dX9_worth_192 (by decide) ?_
                      exact Z.fg2 (ih69 _ (by omega) _ _ _ rfl (by omega) (by rw [hsm, show (j + 1).toNat = j.toNat + 1 by omega, rsum, Int.add_assoc, Int.mul_assoc]) (by rw [hal, show (j + 1).toNat = j.toNat + 1 by omega, rsum, absF_mul hv0, ← ha0, Int.add_assoc]) (by have := Int.mul_nonneg (show 0 ≤ a0 by omega) (show 0 ≤ v0 by omega); omega)) (zs1 rfl (zs1 rfl (zs1 rfl (zs1 rfl (zs1 rfl (zs1 rfl (zs1 rfl (zsn (zs1 rfl (zsn (zs1 rfl (zs1 rfl (zsn (zsn (zsn (zsn (zsn (zsn (zsn (zsn zs0))))))))))))))))))))
                    refine z_lload dX9_worth_143 rfl ?_
                    refine c_lconst0 dX9_worth_145 ?_
                    refine c_lif_le (tgt := 169) dX9_worth_146 dX9_worth_147 (by decide) (by omega) (by omega) (fun h146 => ?_) (fun h146 => ?_)
                    · have hle : a0 * v0 ≤ 9223372036854775807 - al := by
                        have h0 : a0 = 0 := by omega
                        rw [h0, Int.zero_mul]; omega
                      exact Z.fg2 (L169  hle) (zs1 rfl (zs1 rfl (zs1 rfl (zs1 rfl (zs1 rfl (zs1 rfl (zs1 rfl (zsn (zs1 rfl (zsn (zs1 rfl (zs1 rfl (zs1 rfl (zsn (zs1 rfl (zsn (zs1 rfl (zsn (zs1 rfl (zsn zs0))))))))))))))))))))
                    · have h149 : 0 < a0 := by omega
                      refine z_lload dX9_worth_150 rfl ?_
                      refine c_ldc2 (z := 9223372036854775807) dX9_worth_152 w_980 (by decide) ?_
                      refine z_lload dX9_worth_155 rfl ?_
                      refine c_lsub dX9_worth_157 ?_
                      refine z_lload dX9_worth_158 rfl ?_
                      refine c_ldiv dX9_worth_160 (by omega) (by omega) (by omega) (by omega) ?_
                      refine c_lif_le (tgt := 169) dX9_worth_161 dX9_worth_162 (by decide) (by omega) (by have := tdiv_bd (a := 9223372036854775807 - al) (b := a0) (B := 9223372036854775807) (by omega) (by omega); omega) (fun h161 => ?_) (fun h161 => ?_)
                      · have hle : a0 * v0 ≤ 9223372036854775807 - al := by
                          have hd : v0 ≤ (9223372036854775807 - al).tdiv a0 := by omega
                          rw [Int.tdiv_eq_ediv_of_nonneg (by omega)] at hd
                          have := Int.mul_le_of_le_ediv h149 hd
                          rw [Int.mul_comm]; exact this
                        exact Z.fg2 (L169  hle) (zs1 rfl (zs1 rfl (zs1 rfl (zs1 rfl (zs1 rfl (zs1 rfl (zs1 rfl (zsn (zs1 rfl (zsn (zs1 rfl (zs1 rfl (zs1 rfl (zsn (zs1 rfl (zsn (zs1 rfl (zsn (zs1 rfl (zsn zs0))))))))))))))))))))
                      · have hbig : 9223372036854775807 - al < a0 * v0 := by
                          have hd : (9223372036854775807 - al).tdiv a0 < v0 := by omega
                          rw [Int.tdiv_eq_ediv_of_nonneg (by omega)] at hd
                          have := Int.lt_mul_of_ediv_lt h149 hd
                          rw [Int.mul_comm]; exact this
                        have htot := asum_le (E := (eE J s)) (x := (xs4 x y z w)) (n := ((J 44 s.toNat)).toNat) (i := i.toNat) (j := j.toNat + 1) (by omega) (by omega)
                        rw [show rsum (absF (eE J s)) (absF (xs4 x y z w)) i.toNat (j.toNat + 1) = rsum (absF (eE J s)) (absF (xs4 x y z w)) i.toNat j.toNat + absF (eE J s) (4 * i.toNat + j.toNat) * absF (xs4 x y z w) i.toNat * absF (xs4 x y z w) j.toNat from rfl, absF_mul hv0, ← ha0] at htot
                        refine c_ldc2 (z := -6) dX9_worth_165 w_981 (by decide) ?_
                        refine z_lreturn dX9_worth_168 rfl ?_
                        subst hQ0; refine ⟨_, _, rfl, ?_, pq_refl _, fun a ha => hPo a (by omega)⟩; unfold aWorth; rw [cif_pos (by omega), if_neg (by omega)]
                  refine z_lload dX9_worth_126 rfl ?_
                  refine c_lconst0 dX9_worth_128 ?_
                  refine c_lif_ge (tgt := 139) dX9_worth_129 dX9_worth_130 (by decide) (by omega) (by omega) (fun h129 => ?_) (fun h129 => ?_)
                  · refine z_lload dX9_worth_139 rfl ?_
                    exact Z.fg2 (L141 _ (by unfold absF; omega)) (zs1 rfl (zs1 rfl (zs1 rfl (zs1 rfl (zs1 rfl (zs1 rfl (zs1 rfl (zsn (zs1 rfl (zsn (zs1 rfl (zs1 rfl (zs1 rfl (zsn (zs1 rfl (zsn (zs1 rfl (zsn (zsn (zsn zs0))))))))))))))))))))
                  · refine z_lload dX9_worth_133 rfl ?_
                    refine c_lneg dX9_worth_135 ?_
                    refine z_goto (tgt := 141) dX9_worth_136 (by decide) ?_
                    exact Z.fg2 (L141 _ (by unfold absF; omega)) (zs1 rfl (zs1 rfl (zs1 rfl (zs1 rfl (zs1 rfl (zs1 rfl (zs1 rfl (zsn (zs1 rfl (zsn (zs1 rfl (zs1 rfl (zs1 rfl (zsn (zs1 rfl (zsn (zs1 rfl (zsn (zsn (zsn zs0))))))))))))))))))))
                refine z_lload dX9_worth_109 rfl ?_
                refine c_lconst0 dX9_worth_111 ?_
                refine c_lif_ge (tgt := 122) dX9_worth_112 dX9_worth_113 (by decide) (by omega) (by omega) (fun h112 => ?_) (fun h112 => ?_)
                · refine z_lload dX9_worth_122 rfl ?_
                  exact Z.fg2 (L124 _ (by omega)) (zs1 rfl (zs1 rfl (zs1 rfl (zs1 rfl (zs1 rfl (zs1 rfl (zs1 rfl (zsn (zs1 rfl (zsn (zs1 rfl (zs1 rfl (zs1 rfl (zsn (zs1 rfl (zsn (zsn (zsn (zsn (zsn zs0))))))))))))))))))))
                · refine z_lload dX9_worth_116 rfl ?_
                  refine c_lneg dX9_worth_118 ?_
                  refine z_goto (tgt := 124) dX9_worth_119 (by decide) ?_
                  exact Z.fg2 (L124 _ (by omega)) (zs1 rfl (zs1 rfl (zs1 rfl (zs1 rfl (zs1 rfl (zs1 rfl (zs1 rfl (zsn (zs1 rfl (zsn (zs1 rfl (zs1 rfl (zs1 rfl (zsn (zs1 rfl (zsn (zsn (zsn (zsn (zsn zs0))))))))))))))))))))
          exact Z.fg2 (L69 _ _ _ _ rfl (by omega) (by rw [hsm]; exact (Int.add_zero _).symm) (by rw [hal]; exact (Int.add_zero _).symm) (by omega)) (zs1 rfl (zs1 rfl (zs1 rfl (zs1 rfl (zs1 rfl (zs1 rfl (zs1 rfl (zsn (zs1 rfl (zsn (zs1 rfl (zs1 rfl (zsn (zsn (zsn (zsn (zsn (zsn (zsn (zsn zs0))))))))))))))))))))
    exact Z.fg2 (L55 _ 0 0 0 rfl (by omega) rfl rfl (by omega)) (zs1 rfl (zs1 rfl (zs1 rfl (zs1 rfl (zs1 rfl (zs1 rfl (zs1 rfl (zsn (zs1 rfl (zsn (zs1 rfl (zsn (zsn (zsn (zsn (zsn (zsn (zsn (zsn (zsn zs0))))))))))))))))))))
  · have g2 := (hb2.resolve_left (fun z => by have := z.1; omega)).2
    clear hb2
    refine c_ldc2 (z := -1) dX9_worth_8 w_979 (by decide) ?_
    refine z_lreturn dX9_worth_11 rfl ?_
    subst hQ0; refine ⟨_, _, rfl, ?_⟩; unfold aWorth; rw [cif_neg (by omega)]; exact ⟨rfl, pq_refl _, pp_refl _⟩
end Ref23
