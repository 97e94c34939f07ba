section Cls12
variable {g : ZG} {l : Launch} {Kd : ZK} {Rd : ZR} {n s0 c : Nat} {A J P : Nat → Nat → Int}
theorem carry {a m : Int} (hm : 0 < m) : (a % m + 1 < m → (a + 1) % m = a % m + 1 ∧ (a + 1) / m = a / m) ∧ (¬ (a % m + 1 < m) → (a + 1) % m = 0 ∧ (a + 1) / m = a / m + 1) := by
  have d := Int.mul_ediv_add_emod a m
  have r0 := Int.emod_nonneg a (show m ≠ 0 by omega)
  have r1 := Int.emod_lt_of_pos a hm
  have cm : m * (a / m) = a / m * m := Int.mul_comm _ _
  refine ⟨fun h => ?_, fun h => ?_⟩
  · have e : a + 1 = (a % m + 1) + a / m * m := by omega
    constructor
    · rw [e, Int.add_mul_emod_self_right, Int.emod_eq_of_lt (by omega) h]
    · rw [show (a + 1) / m = ((a % m + 1) + a / m * m) / m by rw [← e], Int.add_mul_ediv_right _ _ (by omega), Int.ediv_eq_zero_of_lt (by omega) h]; omega
  · have e : a + 1 = 0 + (a / m + 1) * m := by rw [Int.add_mul, Int.one_mul]; omega
    constructor
    · rw [e, Int.add_mul_emod_self_right]; exact Int.zero_emod m
    · rw [show (a + 1) / m = (0 + (a / m + 1) * m) / m by rw [← e], Int.add_mul_ediv_right _ _ (by omega), Int.zero_ediv]; omega
theorem lft_from {m c d : Int} {k : Nat} (h : lft m c k = lft m d k) : ∀ j : Nat, lft m c (k + j) = lft m d (k + j)
  | 0 => h
  | j + 1 => by
    show (lft m c (k + j)).tdiv m = (lft m d (k + j)).tdiv m
    rw [lft_from h j]
theorem rest_end {nl m : Int} {E : Nat → Int} {bits : Nat} (hm : 2 ≤ m ∧ m ≤ 16) (hn : 1 ≤ nl ∧ nl ≤ 4) (hp : ∀ x, 0 ≤ wv E x) (hsub : ∀ r, bits.testBit r = true → (restS nl E m).testBit r = true) (h : (∀ c w : Int, 0 ≤ c → c < m ^ (nl - 1).toNat → 0 ≤ w → w < m → bits.testBit ((wv E (dgV nl m (c + w * m ^ (nl - 1).toNat))) % m).toNat = true) ∨ (bits : Int) = ((2 ^ m.toNat : Nat) : Int) - 1) : bits = restS nl E m := by
  refine Nat.eq_of_testBit_eq (fun r => ?_)
  rw [Bool.eq_iff_iff]
  refine ⟨hsub r, fun hr => ?_⟩
  rcases h with h | h
  · obtain ⟨c, w, h1, h2, h3, h4, h5⟩ := (rest_bit hm hn hp r).mp hr
    rw [← h5]; exact h c w h1 h2 h3 h4
  · have hs := rest_small hm hp hr
    have e : bits = 2 ^ m.toNat - 1 := by omega
    rw [e, Nat.testBit_two_pow_sub_one]
    exact decide_eq_true (by omega)
theorem rsum_cgE {E F X : Nat → Int} {i : Nat} (hi : i < 4) (h : ∀ k, k < 16 → E k = F k) : ∀ k : Nat, k ≤ 4 → rsum E X i k = rsum F X i k
  | 0, _ => rfl
  | k + 1, hk => by unfold rsum; rw [rsum_cgE hi h k (by omega), h (4 * i + k) (by omega)]
theorem qsum_cgE {E F X : Nat → Int} {z : Nat} (h : ∀ k, k < 16 → E k = F k) (hz : z ≤ 4) : ∀ k : Nat, k ≤ 4 → qsum E X z k = qsum F X z k
  | 0, _ => rfl
  | k + 1, hk => by unfold qsum; rw [qsum_cgE h hz k (by omega), rsum_cgE (by omega) h z hz]
theorem ssum_cgE {E F X : Nat → Int} {i : Nat} (h : ∀ k, k < 16 → E k = F k) (hi : i < 4) : ∀ k : Nat, k ≤ 4 → ssum E X i k = ssum F X i k
  | 0, _ => rfl
  | k + 1, hk => by unfold ssum; rw [ssum_cgE h hi k (by omega), h (4 * i + k) (by omega)]
theorem lft_z0 {m : Int} : ∀ i : Nat, lft m 0 i = 0
  | 0 => rfl
  | i + 1 => by show (lft m 0 i).tdiv m = 0; rw [lft_z0 i, Int.zero_tdiv]
theorem k_fill {a len : Nat} {v : Int} (hK : KF Kd a = (1, len)) (hl : (len : Int) ≤ 2147483647) : ZC g l MJ7_fill_53178 [.ref a, .int (iZ v)] (KF Kd, zi J, zj P, RF Rd, n, s0) (fun rr hh => rr = none ∧ ∃ J' : Nat → Nat → Int, hh = (KF Kd, zi J', zj P, RF Rd, n, s0) ∧ (∀ q, q < len → J' a q = v) ∧ ∀ b, b ≠ a → J' b = J b) := by
  refine ZC.mono (cMJ7_fill_53178 hK hl) ?_
  rintro _ _ ⟨rfl, rfl⟩
  exact ⟨rfl, _, rfl, fun q hq => if_pos ⟨rfl, hq⟩, fun b hb => by funext q; exact if_neg (fun z => hb z.1)⟩
theorem k_fillB {a len : Nat} {v : Int} (hK : KF Kd a = (3, len)) (hl : (len : Int) ≤ 2147483647) : ZC g l MJ7_fill_031fb [.ref a, .int (iZ v)] (KF Kd, zi J, zj P, RF Rd, n, s0) (fun rr hh => rr = none ∧ ∃ J' : Nat → Nat → Int, hh = (KF Kd, zi J', zj P, RF Rd, n, s0) ∧ (∀ q, q < len → J' a q = v.bmod 256) ∧ ∀ b, b ≠ a → J' b = J b) := by
  refine ZC.mono (cMJ7_fill_031fb hK hl) ?_
  rintro _ _ ⟨rfl, rfl⟩
  exact ⟨rfl, _, rfl, fun q hq => if_pos ⟨rfl, hq⟩, fun b hb => by funext q; exact if_neg (fun z => hb z.1)⟩
set_option maxHeartbeats 4000000 in
set_option maxRecDepth 100000 in
theorem cMX4_worthAhead {z : Int} {r e : Nat} (hK : (KF Kd r).1 = 13) (hR : RF Rd r 1 = some e) (hKe : KF Kd e = (1, 16)) (hre : 66 ≤ r ∧ 66 ≤ e) (hz : 0 ≤ z ∧ z ≤ 3) : ZC g l MX4_worthAhead [.ref 37, .ref r, .int (iZ z)] (KF Kd, zi J, zj P, RF Rd, n, s0) (fun rr hh => rr = some (.int (iZ (qsum (J e) (J 38) z.toNat z.toNat))) ∧ hh = (KF Kd, zi J, zj P, RF Rd, n, s0)) := by
  refine ZC.of (by decide) (Nat.le_of_ble_eq_true rfl) ?_
  generalize hQ0 : (fun rr hh => rr = some (.int (iZ (qsum (J e) (J 38) z.toNat z.toNat))) ∧ hh = (KF Kd, zi J, zj P, RF Rd, n, s0) : Option Value → ZH → Prop) = Q0
  show Z g l MX4_worthAhead 0 [some (.ref 37), some (.ref r), some (.int (iZ z)), none, none, none] [] (KF Kd, zi J, zj P, RF Rd, n, s0) Q0
  refine c_iconst dX4_worthAhead_0 ?_
  refine z_istore_n dX4_worthAhead_1 rfl (by decide) rfl ?_
  refine c_iconst dX4_worthAhead_2 ?_
  refine z_istore dX4_worthAhead_3 (by decide) rfl ?_
  have L5 : ∀ (m5 : Nat), ∀ (i s : Int), (z - i).toNat = m5 → (0 ≤ i ∧ i ≤ z) → (s = qsum (J e) (J 38) z.toNat i.toNat) → Z g l MX4_worthAhead 5 [some (.ref 37), some (.ref r), some (.int (iZ z)), some (.int (iZ s)), some (.int (iZ i)), none] [] (KF Kd, zi J, zj P, RF Rd, n, s0) Q0 := by
    intro m5
    induction m5 using Nat.strongRecOn with
    | ind m5 ih5 =>
      intro i s hm5 hi hs
      refine z_iload dX4_worthAhead_5 rfl ?_
      refine z_iload_n dX4_worthAhead_7 rfl rfl ?_
      refine c_icmp_ge (tgt := 63) dX4_worthAhead_8 (by decide) (by omega) (by omega) (fun h8 => ?_) (fun h8 => ?_)
      · refine z_iload_n dX4_worthAhead_63 rfl rfl ?_
        refine c_ireturn dX4_worthAhead_64 rfl ?_
        subst hQ0; refine ⟨?_, rfl⟩; rw [hs, show i = z by omega]
      · refine c_iconst dX4_worthAhead_11 ?_
        refine z_istore dX4_worthAhead_12 (by decide) rfl ?_
        have L14 : ∀ (m14 : Nat), ∀ (j s : Int), (z - j).toNat = m14 → (0 ≤ j ∧ j ≤ z) → (s = qsum (J e) (J 38) z.toNat i.toNat + rsum (J e) (J 38) i.toNat j.toNat) → Z g l MX4_worthAhead 14 [some (.ref 37), some (.ref r), some (.int (iZ z)), some (.int (iZ s)), some (.int (iZ i)), some (.int (iZ j))] [] (KF Kd, zi J, zj P, RF Rd, n, s0) Q0 := by
          intro m14
          induction m14 using Nat.strongRecOn with
          | ind m14 ih14 =>
            intro j s hm14 hj hs2
            refine z_iload dX4_worthAhead_14 rfl ?_
            refine z_iload_n dX4_worthAhead_16 rfl rfl ?_
            refine c_icmp_ge (tgt := 57) dX4_worthAhead_17 (by decide) (by omega) (by omega) (fun h17 => ?_) (fun h17 => ?_)
            · refine c_iinc dX4_worthAhead_57 rfl (by decide) rfl ?_
              refine z_goto (tgt := 5) dX4_worthAhead_60 (by decide) ?_
              exact Z.fg2 (ih5 _ (by omega) _ _ rfl (by omega) (by rw [hs2, show j.toNat = z.toNat by omega, show (i + 1).toNat = i.toNat + 1 by omega]; rfl)) (zs1 rfl (zs1 rfl (zs1 rfl (zs1 rfl (zs1 rfl (zsn zs0))))))
            · refine z_iload_n dX4_worthAhead_20 rfl rfl ?_
              refine z_aload_n dX4_worthAhead_21 rfl rfl ?_
              refine z_getR (ci := 3) (kf := 1) dX4_worthAhead_22 hK (by decide) (by decide) rfl w_284 hR ?_
              refine c_iconst dX4_worthAhead_25 ?_
              refine z_iload dX4_worthAhead_26 rfl ?_
              refine c_imul dX4_worthAhead_28 ?_
              refine z_iload dX4_worthAhead_29 rfl ?_
              refine c_iadd dX4_worthAhead_31 ?_
              refine c_iald dX4_worthAhead_32 hKe (by omega) (by decide) ?_
              rw [show (4 * i + j).toNat = 4 * i.toNat + j.toNat by omega]
              refine z_aload_n dX4_worthAhead_33 rfl rfl ?_
              refine z_getR (ci := 4) (kf := 0) dX4_worthAhead_34 rfl (by decide) (by decide) rfl w_153 rfl ?_
              refine z_iload dX4_worthAhead_37 rfl ?_
              refine c_iald dX4_worthAhead_39 rfl (by omega) (by decide) ?_
              refine c_imul dX4_worthAhead_40 ?_
              refine z_aload_n dX4_worthAhead_41 rfl rfl ?_
              refine z_getR (ci := 4) (kf := 0) dX4_worthAhead_42 rfl (by decide) (by decide) rfl w_153 rfl ?_
              refine z_iload dX4_worthAhead_45 rfl ?_
              refine c_iald dX4_worthAhead_47 rfl (by omega) (by decide) ?_
              refine c_imul dX4_worthAhead_48 ?_
              refine c_iadd dX4_worthAhead_49 ?_
              refine z_istore_n dX4_worthAhead_50 rfl (by decide) rfl ?_
              refine c_iinc dX4_worthAhead_51 rfl (by decide) rfl ?_
              refine z_goto (tgt := 14) dX4_worthAhead_54 (by decide) ?_
              exact Z.fg2 (ih14 _ (by omega) _ _ rfl (by omega) (by rw [hs2, show (j + 1).toNat = j.toNat + 1 by omega, show rsum (J e) (J 38) i.toNat (j.toNat + 1) = rsum (J e) (J 38) i.toNat j.toNat + J e (4 * i.toNat + j.toNat) * J 38 i.toNat * J 38 j.toNat from rfl]; omega)) (zs1 rfl (zs1 rfl (zs1 rfl (zs1 rfl (zs1 rfl (zs1 rfl zs0))))))
        exact Z.fg2 (L14 _ 0 _ rfl (by omega) (by rw [hs]; exact (Int.add_zero _).symm)) (zs1 rfl (zs1 rfl (zs1 rfl (zs1 rfl (zs1 rfl (zs1 rfl zs0))))))
  exact Z.fg2 (L5 _ 0 0 rfl (by omega) rfl) (zs1 rfl (zs1 rfl (zs1 rfl (zs1 rfl (zs1 rfl (zsn zs0))))))
set_option maxHeartbeats 4000000 in
set_option maxRecDepth 100000 in
theorem cMX4_slopeOf {z : Int} {r e : Nat} (hK : (KF Kd r).1 = 13) (hR : RF Rd r 1 = some e) (hKe : KF Kd e = (1, 16)) (hre : 66 ≤ r ∧ 66 ≤ e) (hz : 0 ≤ z ∧ z ≤ 3) : ZC g l MX4_slopeOf [.ref 37, .ref r, .int (iZ z)] (KF Kd, zi J, zj P, RF Rd, n, s0) (fun rr hh => rr = some (.int (iZ (ssum (J e) (J 38) z.toNat z.toNat))) ∧ hh = (KF Kd, zi J, zj P, RF Rd, n, s0)) := by
  refine ZC.of (by decide) (Nat.le_of_ble_eq_true rfl) ?_
  generalize hQ0 : (fun rr hh => rr = some (.int (iZ (ssum (J e) (J 38) z.toNat z.toNat))) ∧ hh = (KF Kd, zi J, zj P, RF Rd, n, s0) : Option Value → ZH → Prop) = Q0
  show Z g l MX4_slopeOf 0 [some (.ref 37), some (.ref r), some (.int (iZ z)), none, none] [] (KF Kd, zi J, zj P, RF Rd, n, s0) Q0
  refine c_iconst dX4_slopeOf_0 ?_
  refine z_istore_n dX4_slopeOf_1 rfl (by decide) rfl ?_
  refine c_iconst dX4_slopeOf_2 ?_
  refine z_istore dX4_slopeOf_3 (by decide) rfl ?_
  have L5 : ∀ (m5 : Nat), ∀ (j s : Int), (z - j).toNat = m5 → (0 ≤ j ∧ j ≤ z) → (s = ssum (J e) (J 38) z.toNat j.toNat) → Z g l MX4_slopeOf 5 [some (.ref 37), some (.ref r), some (.int (iZ z)), some (.int (iZ s)), some (.int (iZ j))] [] (KF Kd, zi J, zj P, RF Rd, n, s0) Q0 := by
    intro m5
    induction m5 using Nat.strongRecOn with
    | ind m5 ih5 =>
      intro j s hm5 hj hs
      refine z_iload dX4_slopeOf_5 rfl ?_
      refine z_iload_n dX4_slopeOf_7 rfl rfl ?_
      refine c_icmp_ge (tgt := 39) dX4_slopeOf_8 (by decide) (by omega) (by omega) (fun h8 => ?_) (fun h8 => ?_)
      · refine z_iload_n dX4_slopeOf_39 rfl rfl ?_
        refine c_ireturn dX4_slopeOf_40 rfl ?_
        subst hQ0; refine ⟨?_, rfl⟩; rw [hs, show j = z by omega]
      · refine z_iload_n dX4_slopeOf_11 rfl rfl ?_
        refine z_aload_n dX4_slopeOf_12 rfl rfl ?_
        refine z_getR (ci := 3) (kf := 1) dX4_slopeOf_13 hK (by decide) (by decide) rfl w_284 hR ?_
        refine c_iconst dX4_slopeOf_16 ?_
        refine z_iload_n dX4_slopeOf_17 rfl rfl ?_
        refine c_imul dX4_slopeOf_18 ?_
        refine z_iload dX4_slopeOf_19 rfl ?_
        refine c_iadd dX4_slopeOf_21 ?_
        refine c_iald dX4_slopeOf_22 hKe (by omega) (by decide) ?_
        rw [show (4 * z + j).toNat = 4 * z.toNat + j.toNat by omega]
        refine z_aload_n dX4_slopeOf_23 rfl rfl ?_
        refine z_getR (ci := 4) (kf := 0) dX4_slopeOf_24 rfl (by decide) (by decide) rfl w_153 rfl ?_
        refine z_iload dX4_slopeOf_27 rfl ?_
        refine c_iald dX4_slopeOf_29 rfl (by omega) (by decide) ?_
        refine c_imul dX4_slopeOf_30 ?_
        refine c_iadd dX4_slopeOf_31 ?_
        refine z_istore_n dX4_slopeOf_32 rfl (by decide) rfl ?_
        refine c_iinc dX4_slopeOf_33 rfl (by decide) rfl ?_
        refine z_goto (tgt := 5) dX4_slopeOf_36 (by decide) ?_
        exact Z.fg2 (ih5 _ (by omega) _ _ rfl (by omega) (by rw [hs, show (j + 1).toNat = j.toNat + 1 by omega]; rfl)) (zs1 rfl (zs1 rfl (zs1 rfl (zs1 rfl (zs1 rfl zs0)))))
  exact Z.fg2 (L5 _ 0 0 rfl (by omega) rfl) (zs1 rfl (zs1 rfl (zs1 rfl (zs1 rfl (zs1 rfl zs0)))))
set_option maxHeartbeats 4000000 in
set_option maxRecDepth 100000 in
theorem cMX4_countOn {z m w : Int} (hz : 0 ≤ z ∧ z ≤ 3) (hm : 2 ≤ m ∧ m ≤ 16) (hw : 0 ≤ w) (hx : ∀ i : Nat, (i : Int) < z → J 38 i = lft m w i % m) : ZC g l MX4_countOn [.ref 37, .int (iZ z), .int (iZ m)] (KF Kd, zi J, zj P, RF Rd, n, s0) (fun rr hh => rr = none ∧ ∃ J' : Nat → Nat → Int, hh = (KF Kd, zi J', zj P, RF Rd, n, s0) ∧ (∀ i : Nat, (i : Int) < z → J' 38 i = lft m (w + 1) i % m) ∧ (∀ i : Nat, z ≤ (i : Int) → J' 38 i = J 38 i) ∧ ∀ a, a ≠ 38 → J' a = J a) := by
  refine ZC.of (by decide) (Nat.le_of_ble_eq_true rfl) ?_
  generalize hQ0 : (fun rr hh => rr = none ∧ ∃ J' : Nat → Nat → Int, hh = (KF Kd, zi J', zj P, RF Rd, n, s0) ∧ (∀ i : Nat, (i : Int) < z → J' 38 i = lft m (w + 1) i % m) ∧ (∀ i : Nat, z ≤ (i : Int) → J' 38 i = J 38 i) ∧ ∀ a, a ≠ 38 → J' a = J a : Option Value → ZH → Prop) = Q0
  show Z g l MX4_countOn 0 [some (.ref 37), some (.int (iZ z)), some (.int (iZ m)), none] [] (KF Kd, zi J, zj P, RF Rd, n, s0) Q0
  refine c_iconst dX4_countOn_0 ?_
  refine z_istore_n dX4_countOn_1 rfl (by decide) rfl ?_
  have L2 : ∀ (m2 : Nat), ∀ (i : Int) (J1 : Nat → Nat → Int), (z - i).toNat = m2 → (0 ≤ i ∧ i ≤ z) → (lft m (w + 1) i.toNat = lft m w i.toNat + 1) → (∀ q : Nat, (q : Int) < i → J1 38 q = lft m (w + 1) q % m) → (∀ q : Nat, i ≤ (q : Int) → J1 38 q = J 38 q) → (∀ a, a ≠ 38 → J1 a = J a) → Z g l MX4_countOn 2 [some (.ref 37), some (.int (iZ z)), some (.int (iZ m)), some (.int (iZ i))] [] (KF Kd, zi J1, zj P, RF Rd, n, s0) Q0 := by
    intro m2
    induction m2 using Nat.strongRecOn with
    | ind m2 ih2 =>
      intro i J1 hm2 hi hc hlo hhi ho
      refine z_iload_n dX4_countOn_2 rfl rfl ?_
      refine z_iload_n dX4_countOn_3 rfl rfl ?_
      refine c_icmp_ge (tgt := 41) dX4_countOn_4 (by decide) (by omega) (by omega) (fun h4 => ?_) (fun h4 => ?_)
      · refine z_return dX4_countOn_41 rfl ?_
        subst hQ0
        exact ⟨rfl, _, rfl, fun q hq => hlo q (by omega), fun q hq => hhi q (by omega), ho⟩
      · refine z_aload_n dX4_countOn_7 rfl rfl ?_
        refine z_getR (ci := 4) (kf := 0) dX4_countOn_8 rfl (by decide) (by decide) rfl w_153 rfl ?_
        refine z_iload_n dX4_countOn_11 rfl rfl ?_
        refine z_dup2 dX4_countOn_12 rfl rfl ?_
        refine c_iald dX4_countOn_13 rfl (by omega) (by decide) ?_
        rw [hhi i.toNat (by omega), hx i.toNat (by omega)]
        have hcy := carry (a := lft m w i.toNat) (m := m) (by omega)
        have hr0 := Int.emod_nonneg (lft m w i.toNat) (show m ≠ 0 by omega)
        have hr1 := Int.emod_lt_of_pos (lft m w i.toNat) (show 0 < m by omega)
        refine c_iconst dX4_countOn_14 ?_
        refine c_iadd dX4_countOn_15 ?_
        refine c_iast dX4_countOn_16 rfl (by omega) (by decide) ?_
        refine z_aload_n dX4_countOn_17 rfl rfl ?_
        refine z_getR (ci := 4) (kf := 0) dX4_countOn_18 rfl (by decide) (by decide) rfl w_153 rfl ?_
        refine z_iload_n dX4_countOn_21 rfl rfl ?_
        refine c_iald dX4_countOn_22 rfl (by omega) (by decide) ?_
        rw [zz]
        refine z_iload_n dX4_countOn_23 rfl rfl ?_
        refine c_icmp_ge (tgt := 28) dX4_countOn_24 (by decide) (by omega) (by omega) (fun h24 => ?_) (fun h24 => ?_)
        · refine z_aload_n dX4_countOn_28 rfl rfl ?_
          refine z_getR (ci := 4) (kf := 0) dX4_countOn_29 rfl (by decide) (by decide) rfl w_153 rfl ?_
          refine z_iload_n dX4_countOn_32 rfl rfl ?_
          refine c_iconst dX4_countOn_33 ?_
          refine c_iast dX4_countOn_34 rfl (by omega) (by decide) ?_
          refine c_iinc dX4_countOn_35 rfl (by decide) rfl ?_
          refine z_goto (tgt := 2) dX4_countOn_38 (by decide) ?_
          exact Z.fg2 (ih2 _ (by omega) _ _ rfl (by omega) (by rw [show (i + 1).toNat = i.toNat + 1 by omega, lft_succ (by omega) (by omega), lft_succ (by omega) hw, hc]; exact (hcy.2 (by omega)).2) (fun q hq => by by_cases e : q = i.toNat; (subst e; rw [zz, hc]; exact ((hcy.2 (by omega)).1).symm); (rw [zzi e, zzi e]; exact hlo q (by omega))) (fun q hq => by rw [zzi (by omega), zzi (by omega)]; exact hhi q (by omega)) (fun a ha => by rw [zup_ne ha, zup_ne ha]; exact ho a ha)) (zs1 rfl (zs1 rfl (zs1 rfl (zs1 rfl zs0))))
        · refine z_return dX4_countOn_27 rfl ?_
          subst hQ0
          have hc2 := hcy.1 (by omega)
          have hl1 : lft m (w + 1) (i.toNat + 1) = lft m w (i.toNat + 1) := by rw [lft_succ (by omega) (by omega), lft_succ (by omega) hw, hc]; exact hc2.2
          refine ⟨rfl, _, rfl, fun q hq => ?_, fun q hq => ?_, fun a ha => by rw [zup_ne ha]; exact ho a ha⟩
          · by_cases e : q = i.toNat
            · subst e; rw [zz, hc]; exact hc2.1.symm
            · rw [zzi e]
              by_cases e2 : (q : Int) < i
              · exact hlo q e2
              · rw [hhi q (by omega), hx q hq]
                have := lft_from hl1 (q - (i.toNat + 1))
                rw [show i.toNat + 1 + (q - (i.toNat + 1)) = q by omega] at this
                rw [this]
          · rw [zzi (by omega)]; exact hhi q (by omega)
  exact Z.fg2 (L2 _ 0 _ rfl (by omega) rfl (fun q hq => absurd hq (by omega)) (fun _ _ => rfl) (fun _ _ => rfl)) (zs1 rfl (zs1 rfl (zs1 rfl (zs1 rfl zs0))))
set_option maxHeartbeats 4000000 in
set_option maxRecDepth 100000 in
theorem cMX4_foundBits {nl m : Int} {E : Nat → Int} {r e : Nat} (hK : (KF Kd r).1 = 13) (hR : RF Rd r 1 = some e) (hKe : KF Kd e = (1, 16)) (hre : 66 ≤ r ∧ 66 ≤ e) (hnl : J r 0 = nl) (hEe : ∀ k, k < 16 → J e k = E k) (hn : 1 ≤ nl) (hO : okF nl E) (hm : 2 ≤ m ∧ m ≤ 16) : ZC g l MX4_foundBits [.ref 37, .ref r, .int (iZ m)] (KF Kd, zi J, zj P, RF Rd, n, s0) (fun rr hh => ∃ J' : Nat → Nat → Int, hh = (KF Kd, zi J', zj P, RF Rd, n, s0) ∧ rr = some (.int (iZ ((restS nl E m : Nat) : Int))) ∧ ∀ a, a ≠ 38 → a ≠ 39 → J' a = J a) := by
  refine ZC.of (by decide) (Nat.le_of_ble_eq_true rfl) ?_
  generalize hQ0 : (fun rr hh => ∃ J' : Nat → Nat → Int, hh = (KF Kd, zi J', zj P, RF Rd, n, s0) ∧ rr = some (.int (iZ ((restS nl E m : Nat) : Int))) ∧ ∀ a, a ≠ 38 → a ≠ 39 → J' a = J a : Option Value → ZH → Prop) = Q0
  show Z g l MX4_foundBits 0 [some (.ref 37), some (.ref r), some (.int (iZ m)), none, none, none, none, none, none, none, none, none] [] (KF Kd, zi J, zj P, RF Rd, n, s0) Q0
  have h4 := hO.1
  have hpos := okF_pos hn hO
  have hP1 := Int.pow_pos (n := m) (m := (nl - 1).toNat) (by omega)
  refine z_aload_n dX4_foundBits_0 rfl rfl ?_
  refine z_getR (ci := 4) (kf := 1) dX4_foundBits_1 rfl (by decide) (by decide) rfl w_154 rfl ?_
  refine c_iconst dX4_foundBits_4 ?_
  refine z_calls (N := MJ7_fill_031fb) (nas := 2) (as := [_, _]) dX4_foundBits_5 w_526 w_524 w_525 w_9 (by decide +kernel) rfl rfl (Nat.le_of_ble_eq_true rfl) (by decide) (by decide) (ZC.mono (k_fillB (a := 39) (len := 256) (v := 0) rfl (by decide)) ?_)
  rintro _ _ ⟨rfl, J5, rfl, h5a, h5c⟩
  refine z_aload_n dX4_foundBits_8 rfl rfl ?_
  refine z_getR (ci := 4) (kf := 0) dX4_foundBits_9 rfl (by decide) (by decide) rfl w_153 rfl ?_
  refine c_iconst dX4_foundBits_12 ?_
  refine z_calls (N := MJ7_fill_53178) (nas := 2) (as := [_, _]) dX4_foundBits_13 w_226 w_527 w_225 w_9 (by decide +kernel) rfl rfl (Nat.le_of_ble_eq_true rfl) (by decide) (by decide) (ZC.mono (k_fill (a := 38) (len := 4) (v := 0) rfl (by decide)) ?_)
  rintro _ _ ⟨rfl, J0, rfl, h0a, h0c⟩
  have hJ0x : ∀ i, i < 4 → J0 38 i = 0 := fun i hi => h0a i hi
  have hJ0s : ∀ q, q < 256 → J0 39 q = 0 := fun q hq => by rw [h0c 39 (by decide)]; exact h5a q hq
  have hJ0o : ∀ a, a ≠ 38 → a ≠ 39 → J0 a = J a := fun a a1 a2 => by rw [h0c a a1]; exact h5c a a2
  have hPb := allS_bd (nl := nl) hm
  rw [allS_pow ⟨hn, h4⟩] at hPb
  have hPc := Int.mul_le_mul_of_nonneg_left (show 1 ≤ m by omega) (show 0 ≤ m ^ (nl - 1).toNat by omega)
  rw [Int.mul_one] at hPc
  obtain ⟨sq, hsq⟩ : ∃ sq, E (4 * (nl - 1).toNat + (nl - 1).toNat) = sq := ⟨_, rfl⟩
  have hdg := (PDQ_two (okF_PDQ hn hO) (symT_pad hO.2.2.1) (i := (nl - 1).toNat) (j := if (nl - 1).toNat = 0 then 1 else 0) (by omega) (by split <;> omega) (by split <;> omega)).1
  rw [padT_in (by omega), hsq] at hdg
  have hd9 := hO.2.1.1 (4 * (nl - 1).toNat + (nl - 1).toNat) (by omega)
  rw [hsq] at hd9
  refine z_aload_n dX4_foundBits_16 rfl rfl ?_
  refine c_getI (ci := 3) (kf := 0) dX4_foundBits_17 hK (by decide) (by decide) rfl w_278 ?_
  rw [hJ0o r (by omega) (by omega), hnl]
  refine c_iconst dX4_foundBits_20 ?_
  refine c_isub dX4_foundBits_21 ?_
  refine z_istore_n dX4_foundBits_22 rfl (by decide) rfl ?_
  refine c_iconst dX4_foundBits_23 ?_
  refine z_iload_n dX4_foundBits_24 rfl rfl ?_
  refine z_ishl dX4_foundBits_25 ?_
  rw [iZ_sh (by omega) (by omega)]
  refine c_iconst dX4_foundBits_26 ?_
  refine c_isub dX4_foundBits_27 ?_
  refine z_istore dX4_foundBits_28 (by decide) rfl ?_
  refine c_iconst dX4_foundBits_30 ?_
  refine z_istore dX4_foundBits_31 (by decide) rfl ?_
  refine c_iconst dX4_foundBits_33 ?_
  refine z_istore dX4_foundBits_34 (by decide) rfl ?_
  refine c_iconst dX4_foundBits_36 ?_
  refine z_istore dX4_foundBits_37 (by decide) rfl ?_
  have L39 : ∀ (m39 : Nat), ∀ (i wy : Int), (nl - 1 - i).toNat = m39 → (0 ≤ i ∧ i ≤ nl - 1) → (wy = m ^ i.toNat) → Z g l MX4_foundBits 39 [some (.ref 37), some (.ref r), some (.int (iZ m)), some (.int (iZ (nl - 1))), some (.int (iZ (((2 ^ m.toNat : Nat) : Int) - 1))), some (.int (iZ 0)), some (.int (iZ wy)), some (.int (iZ i)), none, none, none, none] [] (KF Kd, zi J0, zj P, RF Rd, n, s0) Q0 := by
    intro m39
    induction m39 using Nat.strongRecOn with
    | ind m39 ih39 =>
      intro i wy hm39 hi hwy
      refine z_iload dX4_foundBits_39 rfl ?_
      refine z_iload_n dX4_foundBits_41 rfl rfl ?_
      refine c_icmp_ge (tgt := 57) dX4_foundBits_42 (by decide) (by omega) (by omega) (fun h42 => ?_) (fun h42 => ?_)
      · rw [show wy = m ^ (nl - 1).toNat by rw [hwy, show i = nl - 1 by omega]]
        refine c_iconst dX4_foundBits_57 ?_
        refine z_istore dX4_foundBits_58 (by decide) rfl ?_
        have L60 : ∀ (m60 : Nat), ∀ (way : Int) (bits : Nat) (J1 : Nat → Nat → Int), (m ^ (nl - 1).toNat - way).toNat = m60 → (0 ≤ way ∧ way ≤ m ^ (nl - 1).toNat) → (bits < 65536) → (∀ i : Nat, (i : Int) < nl - 1 → J1 38 i = lft m way i % m) → (∀ i : Nat, nl - 1 ≤ (i : Int) → i < 4 → J1 38 i = 0) → (∀ r, bits.testBit r = true → (restS nl E m).testBit r = true) → (∀ b s : Nat, (b : Int) < m → (s : Int) < m → J1 39 (16 * b + s) ≠ 0 → ∀ v : Int, 0 ≤ v → v < m → bits.testBit (vrm m b s sq v) = true) → (∀ cc v : Int, 0 ≤ cc → cc < way → 0 ≤ v → v < m → bits.testBit ((wv E (dgV nl m (cc + v * m ^ (nl - 1).toNat))) % m).toNat = true) → (∀ q, q < 256 → J1 39 q = 0 ∨ J1 39 q = 1) → (∀ a, a ≠ 38 → a ≠ 39 → J1 a = J a) → Z g l MX4_foundBits 60 [some (.ref 37), some (.ref r), some (.int (iZ m)), some (.int (iZ (nl - 1))), some (.int (iZ (((2 ^ m.toNat : Nat) : Int) - 1))), some (.int (iZ (bits : Int))), some (.int (iZ (m ^ (nl - 1).toNat))), some (.int (iZ way)), none, none, none, none] [] (KF Kd, zi J1, zj P, RF Rd, n, s0) Q0 := by
          intro m60
          induction m60 using Nat.strongRecOn with
          | ind m60 ih60 =>
            intro way bits J1 hm60 hw hb hx hx0 hsub hseen hway hsv ho
            refine z_iload dX4_foundBits_60 rfl ?_
            refine z_iload dX4_foundBits_62 rfl ?_
            refine c_icmp_ge (tgt := 195) dX4_foundBits_64 (by decide) (by omega) (by omega) (fun h64 => ?_) (fun h64 => ?_)
            · have hfin := rest_end hm ⟨hn, h4⟩ hpos hsub (Or.inl (fun cc v a1 a2 a3 a4 => hway cc v a1 (by omega) a3 a4))
              refine z_iload dX4_foundBits_195 rfl ?_
              refine c_ireturn dX4_foundBits_197 rfl ?_
              subst hQ0
              exact ⟨J1, rfl, by rw [hfin], ho⟩
            · refine z_iload dX4_foundBits_67 rfl ?_
              refine z_iload dX4_foundBits_69 rfl ?_
              have h65 : (2 ^ m.toNat : Nat) ≤ 2 ^ 16 := Nat.pow_le_pow_right (by omega) (by omega)
              simp only [Nat.reducePow] at h65
              have h66 : 0 < (2 ^ m.toNat : Nat) := Nat.two_pow_pos _
              refine c_icmp_eq (tgt := 195) dX4_foundBits_71 (by decide) (by omega) (by omega) (fun h71 => ?_) (fun h71 => ?_)
              · have hfin := rest_end hm ⟨hn, h4⟩ hpos hsub (Or.inr h71)
                refine z_iload dX4_foundBits_195 rfl ?_
                refine c_ireturn dX4_foundBits_197 rfl ?_
                subst hQ0
                exact ⟨J1, rfl, by rw [hfin], ho⟩
              · refine z_aload_n dX4_foundBits_74 rfl rfl ?_
                refine z_aload_n dX4_foundBits_75 rfl rfl ?_
                refine z_iload_n dX4_foundBits_76 rfl rfl ?_
                refine z_callv (N := MX4_worthAhead) (ci := 4) (nas := 2) (as := [_, _]) dX4_foundBits_77 w_531 w_528 w_530 ws_9 w_6 (by decide +kernel) rfl rfl rfl (by decide) (Nat.le_of_ble_eq_true rfl) (by decide) (by decide) (ZC.mono (cMX4_worthAhead (z := nl - 1) hK hR hKe hre (by omega)) ?_)
                rintro _ _ ⟨rfl, rfl⟩
                have hX : ∀ i, i < 4 → 0 ≤ J1 38 i ∧ J1 38 i < 16 := fun i hi => by
                  by_cases e : (i : Int) < nl - 1
                  · rw [hx i e]
                    have := Int.emod_nonneg (lft m way i) (show m ≠ 0 by omega)
                    have := Int.emod_lt_of_pos (lft m way i) (show 0 < m by omega)
                    omega
                  · rw [hx0 i (by omega) hi]; omega
                have hee : J1 e = J e := ho e (by omega) (by omega)
                rw [hee]
                have hEn : entS (J e) := fun k hk => by rw [hEe k hk]; exact hO.2.1.1 k hk
                have hq1 := qsum_bd (n := (nl - 1).toNat) (by omega) hEn hX (nl - 1).toNat (by omega)
                refine z_iload_n dX4_foundBits_80 rfl rfl ?_
                refine z_calls (N := MJ9_floorMod_7cf53) (nas := 2) (as := [_, _]) dX4_foundBits_81 w_534 w_532 w_533 w_12 (by decide +kernel) rfl rfl (Nat.le_of_ble_eq_true rfl) (by decide) (by decide) (ZC.mono (cMJ9_floorMod_7cf53 (by omega) (by omega) (by omega)) ?_)
                rintro _ _ ⟨rfl, rfl⟩
                rw [show qsum (J e) (J1 38) (nl - 1).toNat (nl - 1).toNat = qsum E (J1 38) (nl - 1).toNat (nl - 1).toNat from qsum_cgE (fun k hk => hEe k hk) (by omega) _ (by omega)]
                generalize hba : qsum E (J1 38) (nl - 1).toNat (nl - 1).toNat = wa
                refine z_istore dX4_foundBits_84 (by decide) rfl ?_
                refine c_iconst dX4_foundBits_86 ?_
                refine z_aload_n dX4_foundBits_87 rfl rfl ?_
                refine z_aload_n dX4_foundBits_88 rfl rfl ?_
                refine z_iload_n dX4_foundBits_89 rfl rfl ?_
                refine z_callv (N := MX4_slopeOf) (ci := 4) (nas := 2) (as := [_, _]) dX4_foundBits_90 w_538 w_535 w_537 ws_10 w_6 (by decide +kernel) rfl rfl rfl (by decide) (Nat.le_of_ble_eq_true rfl) (by decide) (by decide) (ZC.mono (cMX4_slopeOf (z := nl - 1) hK hR hKe hre (by omega)) ?_)
                rintro _ _ ⟨rfl, rfl⟩
                rw [hee, show ssum (J e) (J1 38) (nl - 1).toNat (nl - 1).toNat = ssum E (J1 38) (nl - 1).toNat (nl - 1).toNat from ssum_cgE (fun k hk => hEe k hk) (by omega) _ (by omega)]
                have hq2 := ssum_bd (k := (nl - 1).toNat) hO.2.1.1 hX (by omega) (nl - 1).toNat (by omega)
                generalize hsl : ssum E (J1 38) (nl - 1).toNat (nl - 1).toNat = sl at *
                refine c_imul dX4_foundBits_93 ?_
                refine z_iload_n dX4_foundBits_94 rfl rfl ?_
                refine z_calls (N := MJ9_floorMod_7cf53) (nas := 2) (as := [_, _]) dX4_foundBits_95 w_534 w_532 w_533 w_12 (by decide +kernel) rfl rfl (Nat.le_of_ble_eq_true rfl) (by decide) (by decide) (ZC.mono (cMJ9_floorMod_7cf53 (by omega) (by omega) (by omega)) ?_)
                rintro _ _ ⟨rfl, rfl⟩
                have b0 := Int.emod_nonneg wa (show m ≠ 0 by omega)
                have b1 := Int.emod_lt_of_pos wa (show 0 < m by omega)
                have c0 := Int.emod_nonneg (2 * sl) (show m ≠ 0 by omega)
                have c1 := Int.emod_lt_of_pos (2 * sl) (show 0 < m by omega)
                have hcv : ∀ v : Int, 0 ≤ v → v < m → ((wv E (dgV nl m (way + v * m ^ (nl - 1).toNat))) % m).toNat = vrm m (wa % m) ((2 * sl) % m) sq v := fun v v0 v1 => by
                  rw [vrm_eq (a := wa) (t := 2 * sl) (by omega) rfl rfl, wv_code (by omega) ⟨hn, h4⟩ hO.2.2.1 hO.2.2.2 (by omega) (by omega) ⟨v0, v1⟩ (Y := J1 38) (fun i hi => hx i hi), hba, hsl, hsq]
                generalize hB : wa % m = B at *
                generalize hS : (2 * sl) % m = S at *
                refine z_istore dX4_foundBits_98 (by decide) rfl ?_
                refine z_aload_n dX4_foundBits_100 rfl rfl ?_
                refine z_getR (ci := 4) (kf := 1) dX4_foundBits_101 rfl (by decide) (by decide) rfl w_154 rfl ?_
                refine c_bipush dX4_foundBits_104 (by decide) ?_
                refine z_iload dX4_foundBits_106 rfl ?_
                refine c_imul dX4_foundBits_108 ?_
                refine z_iload dX4_foundBits_109 rfl ?_
                refine c_iadd dX4_foundBits_111 ?_
                refine c_bald dX4_foundBits_112 rfl (by omega) (by decide) ?_
                have hsr := hsv (16 * B + S).toNat (by omega)
                have L183 : ∀ (bits2 : Nat) (J2 : Nat → Nat → Int), (bits2 < 65536) → (∀ i : Nat, (i : Int) < nl - 1 → J2 38 i = lft m way i % m) → (∀ i : Nat, nl - 1 ≤ (i : Int) → i < 4 → J2 38 i = 0) → (∀ r, bits2.testBit r = true → (restS nl E m).testBit r = true) → (∀ b s : Nat, (b : Int) < m → (s : Int) < m → J2 39 (16 * b + s) ≠ 0 → ∀ v : Int, 0 ≤ v → v < m → bits2.testBit (vrm m b s sq v) = true) → (∀ r, bits.testBit r = true → bits2.testBit r = true) → (∀ v : Int, 0 ≤ v → v < m → bits2.testBit (vrm m B S sq v) = true) → (∀ q, q < 256 → J2 39 q = 0 ∨ J2 39 q = 1) → (∀ a, a ≠ 38 → a ≠ 39 → J2 a = J a) → Z g l MX4_foundBits 183 [some (.ref 37), some (.ref r), some (.int (iZ m)), some (.int (iZ (nl - 1))), some (.int (iZ (((2 ^ m.toNat : Nat) : Int) - 1))), some (.int (iZ (bits2 : Int))), some (.int (iZ (m ^ (nl - 1).toNat))), some (.int (iZ way)), none, none, none, none] [] (KF Kd, zi J2, zj P, RF Rd, n, s0) Q0 := by
                  intro bits2 J2 hb2 hx2 hx20 hsub2 hseen2 hge2 hcur2 hsv2 ho2
                  refine z_aload_n dX4_foundBits_183 rfl rfl ?_
                  refine z_iload_n dX4_foundBits_184 rfl rfl ?_
                  refine z_iload_n dX4_foundBits_185 rfl rfl ?_
                  refine z_callv (N := MX4_countOn) (ci := 4) (nas := 2) (as := [_, _]) dX4_foundBits_186 w_542 w_539 w_541 ws_11 w_6 (by decide +kernel) rfl rfl rfl (by decide) (Nat.le_of_ble_eq_true rfl) (by decide) (by decide) (ZC.mono (cMX4_countOn (z := nl - 1) (m := m) (w := way) (by omega) hm (by omega) hx2) ?_)
                  rintro _ _ ⟨rfl, J3, rfl, hx3, hx30, ho3⟩
                  refine c_iinc dX4_foundBits_189 rfl (by decide) rfl ?_
                  refine z_goto (tgt := 60) dX4_foundBits_192 (by decide) ?_
                  exact Z.fg2 (ih60 _ (by omega) _ _ _ rfl (by omega) hb2 hx3 (fun i a b => by rw [hx30 i a]; exact hx20 i a b) hsub2 (fun b s h1 h2 hz => hseen2 b s h1 h2 (by rw [← ho3 39 (by decide)]; exact hz)) (fun cc v a1 a2 a3 a4 => by by_cases e : cc = way; (rw [e, hcv v a3 a4]; exact hcur2 v a3 a4); exact hge2 _ (hway cc v a1 (by omega) a3 a4)) (fun q hq => by rw [ho3 39 (by decide)]; exact hsv2 q hq) (fun a a1 a2 => by rw [ho3 a a1]; exact ho2 a a1 a2)) (zs1 rfl (zs1 rfl (zs1 rfl (zs1 rfl (zs1 rfl (zs1 rfl (zs1 rfl (zs1 rfl (zsn (zsn (zsn (zsn zs0))))))))))))
                refine c_if_ne (tgt := 183) dX4_foundBits_113 (by decide) (by omega) (fun h113 => ?_) (fun h113 => ?_)
                · have hcur : ∀ v : Int, 0 ≤ v → v < m → bits.testBit (vrm m B S sq v) = true := fun v v0 v1 => by
                    have h9 := hseen B.toNat S.toNat (by omega) (by omega) (by rw [show 16 * B.toNat + S.toNat = (16 * B + S).toNat by omega]; exact h113) v v0 v1
                    rw [show ((B.toNat : Nat) : Int) = B by omega, show ((S.toNat : Nat) : Int) = S by omega] at h9
                    exact h9
                  exact Z.fg2 (L183 _ _ (by first | exact hb | exact hbb) (by first | exact hx | exact hx2) (by first | exact hx0 | exact hx20) (by first | exact hsub | exact hsub3) (by first | exact hseen | exact hseen3) (by first | exact (fun _ h => h) | exact hge3) (by first | exact hcur | exact (fun v a b => hval v a (by omega))) (by first | exact hsv | exact hsv2) (by first | exact ho | exact ho2)) (zs1 rfl (zs1 rfl (zs1 rfl (zs1 rfl (zs1 rfl (zs1 rfl (zs1 rfl (zs1 rfl (zsn (zsn (zsn (zsn zs0))))))))))))
                · have hJ2s : ∀ b s : Nat, (b : Int) < m → (s : Int) < m → zup J1 39 (16 * B + S).toNat ((1 : Int).bmod 256) 39 (16 * b + s) ≠ 0 → (b = B.toNat ∧ s = S.toNat) ∨ J1 39 (16 * b + s) ≠ 0 := fun b s hb hs hz => by
                    by_cases e : 16 * b + s = (16 * B + S).toNat
                    · left; omega
                    · right; rw [zzi e] at hz; exact hz
                  refine z_aload_n dX4_foundBits_116 rfl rfl ?_
                  refine z_getR (ci := 4) (kf := 1) dX4_foundBits_117 rfl (by decide) (by decide) rfl w_154 rfl ?_
                  refine c_bipush dX4_foundBits_120 (by decide) ?_
                  refine z_iload dX4_foundBits_122 rfl ?_
                  refine c_imul dX4_foundBits_124 ?_
                  refine z_iload dX4_foundBits_125 rfl ?_
                  refine c_iadd dX4_foundBits_127 ?_
                  refine c_iconst dX4_foundBits_128 ?_
                  refine c_bast dX4_foundBits_129 rfl (by omega) (by decide) ?_
                  refine c_iconst dX4_foundBits_130 ?_
                  refine z_istore dX4_foundBits_131 (by decide) rfl ?_
                  have L133 : ∀ (m133 : Nat), ∀ (v : Int) (bb : Nat) (J2 : Nat → Nat → Int), (m - v).toNat = m133 → (0 ≤ v ∧ v ≤ m) → (bb < 65536) → (∀ i : Nat, (i : Int) < nl - 1 → J2 38 i = lft m way i % m) → (∀ i : Nat, nl - 1 ≤ (i : Int) → i < 4 → J2 38 i = 0) → (∀ r, bb.testBit r = true → (restS nl E m).testBit r = true) → (∀ r, bits.testBit r = true → bb.testBit r = true) → (∀ u : Int, 0 ≤ u → u < v → bb.testBit (vrm m B S sq u) = true) → (J2 39 = zup J1 39 (16 * B + S).toNat ((1 : Int).bmod 256) 39) → (∀ q, q < 256 → J2 39 q = 0 ∨ J2 39 q = 1) → (∀ a, a ≠ 38 → a ≠ 39 → J2 a = J a) → Z g l MX4_foundBits 133 [some (.ref 37), some (.ref r), some (.int (iZ m)), some (.int (iZ (nl - 1))), some (.int (iZ (((2 ^ m.toNat : Nat) : Int) - 1))), some (.int (iZ (bb : Int))), some (.int (iZ (m ^ (nl - 1).toNat))), some (.int (iZ way)), some (.int (iZ B)), some (.int (iZ S)), some (.int (iZ v)), none] [] (KF Kd, zi J2, zj P, RF Rd, n, s0) Q0 := by
                    intro m133
                    induction m133 using Nat.strongRecOn with
                    | ind m133 ih133 =>
                      intro v bb J2 hm133 hv hbb hx2 hx20 hsub3 hge3 hval hs39 hsv2 ho2
                      refine z_iload dX4_foundBits_133 rfl ?_
                      refine z_iload_n dX4_foundBits_135 rfl rfl ?_
                      refine c_icmp_ge (tgt := 183) dX4_foundBits_136 (by decide) (by omega) (by omega) (fun h136 => ?_) (fun h136 => ?_)
                      · have hseen3 : ∀ b s : Nat, (b : Int) < m → (s : Int) < m → J2 39 (16 * b + s) ≠ 0 → ∀ u : Int, 0 ≤ u → u < m → bb.testBit (vrm m b s sq u) = true := fun b s hb hs hz u u0 u1 => by
                          rw [hs39] at hz
                          rcases hJ2s b s hb hs hz with ⟨e1, e2⟩ | e
                          · rw [e1, e2, show ((B.toNat : Nat) : Int) = B by omega, show ((S.toNat : Nat) : Int) = S by omega]; exact hval u u0 (by omega)
                          · exact hge3 _ (hseen b s hb hs e u u0 u1)
                        exact Z.fg2 (L183 _ _ (by first | exact hb | exact hbb) (by first | exact hx | exact hx2) (by first | exact hx0 | exact hx20) (by first | exact hsub | exact hsub3) (by first | exact hseen | exact hseen3) (by first | exact (fun _ h => h) | exact hge3) (by first | exact hcur | exact (fun v a b => hval v a (by omega))) (by first | exact hsv | exact hsv2) (by first | exact ho | exact ho2)) (zs1 rfl (zs1 rfl (zs1 rfl (zs1 rfl (zs1 rfl (zs1 rfl (zs1 rfl (zs1 rfl (zsn (zsn (zsn (zsn zs0))))))))))))
                      · refine z_aload_n dX4_foundBits_139 rfl rfl ?_
                        refine z_getR (ci := 3) (kf := 1) dX4_foundBits_140 hK (by decide) (by decide) rfl w_284 hR ?_
                        refine c_iconst dX4_foundBits_143 ?_
                        refine z_iload_n dX4_foundBits_144 rfl rfl ?_
                        refine c_imul dX4_foundBits_145 ?_
                        refine z_iload_n dX4_foundBits_146 rfl rfl ?_
                        refine c_iadd dX4_foundBits_147 ?_
                        refine c_iald dX4_foundBits_148 hKe (by omega) (by decide) ?_
                        rw [show J2 e (4 * (nl - 1) + (nl - 1)).toNat = sq by rw [ho2 e (by omega) (by omega), show (4 * (nl - 1) + (nl - 1)).toNat = 4 * (nl - 1).toNat + (nl - 1).toNat by omega, hEe _ (by omega)]; exact hsq]
                        have m1 := mul_bd (a := S) (b := v) (A := 16) (B := 16) (by omega) (by omega) (by omega) (by omega)
                        have m2 := mul_bd (a := sq) (b := v) (A := 99) (B := 16) (by omega) (by omega) (by omega) (by omega)
                        have m3 := mul_bd (a := sq * v) (b := v) (A := 1584) (B := 16) (by omega) (by omega) (by omega) (by omega)
                        have n1 : 0 ≤ S * v := Int.mul_nonneg (by omega) (by omega)
                        have n2 : 0 ≤ sq * v * v := Int.mul_nonneg (Int.mul_nonneg (by omega) (by omega)) (by omega)
                        refine z_istore dX4_foundBits_149 (by decide) rfl ?_
                        refine z_iload dX4_foundBits_151 rfl ?_
                        refine c_iconst dX4_foundBits_153 ?_
                        refine z_iload dX4_foundBits_154 rfl ?_
                        refine z_iload dX4_foundBits_156 rfl ?_
                        refine z_iload dX4_foundBits_158 rfl ?_
                        refine c_imul dX4_foundBits_160 ?_
                        refine c_iadd dX4_foundBits_161 ?_
                        refine z_iload dX4_foundBits_162 rfl ?_
                        refine z_iload dX4_foundBits_164 rfl ?_
                        refine c_imul dX4_foundBits_166 ?_
                        refine z_iload dX4_foundBits_167 rfl ?_
                        refine c_imul dX4_foundBits_169 ?_
                        refine c_iadd dX4_foundBits_170 ?_
                        refine z_iload_n dX4_foundBits_171 rfl rfl ?_
                        refine c_irem dX4_foundBits_172 (by omega) (by omega) (by omega) (by omega) ?_
                        rw [Int.tmod_eq_emod_of_nonneg (show 0 ≤ B + S * v + sq * v * v by omega)]
                        have d0 := Int.emod_nonneg (B + S * v + sq * v * v) (show m ≠ 0 by omega)
                        have d1 := Int.emod_lt_of_pos (B + S * v + sq * v * v) (show 0 < m by omega)
                        refine z_ishl dX4_foundBits_173 ?_
                        rw [iZ_sh (by omega) (by omega)]
                        refine z_ior dX4_foundBits_174 ?_
                        rw [iZ_or]
                        refine z_istore dX4_foundBits_175 (by decide) rfl ?_
                        refine c_iinc dX4_foundBits_177 rfl (by decide) rfl ?_
                        refine z_goto (tgt := 133) dX4_foundBits_180 (by decide) ?_
                        exact Z.fg2 (ih133 _ (by omega) _ _ _ rfl (by omega) (Nat.or_lt_two_pow (n := 16) hbb (Nat.pow_lt_pow_right (by omega) (by omega))) hx2 hx20 (fun r hr => by rcases or_bit.mp hr with h | h; exact hsub3 r h; (rw [← h]; exact (rest_bit hm ⟨hn, h4⟩ hpos _).mpr ⟨way, v, by omega, by omega, by omega, by omega, hcv v (by omega) (by omega)⟩)) (fun r hr => or_bit.mpr (Or.inl (hge3 r hr))) (fun u a b => or_bit.mpr (by by_cases e : u = v; (right; rw [e]; rfl); (left; exact hval u a (by omega)))) hs39 hsv2 ho2) (zs1 rfl (zs1 rfl (zs1 rfl (zs1 rfl (zs1 rfl (zs1 rfl (zs1 rfl (zs1 rfl (zs1 rfl (zs1 rfl (zs1 rfl (zsn zs0))))))))))))
                  exact Z.fg2 (L133 _ 0 _ _ rfl (by omega) (by omega) (fun i hi => by rw [zzr (by decide)]; exact hx i hi) (fun i a b => by rw [zzr (by decide)]; exact hx0 i a b) hsub (fun _ h => h) (fun u a b => absurd b (by omega)) rfl (fun q hq => by by_cases e : q = (16 * B + S).toNat; (subst e; rw [zz]; exact Or.inr rfl); (rw [zzi e]; exact hsv q hq)) (fun a a1 a2 => by rw [zup_ne a2]; exact ho a a1 a2)) (zs1 rfl (zs1 rfl (zs1 rfl (zs1 rfl (zs1 rfl (zs1 rfl (zs1 rfl (zs1 rfl (zs1 rfl (zs1 rfl (zs1 rfl (zsn zs0))))))))))))
        exact Z.fg2 (L60 _ 0 0 _ rfl (by omega) (by decide) (fun i hi => by rw [hJ0x i (by omega), lft_z0, Int.zero_emod]) (fun i _ h => hJ0x i h) (fun r hr => by simp at hr) (fun b s hb hs hz => absurd (hJ0s _ (by omega)) hz) (fun cc v a1 a2 => by omega) (fun q hq => Or.inl (hJ0s q hq)) hJ0o) (zs1 rfl (zs1 rfl (zs1 rfl (zs1 rfl (zs1 rfl (zs1 rfl (zs1 rfl (zs1 rfl (zsn (zsn (zsn (zsn zs0))))))))))))
      · refine z_iload dX4_foundBits_45 rfl ?_
        refine z_iload_n dX4_foundBits_47 rfl rfl ?_
        refine c_imul dX4_foundBits_48 ?_
        refine z_istore dX4_foundBits_49 (by decide) rfl ?_
        refine c_iinc dX4_foundBits_51 rfl (by decide) rfl ?_
        refine z_goto (tgt := 39) dX4_foundBits_54 (by decide) ?_
        exact Z.fg2 (ih39 _ (by omega) _ _ rfl (by omega) (by rw [hwy, show (i + 1).toNat = i.toNat + 1 by omega, Int.pow_succ])) (zs1 rfl (zs1 rfl (zs1 rfl (zs1 rfl (zs1 rfl (zs1 rfl (zs1 rfl (zs1 rfl (zsn (zsn (zsn (zsn zs0))))))))))))
  exact Z.fg2 (L39 _ 0 1 rfl (by omega) (by show (1 : Int) = m ^ 0; rw [Int.pow_zero])) (zs1 rfl (zs1 rfl (zs1 rfl (zs1 rfl (zs1 rfl (zs1 rfl (zs1 rfl (zs1 rfl (zsn (zsn (zsn (zsn zs0))))))))))))
end Cls12
