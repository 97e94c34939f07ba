section Cls15
variable {g : ZG} {l : Launch} {Kd : ZK} {Rd : ZR} {n s0 c : Nat} {A J P : Nat → Nat → Int}
set_option maxHeartbeats 4000000 in
set_option maxRecDepth 100000 in
theorem cMX2_eliminateAhead {k d : Int} {S S2 : Nat → Nat → Int} (hk : 0 ≤ k ∧ k ≤ 3) (hd : 1 ≤ d ∧ d ≤ 1000000) (hS : ∀ a b : Nat, b ≤ a → (a : Int) ≤ k → P 31 (4 * a + b) = S a b) (hst : ∀ a b : Nat, b ≤ a → (a : Int) < k → S k.toNat k.toNat * S a b - S k.toNat a * S k.toNat b = d * S2 a b) (hB : ∀ a b : Nat, b ≤ a → (a : Int) < k → -100000000 ≤ S2 a b ∧ S2 a b ≤ 100000000) : ZC g l MX2_eliminateAhead [.ref 30, .int (iZ k), .long (lZ d)] (KF Kd, zi J, zj P, RF Rd, n, s0) (fun rr hh => rr = none ∧ ∃ P' : Nat → Nat → Int, hh = (KF Kd, zi J, zj P', RF Rd, n, s0) ∧ (∀ a b : Nat, b ≤ a → (a : Int) < k → P' 31 (4 * a + b) = S2 a b) ∧ (∀ a b : Nat, b ≤ a → k ≤ (a : Int) → a < 4 → P' 31 (4 * a + b) = P 31 (4 * a + b)) ∧ ∀ a, a ≠ 31 → P' a = P a) := by
  refine ZC.of (by decide) (Nat.le_of_ble_eq_true rfl) ?_
  generalize hQ0 : (fun rr hh => rr = none ∧ ∃ P' : Nat → Nat → Int, hh = (KF Kd, zi J, zj P', RF Rd, n, s0) ∧ (∀ a b : Nat, b ≤ a → (a : Int) < k → P' 31 (4 * a + b) = S2 a b) ∧ (∀ a b : Nat, b ≤ a → k ≤ (a : Int) → a < 4 → P' 31 (4 * a + b) = P 31 (4 * a + b)) ∧ ∀ a, a ≠ 31 → P' a = P a : Option Value → ZH → Prop) = Q0
  show Z g l MX2_eliminateAhead 0 [some (.ref 30), some (.int (iZ k)), some (.long (lZ d)), none, none, none, none, none, none, none] [] (KF Kd, zi J, zj P, RF Rd, n, s0) Q0
  refine z_lload_n dX2_eliminateAhead_0 rfl rfl ?_
  refine c_lconst0 dX2_eliminateAhead_1 ?_
  refine c_lif_ne (tgt := 7) dX2_eliminateAhead_2 dX2_eliminateAhead_3 (by decide) (by omega) (by omega) (fun h2 => ?_) (fun h2 => ?_)
  · refine z_aload_n dX2_eliminateAhead_7 rfl rfl ?_
    refine z_getR (ci := 2) (kf := 5) dX2_eliminateAhead_8 rfl (by decide) (by decide) rfl w_116 rfl ?_
    refine c_iconst dX2_eliminateAhead_11 ?_
    refine z_iload_n dX2_eliminateAhead_12 rfl rfl ?_
    refine c_imul dX2_eliminateAhead_13 ?_
    refine z_iload_n dX2_eliminateAhead_14 rfl rfl ?_
    refine c_iadd dX2_eliminateAhead_15 ?_
    refine c_lald dX2_eliminateAhead_16 rfl (by omega) (by decide) ?_
    rw [show P 31 (4 * k + k).toNat = S k.toNat k.toNat by rw [show (4 * k + k).toNat = 4 * k.toNat + k.toNat by omega]; exact hS _ _ (Nat.le_refl _) (by omega)]
    refine z_lstore dX2_eliminateAhead_17 (by decide) rfl ?_
    refine c_iconst dX2_eliminateAhead_19 ?_
    refine z_istore dX2_eliminateAhead_20 (by decide) rfl ?_
    have L22 : ∀ (m22 : Nat), ∀ (i : Int) (P1 : Nat → Nat → Int), (k - i).toNat = m22 → (0 ≤ i ∧ i ≤ k) → (∀ a b : Nat, b ≤ a → (a : Int) < k → P1 31 (4 * a + b) = (if (a : Int) < i then S2 a b else S a b)) → (∀ a b : Nat, b ≤ a → k ≤ (a : Int) → a < 4 → P1 31 (4 * a + b) = P 31 (4 * a + b)) → (∀ a, a ≠ 31 → P1 a = P a) → Z g l MX2_eliminateAhead 22 [some (.ref 30), some (.int (iZ k)), some (.long (lZ d)), none, some (.long (lZ (S k.toNat k.toNat))), none, some (.int (iZ i)), none, none, none] [] (KF Kd, zi J, zj P1, RF Rd, n, s0) Q0 := by
      intro m22
      induction m22 using Nat.strongRecOn with
      | ind m22 ih22 =>
        intro i P1 hm22 hi hI hhi ho
        refine z_iload dX2_eliminateAhead_22 rfl ?_
        refine z_iload_n dX2_eliminateAhead_24 rfl rfl ?_
        refine c_icmp_ge (tgt := 107) dX2_eliminateAhead_25 (by decide) (by omega) (by omega) (fun h25 => ?_) (fun h25 => ?_)
        · refine z_return dX2_eliminateAhead_107 rfl ?_
          subst hQ0; exact ⟨rfl, P1, rfl, fun a b h1 h2 => by rw [hI a b h1 h2, if_pos (by omega)], hhi, ho⟩
        · refine c_iconst dX2_eliminateAhead_28 ?_
          refine z_istore dX2_eliminateAhead_29 (by decide) rfl ?_
          have L31 : ∀ (m31 : Nat), ∀ (j : Int) (P1 : Nat → Nat → Int), (i + 1 - j).toNat = m31 → (0 ≤ j ∧ j ≤ i + 1) → (∀ a b : Nat, b ≤ a → (a : Int) < k → P1 31 (4 * a + b) = (if (a : Int) < i ∨ ((a : Int) = i ∧ (b : Int) < j) then S2 a b else S a b)) → (∀ a b : Nat, b ≤ a → k ≤ (a : Int) → a < 4 → P1 31 (4 * a + b) = P 31 (4 * a + b)) → (∀ a, a ≠ 31 → P1 a = P a) → Z g l MX2_eliminateAhead 31 [some (.ref 30), some (.int (iZ k)), some (.long (lZ d)), none, some (.long (lZ (S k.toNat k.toNat))), none, some (.int (iZ i)), some (.int (iZ j)), none, none] [] (KF Kd, zi J, zj P1, RF Rd, n, s0) Q0 := by
            intro m31
            induction m31 using Nat.strongRecOn with
            | ind m31 ih31 =>
              intro j P1 hm31 hj hI hhi ho
              refine z_iload dX2_eliminateAhead_31 rfl ?_
              refine z_iload dX2_eliminateAhead_33 rfl ?_
              refine c_icmp_gt (tgt := 101) dX2_eliminateAhead_35 (by decide) (by omega) (by omega) (fun h35 => ?_) (fun h35 => ?_)
              · refine c_iinc dX2_eliminateAhead_101 rfl (by decide) rfl ?_
                refine z_goto (tgt := 22) dX2_eliminateAhead_104 (by decide) ?_
                exact Z.fg2 (ih22 _ (by omega) _ _ rfl (by omega) (fun a b h1 h2 => by rw [hI a b h1 h2]; exact ifc (by omega)) hhi ho) (zs1 rfl (zs1 rfl (zs1 rfl (zsn (zs1 rfl (zsn (zs1 rfl (zsn (zsn (zsn zs0))))))))))
              · refine z_aload_n dX2_eliminateAhead_38 rfl rfl ?_
                refine z_getR (ci := 2) (kf := 5) dX2_eliminateAhead_39 rfl (by decide) (by decide) rfl w_116 rfl ?_
                refine c_iconst dX2_eliminateAhead_42 ?_
                refine z_iload_n dX2_eliminateAhead_43 rfl rfl ?_
                refine c_imul dX2_eliminateAhead_44 ?_
                refine z_iload dX2_eliminateAhead_45 rfl ?_
                refine c_iadd dX2_eliminateAhead_47 ?_
                refine c_lald dX2_eliminateAhead_48 rfl (by omega) (by decide) ?_
                rw [show P1 31 (4 * k + i).toNat = S k.toNat i.toNat by rw [show (4 * k + i).toNat = 4 * k.toNat + i.toNat by omega, hhi _ _ (by omega) (by omega) (by omega)]; exact hS _ _ (by omega) (by omega)]
                refine z_aload_n dX2_eliminateAhead_49 rfl rfl ?_
                refine z_getR (ci := 2) (kf := 5) dX2_eliminateAhead_50 rfl (by decide) (by decide) rfl w_116 rfl ?_
                refine c_iconst dX2_eliminateAhead_53 ?_
                refine z_iload_n dX2_eliminateAhead_54 rfl rfl ?_
                refine c_imul dX2_eliminateAhead_55 ?_
                refine z_iload dX2_eliminateAhead_56 rfl ?_
                refine c_iadd dX2_eliminateAhead_58 ?_
                refine c_lald dX2_eliminateAhead_59 rfl (by omega) (by decide) ?_
                rw [show P1 31 (4 * k + j).toNat = S k.toNat j.toNat by rw [show (4 * k + j).toNat = 4 * k.toNat + j.toNat by omega, hhi _ _ (by omega) (by omega) (by omega)]; exact hS _ _ (by omega) (by omega)]
                refine c_lmul dX2_eliminateAhead_60 ?_
                refine z_lstore dX2_eliminateAhead_61 (by decide) rfl ?_
                refine z_aload_n dX2_eliminateAhead_63 rfl rfl ?_
                refine z_getR (ci := 2) (kf := 5) dX2_eliminateAhead_64 rfl (by decide) (by decide) rfl w_116 rfl ?_
                refine c_iconst dX2_eliminateAhead_67 ?_
                refine z_iload dX2_eliminateAhead_68 rfl ?_
                refine c_imul dX2_eliminateAhead_70 ?_
                refine z_iload dX2_eliminateAhead_71 rfl ?_
                refine c_iadd dX2_eliminateAhead_73 ?_
                refine z_lload dX2_eliminateAhead_74 rfl ?_
                refine z_aload_n dX2_eliminateAhead_76 rfl rfl ?_
                refine z_getR (ci := 2) (kf := 5) dX2_eliminateAhead_77 rfl (by decide) (by decide) rfl w_116 rfl ?_
                refine c_iconst dX2_eliminateAhead_80 ?_
                refine z_iload dX2_eliminateAhead_81 rfl ?_
                refine c_imul dX2_eliminateAhead_83 ?_
                refine z_iload dX2_eliminateAhead_84 rfl ?_
                refine c_iadd dX2_eliminateAhead_86 ?_
                refine c_lald dX2_eliminateAhead_87 rfl (by omega) (by decide) ?_
                rw [show P1 31 (4 * i + j).toNat = S i.toNat j.toNat by rw [show (4 * i + j).toNat = 4 * i.toNat + j.toNat by omega, hI i.toNat j.toNat (by omega) (by omega), if_neg (by omega)]]
                have st := hst i.toNat j.toNat (by omega) (by omega)
                have hb := hB i.toNat j.toNat (by omega) (by omega)
                have mb := mul_bd (a := d) (b := S2 i.toNat j.toNat) (A := 1000000) (B := 100000000) (by omega) (by omega) hb.1 hb.2
                refine c_lmul dX2_eliminateAhead_88 ?_
                refine z_lload dX2_eliminateAhead_89 rfl ?_
                refine c_lsub dX2_eliminateAhead_91 ?_
                refine z_lload_n dX2_eliminateAhead_92 rfl rfl ?_
                refine c_ldiv dX2_eliminateAhead_93 (by omega) (by omega) (by omega) (by omega) ?_
                rw [st, Int.mul_tdiv_cancel_left _ (by omega)]
                refine c_last dX2_eliminateAhead_94 rfl (by omega) (by decide) ?_
                refine c_iinc dX2_eliminateAhead_95 rfl (by decide) rfl ?_
                refine z_goto (tgt := 31) dX2_eliminateAhead_98 (by decide) ?_
                exact Z.fg2 (ih31 _ (by omega) _ _ rfl (by omega) (fun a b h1 h2 => by
  by_cases e : 4 * a + b = (4 * i + j).toNat
  · have ea : a = i.toNat := by omega
    have eb : b = j.toNat := by omega
    subst ea; subst eb
    rw [e, zz, if_pos (by omega)]
  · rw [zzi e, hI a b h1 h2]; exact ifc (by omega)) (fun a b h1 h2 h3 => by rw [zzi (by omega)]; exact hhi a b h1 h2 h3) (fun a ha => by rw [zup_ne ha]; exact ho a ha)) (zs1 rfl (zs1 rfl (zs1 rfl (zsn (zs1 rfl (zsn (zs1 rfl (zs1 rfl (zsn (zsn zs0))))))))))
          exact Z.fg2 (L31 _ _ _ rfl (by omega) (fun a b h1 h2 => by rw [hI a b h1 h2]; exact ifc (by omega)) hhi ho) (zs1 rfl (zs1 rfl (zs1 rfl (zsn (zs1 rfl (zsn (zs1 rfl (zs1 rfl (zsn (zsn zs0))))))))))
    exact Z.fg2 (L22 _ _ _ rfl (by omega) (fun a b h1 h2 => by rw [hS a b h1 (by omega), if_neg (by omega)]) (fun _ _ _ _ _ => rfl) (fun _ _ => rfl)) (zs1 rfl (zs1 rfl (zs1 rfl (zsn (zs1 rfl (zsn (zs1 rfl (zsn (zsn (zsn zs0))))))))))
  · exact absurd h2 (by omega)
set_option maxHeartbeats 4000000 in
set_option maxRecDepth 100000 in
theorem cMX2_openWorths {nl tp : Int} {E : Nat → Int} {ee : Nat} (hn : 1 ≤ nl) (hO : okF nl E) (ht : 0 ≤ tp ∧ tp ≤ 100) (hKe : KF Kd ee = (1, 16)) (he : ee ≠ 30) (hE : ∀ k, k < 16 → J ee k = E k) : ZC g l MX2_openWorths [.ref 30, .int (iZ nl), .ref ee, .int (iZ tp)] (KF Kd, zi J, zj P, RF Rd, n, s0) (fun rr hh => rr = none ∧ ∃ J' P' : Nat → Nat → Int, hh = (KF Kd, zi J', zj P', RF Rd, n, s0) ∧ EI (eW nl E tp) J' P' 0 ∧ (eW nl E tp).rs (J' 35) (J' 36) 1 = (eW nl E tp).en nl.toNat (J 35) ∧ J' 30 2 = tp ∧ (∀ a, a ≠ 30 → a ≠ 35 → a ≠ 36 → J' a = J a) ∧ ∀ a, a ≠ 31 → a ≠ 32 → a ≠ 33 → a ≠ 34 → P' a = P a) := by
  refine ZC.of (by decide) (Nat.le_of_ble_eq_true rfl) ?_
  generalize hQ0 : (fun rr hh => rr = none ∧ ∃ J' P' : Nat → Nat → Int, hh = (KF Kd, zi J', zj P', RF Rd, n, s0) ∧ EI (eW nl E tp) J' P' 0 ∧ (eW nl E tp).rs (J' 35) (J' 36) 1 = (eW nl E tp).en nl.toNat (J 35) ∧ J' 30 2 = tp ∧ (∀ a, a ≠ 30 → a ≠ 35 → a ≠ 36 → J' a = J a) ∧ ∀ a, a ≠ 31 → a ≠ 32 → a ≠ 33 → a ≠ 34 → P' a = P a : Option Value → ZH → Prop) = Q0
  show Z g l MX2_openWorths 0 [some (.ref 30), some (.int (iZ nl)), some (.ref ee), some (.int (iZ tp)), none, none, none] [] (KF Kd, zi J, zj P, RF Rd, n, s0) Q0
  have h4 := hO.1
  have hok := eW_ok (tp := tp) hn hO ht
  have hen := hO.2.1.1
  refine z_aload_n dX2_openWorths_0 rfl rfl ?_
  refine z_iload_n dX2_openWorths_1 rfl rfl ?_
  refine c_putI (ci := 2) (kf := 0) dX2_openWorths_2 rfl (by decide) (by decide) rfl (by decide) w_111 ?_
  refine z_aload_n dX2_openWorths_5 rfl rfl ?_
  refine z_iload_n dX2_openWorths_6 rfl rfl ?_
  refine c_putI (ci := 2) (kf := 2) dX2_openWorths_7 rfl (by decide) (by decide) rfl (by decide) w_113 ?_
  refine z_aload_n dX2_openWorths_10 rfl rfl ?_
  refine c_iconst dX2_openWorths_11 ?_
  refine c_putZ (ci := 2) (kf := 3) dX2_openWorths_12 rfl (by decide) (by decide) rfl (by decide) (by omega) w_114 ?_
  refine z_aload_n dX2_openWorths_15 rfl rfl ?_
  refine c_iconst dX2_openWorths_16 ?_
  refine c_putI (ci := 2) (kf := 4) dX2_openWorths_17 rfl (by decide) (by decide) rfl (by decide) w_115 ?_
  refine c_iconst dX2_openWorths_20 ?_
  refine z_istore dX2_openWorths_21 (by decide) rfl ?_
  have L23 : ∀ (m23 : Nat), ∀ (i : Int) (P1 : Nat → Nat → Int), (16 - i).toNat = m23 → (0 ≤ i ∧ i ≤ 16) → (∀ q : Nat, (q : Int) < i → P1 31 q = E q) → (∀ a, a ≠ 31 → P1 a = P a) → Z g l MX2_openWorths 23 [some (.ref 30), some (.int (iZ nl)), some (.ref ee), some (.int (iZ tp)), some (.int (iZ i)), none, none] [] (KF Kd, zi (zup (zup (zup (zup J 30 0 nl) 30 2 tp) 30 3 1) 30 4 0), zj P1, RF Rd, n, s0) Q0 := by
    intro m23
    induction m23 using Nat.strongRecOn with
    | ind m23 ih23 =>
      intro i P1 hm23 hi hc ho
      refine z_iload dX2_openWorths_23 rfl ?_
      refine z_aload_n dX2_openWorths_25 rfl rfl ?_
      refine z_getR (ci := 2) (kf := 5) dX2_openWorths_26 rfl (by decide) (by decide) rfl w_116 rfl ?_
      refine c_alen dX2_openWorths_29 rfl (by decide) ?_
      refine c_icmp_ge (tgt := 58) dX2_openWorths_30 (by decide) (by omega) (by omega) (fun h30 => ?_) (fun h30 => ?_)
      · have hst : ∀ a b : Nat, b ≤ a → (a : Int) < nl → P1 31 (4 * a + b) = SW (UW nl E) nl.toNat a b := fun a b h1 h2 => by rw [SW_start hn hO h2 (by omega)]; exact hc (4 * a + b) (by omega)
        have hd1 : dW (UW nl E) nl.toNat = 1 := dW_pad hn hO (by omega) (by omega)
        refine c_lconst1 dX2_openWorths_58 ?_
        refine z_lstore dX2_openWorths_59 (by decide) rfl ?_
        refine z_iload_n dX2_openWorths_61 rfl rfl ?_
        refine c_iconst dX2_openWorths_62 ?_
        refine c_isub dX2_openWorths_63 ?_
        refine z_istore dX2_openWorths_64 (by decide) rfl ?_
        have L66 : ∀ (m66 : Nat), ∀ (k bf : Int) (P1 : Nat → Nat → Int), (k + 1).toNat = m66 → (-1 ≤ k ∧ k < nl) → (bf = dW (UW nl E) (k + 1).toNat) → (∀ a b : Nat, b ≤ a → (a : Int) ≤ k → P1 31 (4 * a + b) = SW (UW nl E) (k + 1).toNat a b) → (∀ a b : Nat, b ≤ a → k < (a : Int) → (a : Int) < nl → P1 31 (4 * a + b) = sW (UW nl E) a b) → (∀ a : Nat, k < (a : Int) → (a : Int) < nl → P1 32 a = dW (UW nl E) (a + 1)) → (∀ a, a ≠ 31 → a ≠ 32 → P1 a = P a) → Z g l MX2_openWorths 66 [some (.ref 30), some (.int (iZ nl)), some (.ref ee), some (.int (iZ tp)), some (.long (lZ bf)), none, some (.int (iZ k))] [] (KF Kd, zi (zup (zup (zup (zup J 30 0 nl) 30 2 tp) 30 3 1) 30 4 0), zj P1, RF Rd, n, s0) Q0 := by
          intro m66
          induction m66 using Nat.strongRecOn with
          | ind m66 ih66 =>
            intro k bf P1 hm66 hk hbf hlo hhi hou ho
            refine z_iload dX2_openWorths_66 rfl ?_
            refine c_if_lt (tgt := 108) dX2_openWorths_68 (by decide) (by omega) (fun h68 => ?_) (fun h68 => ?_)
            · refine z_aload_n dX2_openWorths_108 rfl rfl ?_
              refine z_getR (ci := 2) (kf := 7) dX2_openWorths_109 rfl (by decide) (by decide) rfl w_118 rfl ?_
              refine c_iconst dX2_openWorths_112 ?_
              refine z_iload_n dX2_openWorths_113 rfl rfl ?_
              refine c_i2l dX2_openWorths_114 (by omega) ?_
              refine z_lload dX2_openWorths_115 rfl ?_
              refine c_lmul dX2_openWorths_117 ?_
              refine c_last dX2_openWorths_118 rfl (by omega) (by decide) ?_
              have h0 : bf = dW (UW nl E) 0 := by rw [hbf, show (k + 1).toNat = 0 by omega]
              have hp0 := (dW_bd hn hO (k := 0) (by omega)).1
              have hJ9 : (zup (zup (zup (zup J 30 0 nl) 30 2 tp) 30 3 1) 30 4 0) 30 0 = (((eW nl E tp).n : Nat) : Int) ∧ (zup (zup (zup (zup J 30 0 nl) 30 2 tp) 30 3 1) 30 4 0) 30 3 = (eW nl E tp).hf ∧ (zup (zup (zup (zup J 30 0 nl) 30 2 tp) 30 3 1) 30 4 0) 30 4 = (eW nl E tp).st := ⟨by rw [zzi (by decide), zzi (by decide), zzi (by decide), zz]; show nl = ((nl.toNat : Nat) : Int); omega, by rw [zzi (by decide), zz]; rfl, by rw [zz]; rfl⟩
              have hS9 : ∀ i j, i < (eW nl E tp).n → j ≤ i → zup P1 33 (0 : Int).toNat (tp * bf) 31 (4 * i + j) = (eW nl E tp).sl i j := fun i j hi hj => by
                have hi' : i < nl.toNat := hi
                rw [zzr (by decide)]; exact hhi i j hj (by omega) (by omega)
              have hO9 : ∀ i, i < (eW nl E tp).n → zup P1 33 (0 : Int).toNat (tp * bf) 32 i = (eW nl E tp).ou i := fun i hi => by
                have hi' : i < nl.toNat := hi
                rw [zzr (by decide)]; exact hou i (by omega) (by omega)
              have hl0 : 0 ≤ tp * dW (UW nl E) 0 := Int.mul_nonneg ht.1 (by omega)
              have hL9 : zup P1 33 (0 : Int).toNat (tp * bf) 33 (0 : Int).toNat = (eW nl E tp).lf (0 : Int).toNat ((zup (zup (zup (zup J 30 0 nl) 30 2 tp) 30 3 1) 30 4 0) 35) ∧ (eW nl E tp).st ≤ (eW nl E tp).lf (0 : Int).toNat ((zup (zup (zup (zup J 30 0 nl) 30 2 tp) 30 3 1) 30 4 0) 35) := ⟨by rw [zz, h0]; rfl, hl0⟩
              refine z_aload_n dX2_openWorths_119 rfl rfl ?_
              refine c_iconst dX2_openWorths_120 ?_
              refine z_callv (N := MX2_enter) (ci := 2) (nas := 1) (as := [_]) dX2_openWorths_121 w_463 w_460 w_462 ws_5 w_5 (by decide +kernel) rfl rfl rfl (by decide) (Nat.le_of_ble_eq_true rfl) (by decide) (by decide) (ZC.mono (cMX2_enter (e := (eW nl E tp)) (k := 0) hok ⟨by omega, by show (0 : Int) < ((nl.toNat : Nat) : Int); omega⟩ hJ9 hS9 hO9 hL9 (fun j hj => absurd hj (by omega))) ?_)
              rintro _ _ ⟨rfl, rfl⟩
              refine z_return dX2_openWorths_124 rfl ?_
              subst hQ0
              have hf := EI_first (e := (eW nl E tp)) (J := (zup (zup (zup (zup J 30 0 nl) 30 2 tp) 30 3 1) 30 4 0)) (P := zup P1 33 (0 : Int).toNat (tp * bf)) hok rfl hJ9 hS9 hO9 hL9.2 hL9.1
              have r35 : (zup (zup (zup (zup J 30 0 nl) 30 2 tp) 30 3 1) 30 4 0) 35 = J 35 := by rw [zup_ne (by decide), zup_ne (by decide), zup_ne (by decide), zup_ne (by decide)]
              have r36 : (zup (zup (zup (zup J 30 0 nl) 30 2 tp) 30 3 1) 30 4 0) 36 = J 36 := by rw [zup_ne (by decide), zup_ne (by decide), zup_ne (by decide), zup_ne (by decide)]
              refine ⟨rfl, _, _, rfl, hf, ?_, ?_, fun a a1 a2 a3 => ?_, fun a a1 a2 a3 a4 => ?_⟩
              · have q5 : zup (zup (zup (zup (zup (zup (zup J 30 0 nl) 30 2 tp) 30 3 1) 30 4 0) 30 1 0) 35 (0 : Int).toNat ((eW nl E tp).hi (0 : Int).toNat ((zup (zup (zup (zup J 30 0 nl) 30 2 tp) 30 3 1) 30 4 0) 35) + 1)) 36 (0 : Int).toNat ((eW nl E tp).lo (0 : Int).toNat ((zup (zup (zup (zup J 30 0 nl) 30 2 tp) 30 3 1) 30 4 0) 35)) 35 = upx (J 35) 0 ((eW nl E tp).hi 0 (J 35) + 1) := by rw [zup_ne (by decide), zup_row, zup_ne (by decide), r35]; rfl
                have q6 : zup (zup (zup (zup (zup (zup (zup J 30 0 nl) 30 2 tp) 30 3 1) 30 4 0) 30 1 0) 35 (0 : Int).toNat ((eW nl E tp).hi (0 : Int).toNat ((zup (zup (zup (zup J 30 0 nl) 30 2 tp) 30 3 1) 30 4 0) 35) + 1)) 36 (0 : Int).toNat ((eW nl E tp).lo (0 : Int).toNat ((zup (zup (zup (zup J 30 0 nl) 30 2 tp) 30 3 1) 30 4 0) 35)) 36 = upx (J 36) 0 ((eW nl E tp).lo 0 (J 35)) := by rw [zup_row, zup_ne (by decide), zup_ne (by decide), r35, r36]; rfl
                rw [q5, q6]; exact rs_first hok
              · rw [zzr (by decide), zzr (by decide), zzi (by decide), zzi (by decide), zzi (by decide), zz]
              · rw [zup_ne a3, zup_ne a2, zup_ne a1, zup_ne a1, zup_ne a1, zup_ne a1, zup_ne a1]
              · rw [zup_ne a4, zup_ne a3]; exact ho a a1 a2
            · have ek : (k + 1).toNat = k.toNat + 1 := by omega
              have hdb := dW_bd hn hO (k := (k + 1).toNat) (by omega)
              have hdb2 := hdb.2.2 (by omega)
              refine z_aload_n dX2_openWorths_71 rfl rfl ?_
              refine z_getR (ci := 2) (kf := 6) dX2_openWorths_72 rfl (by decide) (by decide) rfl w_117 rfl ?_
              refine z_iload dX2_openWorths_75 rfl ?_
              refine z_lload dX2_openWorths_77 rfl ?_
              refine c_last dX2_openWorths_79 rfl (by omega) (by decide) ?_
              rw [hbf]
              have hSa : ∀ a b : Nat, b ≤ a → (a : Int) ≤ k → zup P1 32 k.toNat bf 31 (4 * a + b) = SW (UW nl E) (k + 1).toNat a b := fun a b h1 h2 => by rw [zzr (by decide)]; exact hlo a b h1 h2
              have hstp : ∀ a b : Nat, b ≤ a → (a : Int) < k → SW (UW nl E) (k + 1).toNat k.toNat k.toNat * SW (UW nl E) (k + 1).toNat a b - SW (UW nl E) (k + 1).toNat k.toNat a * SW (UW nl E) (k + 1).toNat k.toNat b = dW (UW nl E) (k + 1).toNat * SW (UW nl E) k.toNat a b := fun a b h1 h2 => by rw [ek]; exact SW_step (by omega) (by omega) h1
              have hSb : ∀ a b : Nat, b ≤ a → (a : Int) < k → -100000000 ≤ SW (UW nl E) k.toNat a b ∧ SW (UW nl E) k.toNat a b ≤ 100000000 := fun a b h1 h2 => SW_bd hn hO (by omega) (by omega) (by omega)
              rw [hbf] at hSa
              refine z_aload_n dX2_openWorths_80 rfl rfl ?_
              refine z_iload dX2_openWorths_81 rfl ?_
              refine z_lload dX2_openWorths_83 rfl ?_
              refine z_callv (N := MX2_eliminateAhead) (ci := 2) (nas := 2) (as := [_, _]) dX2_openWorths_85 w_459 w_456 w_458 ws_4 w_5 (by decide +kernel) rfl rfl rfl (by decide) (Nat.le_of_ble_eq_true rfl) (by decide) (by decide) (ZC.mono (cMX2_eliminateAhead (k := k) (d := dW (UW nl E) (k + 1).toNat) (S := SW (UW nl E) (k + 1).toNat) (S2 := SW (UW nl E) k.toNat) (by omega) (by omega) hSa hstp hSb) ?_)
              rintro _ _ ⟨rfl, P2, rfl, hP2, hP2h, hP2o⟩
              refine z_aload_n dX2_openWorths_88 rfl rfl ?_
              refine z_getR (ci := 2) (kf := 5) dX2_openWorths_89 rfl (by decide) (by decide) rfl w_116 rfl ?_
              refine c_iconst dX2_openWorths_92 ?_
              refine z_iload dX2_openWorths_93 rfl ?_
              refine c_imul dX2_openWorths_95 ?_
              refine z_iload dX2_openWorths_96 rfl ?_
              refine c_iadd dX2_openWorths_98 ?_
              refine c_lald dX2_openWorths_99 rfl (by omega) (by decide) ?_
              have hkk : P2 31 (4 * k + k).toNat = dW (UW nl E) k.toNat := by
                rw [show (4 * k + k).toNat = 4 * k.toNat + k.toNat by omega, hP2h _ _ (Nat.le_refl _) (by omega) (by omega), hSa _ _ (Nat.le_refl _) (by omega), ek, SW_row (by omega) (Nat.le_refl _), sW_diag (by omega)]
              rw [hkk]
              refine z_lstore dX2_openWorths_100 (by decide) rfl ?_
              refine c_iinc dX2_openWorths_102 rfl (by decide) rfl ?_
              refine z_goto (tgt := 66) dX2_openWorths_105 (by decide) ?_
              exact Z.fg2 (ih66 _ (by omega) _ _ _ rfl (by omega) (by rw [show (k + -1 + 1).toNat = k.toNat by omega]) (fun a b h1 h2 => by rw [show (k + -1 + 1).toNat = k.toNat by omega]; exact hP2 a b h1 (by omega)) (fun a b h1 h2 h3 => by rw [hP2h a b h1 (by omega) (by omega)]; by_cases e : a = k.toNat; (subst e; rw [hSa _ _ h1 (by omega), ek, SW_row (by omega) h1]); (rw [zzr (by decide)]; exact hhi a b h1 (by omega) h3)) (fun a h2 h3 => by rw [hP2o 32 (by decide)]; by_cases e : a = k.toNat; (subst e; rw [zz, ek]); (rw [zzi e]; exact hou a (by omega) h3)) (fun a a1 a2 => by rw [hP2o a a1, zup_ne a2]; exact ho a a1 a2)) (zs1 rfl (zs1 rfl (zs1 rfl (zs1 rfl (zs1 rfl (zsn (zs1 rfl zs0)))))))
        exact Z.fg2 (L66 _ _ 1 _ rfl (by omega) (by rw [show (nl - 1 + 1).toNat = nl.toNat by omega, hd1]) (fun a b h1 h2 => by rw [show (nl - 1 + 1).toNat = nl.toNat by omega]; exact hst a b h1 (by omega)) (fun a b h1 h2 h3 => by omega) (fun a h2 h3 => by omega) (fun a a1 _ => ho a a1)) (zs1 rfl (zs1 rfl (zs1 rfl (zs1 rfl (zs1 rfl (zsn (zs1 rfl zs0)))))))
      · refine z_iload dX2_openWorths_33 rfl ?_
        refine z_aload_n dX2_openWorths_35 rfl rfl ?_
        refine c_alen dX2_openWorths_36 hKe (by decide) ?_
        refine c_icmp_ge (tgt := 58) dX2_openWorths_37 (by decide) (by omega) (by omega) (fun h37 => ?_) (fun h37 => ?_)
        · exact absurd h37 (by omega)
        · refine z_aload_n dX2_openWorths_40 rfl rfl ?_
          refine z_getR (ci := 2) (kf := 5) dX2_openWorths_41 rfl (by decide) (by decide) rfl w_116 rfl ?_
          refine z_iload dX2_openWorths_44 rfl ?_
          refine z_aload_n dX2_openWorths_46 rfl rfl ?_
          refine z_iload dX2_openWorths_47 rfl ?_
          refine c_iald dX2_openWorths_49 hKe (by omega) (by decide) ?_
          rw [show (zup (zup (zup (zup J 30 0 nl) 30 2 tp) 30 3 1) 30 4 0) ee i.toNat = E i.toNat by rw [zzr he, zzr he, zzr he, zzr he]; exact hE _ (by omega)]
          have hei := hen i.toNat (by omega)
          refine c_i2l dX2_openWorths_50 (by omega) ?_
          refine c_last dX2_openWorths_51 rfl (by omega) (by decide) ?_
          refine c_iinc dX2_openWorths_52 rfl (by decide) rfl ?_
          refine z_goto (tgt := 23) dX2_openWorths_55 (by decide) ?_
          exact Z.fg2 (ih23 _ (by omega) _ _ rfl (by omega) (fun q hq => by by_cases e : q = i.toNat; (subst e; rw [zz]); (rw [zzi e]; exact hc q (by omega))) (fun a ha => by rw [zup_ne ha]; exact ho a ha)) (zs1 rfl (zs1 rfl (zs1 rfl (zs1 rfl (zs1 rfl (zsn (zsn zs0)))))))
  exact Z.fg2 (L23 _ _ _ rfl (by omega) (fun q hq => absurd hq (by omega)) (fun _ _ => rfl)) (zs1 rfl (zs1 rfl (zs1 rfl (zs1 rfl (zs1 rfl (zsn (zsn zs0)))))))
end Cls15
