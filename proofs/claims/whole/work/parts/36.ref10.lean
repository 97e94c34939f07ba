section Ref10
variable {g : ZG} {l : Launch} {Kd : ZK} {Rd : ZR} {n s0 : Nat} {J P : Nat → Nat → Int}
set_option maxHeartbeats 4000000 in
set_option maxRecDepth 100000 in
theorem cMX9_spread {s sh f : Int} (h1 : rI s) (h2 : rI sh) (h3 : rI f) (hL : okJ J) (hS : okS J) : ZC g l MX9_spread [.ref 42, .int (iZ s), .int (iZ sh), .int (iZ f)] (KF Kd, zi J, zj P, RF Rd, n, s0) (fun rr hh => ∃ J' P', hh = (KF Kd, zi J', zj P', RF Rd, n, s0) ∧ rr = some (.int (iZ (aSpread J s sh f).1)) ∧ pq (aSpread J s sh f).2 J' ∧ pp P P') := by
  refine ZC.of (by decide) (Nat.le_of_ble_eq_true rfl) ?_
  generalize hQ0 : (fun rr hh => ∃ J' P', hh = (KF Kd, zi J', zj P', RF Rd, n, s0) ∧ rr = some (.int (iZ (aSpread J s sh f).1)) ∧ pq (aSpread J s sh f).2 J' ∧ pp P P' : Option Value → ZH → Prop) = Q0
  show Z g l MX9_spread 0 [some (.ref 42), some (.int (iZ s)), some (.int (iZ sh)), some (.int (iZ f)), none, none, none, none, none] [] (KF Kd, zi J, zj P, RF Rd, n, s0) Q0
  refine z_aload_n dX9_spread_0 rfl rfl ?_
  refine z_iload_n dX9_spread_1 rfl rfl ?_
  refine z_callv (N := MX9_hasForm) (ci := 9) (nas := 1) (as := [_]) dX9_spread_2 w_948 w_945 w_947 ws_28 w_8 (by decide +kernel) rfl rfl rfl (by decide) (Nat.le_of_ble_eq_true rfl) (by decide) (by decide) (ZC.mono (b_hasForm (by omega) hL) ?_)
  rintro _ _ ⟨b2, rfl, rfl, hb2⟩
  refine c_if_eq (tgt := 15) dX9_spread_5 (by decide) (by omega) (fun h5 => ?_) (fun h5 => ?_)
  · have g2 := (hb2.resolve_left (fun z => by have := z.1; omega)).2
    clear hb2
    refine c_iconst dX9_spread_15 ?_
    refine c_ireturn dX9_spread_16 rfl ?_
    subst hQ0; refine ⟨_, _, rfl, ?_⟩; unfold aSpread; rw [cif_neg (by omega)]; exact ⟨rfl, pq_refl _, pp_refl _⟩
  · have g2 := (hb2.resolve_right (fun z => by have := z.1; omega)).2
    clear hb2
    refine z_iload_n dX9_spread_8 rfl rfl ?_
    refine z_calls (N := MX9_isSheet) (nas := 1) (as := [_]) dX9_spread_9 w_904 w_902 w_903 w_8 (by decide +kernel) rfl rfl (Nat.le_of_ble_eq_true rfl) (by decide) (by decide) (ZC.mono (cMX9_isSheet (by omega)) ?_)
    rintro _ _ ⟨b9, rfl, rfl, hb9⟩
    refine c_if_ne (tgt := 17) dX9_spread_12 (by decide) (by omega) (fun h12 => ?_) (fun h12 => ?_)
    · have g9 := (hb9.resolve_right (fun z => by have := z.1; omega)).2
      clear hb9
      have hl4 := okJ_let hL (q := s.toNat) (by omega)
      have hs4 := hS.1 sh.toNat (by omega)
      have htd := tr_div (k := J 44 s.toNat) (by omega)
      have htb := tr_bd (i := J 44 s.toNat)
      refine z_aload_n dX9_spread_17 rfl rfl ?_
      refine z_getR (ci := 9) (kf := 31) dX9_spread_18 rfl (by decide) (by decide) rfl w_807 rfl ?_
      refine z_iload_n dX9_spread_21 rfl rfl ?_
      refine c_iald dX9_spread_22 rfl (by omega) (by decide) ?_
      refine c_if_ge (tgt := 29) dX9_spread_23 (by decide) (by omega) (fun h23 => ?_) (fun h23 => ?_)
      · refine z_aload_n dX9_spread_29 rfl rfl ?_
        refine z_getR (ci := 9) (kf := 1) dX9_spread_30 rfl (by decide) (by decide) rfl w_777 rfl ?_
        refine z_iload_n dX9_spread_33 rfl rfl ?_
        refine c_iald dX9_spread_34 rfl (by omega) (by decide) ?_
        refine z_istore dX9_spread_35 (by decide) rfl ?_
        refine z_iload dX9_spread_37 rfl ?_
        refine z_iload dX9_spread_39 rfl ?_
        refine c_iconst dX9_spread_41 ?_
        refine c_iadd dX9_spread_42 ?_
        refine c_imul dX9_spread_43 ?_
        refine c_iconst dX9_spread_44 ?_
        refine c_idiv dX9_spread_45 (by omega) (by omega) (by omega) (by omega) ?_
        rw [htd.1]
        refine z_istore dX9_spread_46 (by decide) rfl ?_
        refine z_iload_n dX9_spread_48 rfl rfl ?_
        refine c_if_lt (tgt := 65) dX9_spread_49 (by decide) (by omega) (fun h49 => ?_) (fun h49 => ?_)
        · refine c_bipush dX9_spread_65 (by decide) ?_
          refine c_ireturn dX9_spread_67 rfl ?_
          subst hQ0; refine ⟨_, _, rfl, ?_⟩; unfold aSpread; rw [cif_pos (by omega), cif_neg (by omega), cif_neg (by omega)]; exact ⟨rfl, pq_refl _, pp_refl _⟩
        · refine z_iload_n dX9_spread_52 rfl rfl ?_
          refine z_aload_n dX9_spread_53 rfl rfl ?_
          refine z_getR (ci := 9) (kf := 32) dX9_spread_54 rfl (by decide) (by decide) rfl w_808 rfl ?_
          refine z_iload_n dX9_spread_57 rfl rfl ?_
          refine c_iald dX9_spread_58 rfl (by omega) (by decide) ?_
          refine z_iload dX9_spread_59 rfl ?_
          refine c_isub dX9_spread_61 ?_
          refine c_icmp_le (tgt := 68) dX9_spread_62 (by decide) (by omega) (by omega) (fun h62 => ?_) (fun h62 => ?_)
          · refine c_bipush dX9_spread_68 (by decide) ?_
            refine z_iload_n dX9_spread_70 rfl rfl ?_
            refine c_imul dX9_spread_71 ?_
            refine z_iload_n dX9_spread_72 rfl rfl ?_
            refine c_iadd dX9_spread_73 ?_
            refine z_istore dX9_spread_74 (by decide) rfl ?_
            refine c_iconst dX9_spread_76 ?_
            refine z_istore dX9_spread_77 (by decide) rfl ?_
            have L79 : ∀ (m79 : Nat), ∀ (i kp : Int) (J1 : Nat → Nat → Int), (J 44 s.toNat - i).toNat = m79 → (0 ≤ i ∧ i ≤ J 44 s.toNat) → (kp = 40 * sh + f + tr i) → (J1 = jspread J (eE J s) (40 * sh + f).toNat (tr i).toNat) → Z g l MX9_spread 79 [some (.ref 42), some (.int (iZ s)), some (.int (iZ sh)), some (.int (iZ f)), some (.int (iZ (J 44 s.toNat))), some (.int (iZ (tr (J 44 s.toNat)))), some (.int (iZ kp)), some (.int (iZ i)), none] [] (KF Kd, zi J1, zj P, RF Rd, n, s0) Q0 := by
              intro m79
              induction m79 using Nat.strongRecOn with
              | ind m79 ih79 =>
                intro i kp J1 hm79 hi hkp hJ
                refine z_iload dX9_spread_79 rfl ?_
                refine z_iload dX9_spread_81 rfl ?_
                refine c_icmp_ge (tgt := 127) dX9_spread_83 (by decide) (by omega) (by omega) (fun h83 => ?_) (fun h83 => ?_)
                · refine z_iload dX9_spread_127 rfl ?_
                  refine c_ireturn dX9_spread_129 rfl ?_
                  subst hQ0; refine ⟨_, _, rfl, ?_⟩; unfold aSpread; rw [cif_pos (by omega), cif_neg (by omega), cif_pos (by omega)]; refine ⟨rfl, ?_, pp_refl _⟩
                  subst hJ; rw [show i = J 44 s.toNat by omega]; exact pq_refl _
                · refine c_iconst dX9_spread_86 ?_
                  refine z_istore dX9_spread_87 (by decide) rfl ?_
                  have L89 : ∀ (m89 : Nat), ∀ (j kp : Int) (J1 : Nat → Nat → Int), (i + 1 - j).toNat = m89 → (0 ≤ j ∧ j ≤ i + 1) → (kp = 40 * sh + f + tr i + j) → (J1 = jspread J (eE J s) (40 * sh + f).toNat (tr i + j).toNat) → Z g l MX9_spread 89 [some (.ref 42), some (.int (iZ s)), some (.int (iZ sh)), some (.int (iZ f)), some (.int (iZ (J 44 s.toNat))), some (.int (iZ (tr (J 44 s.toNat)))), some (.int (iZ kp)), some (.int (iZ i)), some (.int (iZ j))] [] (KF Kd, zi J1, zj P, RF Rd, n, s0) Q0 := by
                    intro m89
                    induction m89 using Nat.strongRecOn with
                    | ind m89 ih89 =>
                      intro j kp J1 hm89 hj hkp hJ
                      refine z_iload dX9_spread_89 rfl ?_
                      refine z_iload dX9_spread_91 rfl ?_
                      refine c_icmp_gt (tgt := 121) dX9_spread_93 (by decide) (by omega) (by omega) (fun h93 => ?_) (fun h93 => ?_)
                      · refine c_iinc dX9_spread_121 rfl (by decide) rfl ?_
                        refine z_goto (tgt := 79) dX9_spread_124 (by decide) ?_
                        exact Z.fg2 (ih79 _ (by omega) _ _ _ rfl (by omega) (by have := tr_succ (i := i) (by omega); omega) (by subst hJ; rw [show (tr (i + 1)).toNat = (tr i + j).toNat by rw [tr_succ (by omega)]; have := tr_bd (i := i); omega])) (zs1 rfl (zs1 rfl (zs1 rfl (zs1 rfl (zs1 rfl (zs1 rfl (zs1 rfl (zs1 rfl (zsn zs0)))))))))
                      · have htl := tr_le (i := i) (k := J 44 s.toNat) (by omega)
                        have hti := tr_bd (i := i)
                        refine z_aload_n dX9_spread_96 rfl rfl ?_
                        refine z_getR (ci := 9) (kf := 33) dX9_spread_97 rfl (by decide) (by decide) rfl w_809 rfl ?_
                        refine z_iload dX9_spread_100 rfl ?_
                        refine z_aload_n dX9_spread_102 rfl rfl ?_
                        refine z_iload_n dX9_spread_103 rfl rfl ?_
                        refine z_iload dX9_spread_104 rfl ?_
                        refine z_iload dX9_spread_106 rfl ?_
                        refine z_callv (N := MX9_entryAt) (ci := 9) (nas := 3) (as := [_, _, _]) dX9_spread_108 w_925 w_922 w_924 ws_25 w_8 (by decide +kernel) rfl rfl rfl (by decide) (Nat.le_of_ble_eq_true rfl) (by decide) (by decide) (ZC.mono (cMX9_entryAt (by omega)) ?_)
                        rintro _ _ ⟨rfl, rfl⟩
                        have e111 : J1 43 (16 * s + 4 * i + j).toNat = eE J s (triI (tr i + j).toNat) := by
                          subst hJ; rw [triI_at (by omega), show (16 * s + 4 * i + j).toNat = 16 * s.toNat + (4 * i.toNat + j.toNat) by omega]; unfold jspread; rw [if_neg (by omega)]; rfl
                        rw [e111]
                        refine c_iast dX9_spread_111 rfl (by omega) (by decide) ?_
                        subst hJ
                        rw [show kp.toNat = (40 * sh + f).toNat + (tr i + j).toNat by omega, jspread_step]
                        refine c_iinc dX9_spread_112 rfl (by decide) rfl ?_
                        refine c_iinc dX9_spread_115 rfl (by decide) rfl ?_
                        refine z_goto (tgt := 89) dX9_spread_118 (by decide) ?_
                        exact Z.fg2 (ih89 _ (by omega) _ _ _ rfl (by omega) (by omega) (by rw [show (tr i + (j + 1)).toNat = (tr i + j).toNat + 1 by have := tr_bd (i := i); omega])) (zs1 rfl (zs1 rfl (zs1 rfl (zs1 rfl (zs1 rfl (zs1 rfl (zs1 rfl (zs1 rfl (zs1 rfl zs0)))))))))
                  exact Z.fg2 (L89 _ _ _ _ rfl (by omega) (by omega) (by subst hJ; rw [Int.add_zero])) (zs1 rfl (zs1 rfl (zs1 rfl (zs1 rfl (zs1 rfl (zs1 rfl (zs1 rfl (zs1 rfl (zs1 rfl zs0)))))))))
            exact Z.fg2 (L79 _ _ _ _ rfl (by omega) (by have : tr 0 = 0 := rfl; omega) (by rw [show (tr 0).toNat = 0 from rfl, jspread_0])) (zs1 rfl (zs1 rfl (zs1 rfl (zs1 rfl (zs1 rfl (zs1 rfl (zs1 rfl (zs1 rfl (zsn zs0)))))))))
          · refine c_bipush dX9_spread_65 (by decide) ?_
            refine c_ireturn dX9_spread_67 rfl ?_
            subst hQ0; refine ⟨_, _, rfl, ?_⟩; unfold aSpread; rw [cif_pos (by omega), cif_neg (by omega), cif_neg (by omega)]; exact ⟨rfl, pq_refl _, pp_refl _⟩
      · refine c_bipush dX9_spread_26 (by decide) ?_
        refine c_ireturn dX9_spread_28 rfl ?_
        subst hQ0; refine ⟨_, _, rfl, ?_⟩; unfold aSpread; rw [cif_pos (by omega), cif_pos (by omega)]; exact ⟨rfl, pq_refl _, pp_refl _⟩
    · have g9 := (hb9.resolve_left (fun z => by have := z.1; omega)).2
      clear hb9
      refine c_iconst dX9_spread_15 ?_
      refine c_ireturn dX9_spread_16 rfl ?_
      subst hQ0; refine ⟨_, _, rfl, ?_⟩; unfold aSpread; rw [cif_neg (by omega)]; exact ⟨rfl, pq_refl _, pp_refl _⟩
set_option maxHeartbeats 4000000 in
set_option maxRecDepth 100000 in
theorem cMX9_form {s sh f k : Int} (h1 : rI s) (h2 : rI sh) (h3 : rI f) (h4 : rI k) (hS : okS J) : ZC g l MX9_form [.ref 42, .int (iZ s), .int (iZ sh), .int (iZ f), .int (iZ k)] (KF Kd, zi J, zj P, RF Rd, n, s0) (fun rr hh => ∃ J' P', hh = (KF Kd, zi J', zj P', RF Rd, n, s0) ∧ rr = some (.int (iZ (aForm J s sh f k).1)) ∧ pq (aForm J s sh f k).2 J' ∧ pp P P') := by
  refine ZC.of (by decide) (Nat.le_of_ble_eq_true rfl) ?_
  generalize hQ0 : (fun rr hh => ∃ J' P', hh = (KF Kd, zi J', zj P', RF Rd, n, s0) ∧ rr = some (.int (iZ (aForm J s sh f k).1)) ∧ pq (aForm J s sh f k).2 J' ∧ pp P P' : Option Value → ZH → Prop) = Q0
  show Z g l MX9_form 0 [some (.ref 42), some (.int (iZ s)), some (.int (iZ sh)), some (.int (iZ f)), some (.int (iZ k)), none, none, none, none, none] [] (KF Kd, zi J, zj P, RF Rd, n, s0) Q0
  refine z_iload_n dX9_form_0 rfl rfl ?_
  refine z_calls (N := MX9_isSlot) (nas := 1) (as := [_]) dX9_form_1 w_885 w_883 w_884 w_8 (by decide +kernel) rfl rfl (Nat.le_of_ble_eq_true rfl) (by decide) (by decide) (ZC.mono (b_isSlot (by omega)) ?_)
  rintro _ _ ⟨b1, rfl, rfl, hb1⟩
  refine c_if_eq (tgt := 27) dX9_form_4 (by decide) (by omega) (fun h4 => ?_) (fun h4 => ?_)
  · have g1 := (hb1.resolve_left (fun z => by have := z.1; omega)).2
    clear hb1
    refine c_iconst dX9_form_27 ?_
    refine c_ireturn dX9_form_28 rfl ?_
    subst hQ0; refine ⟨_, _, rfl, ?_⟩; unfold aForm; rw [cif_neg (by omega)]; exact ⟨rfl, pq_refl _, pp_refl _⟩
  · have g1 := (hb1.resolve_right (fun z => by have := z.1; omega)).2
    clear hb1
    refine z_iload_n dX9_form_7 rfl rfl ?_
    refine z_calls (N := MX9_isSheet) (nas := 1) (as := [_]) dX9_form_8 w_904 w_902 w_903 w_8 (by decide +kernel) rfl rfl (Nat.le_of_ble_eq_true rfl) (by decide) (by decide) (ZC.mono (cMX9_isSheet (by omega)) ?_)
    rintro _ _ ⟨b8, rfl, rfl, hb8⟩
    refine c_if_eq (tgt := 27) dX9_form_11 (by decide) (by omega) (fun h11 => ?_) (fun h11 => ?_)
    · have g8 := (hb8.resolve_left (fun z => by have := z.1; omega)).2
      clear hb8
      refine c_iconst dX9_form_27 ?_
      refine c_ireturn dX9_form_28 rfl ?_
      subst hQ0; refine ⟨_, _, rfl, ?_⟩; unfold aForm; rw [cif_neg (by omega)]; exact ⟨rfl, pq_refl _, pp_refl _⟩
    · have g8 := (hb8.resolve_right (fun z => by have := z.1; omega)).2
      clear hb8
      refine z_iload dX9_form_14 rfl ?_
      refine c_i2l dX9_form_16 (by omega) ?_
      refine c_lconst1 dX9_form_17 ?_
      refine c_ldc2 (z := 4) dX9_form_18 w_905 (by decide) ?_
      refine z_calls (N := MX9_in) (nas := 3) (as := [_, _, _]) dX9_form_21 w_889 w_887 w_888 w_8 (by decide +kernel) rfl rfl (Nat.le_of_ble_eq_true rfl) (by decide) (by decide) (ZC.mono (b_in (by omega) (by omega) (by omega)) ?_)
      rintro _ _ ⟨b21, rfl, rfl, hb21⟩
      refine c_if_ne (tgt := 29) dX9_form_24 (by decide) (by omega) (fun h24 => ?_) (fun h24 => ?_)
      · have g21 := (hb21.resolve_right (fun z => by have := z.1; omega)).2
        clear hb21
        have hs4 := hS.1 sh.toNat (by omega)
        have htd := tr_div (k := k) (by omega)
        have htb := tr_bd (i := k)
        refine z_aload_n dX9_form_29 rfl rfl ?_
        refine z_getR (ci := 9) (kf := 31) dX9_form_30 rfl (by decide) (by decide) rfl w_807 rfl ?_
        refine z_iload_n dX9_form_33 rfl rfl ?_
        refine c_iald dX9_form_34 rfl (by omega) (by decide) ?_
        refine c_if_ge (tgt := 41) dX9_form_35 (by decide) (by omega) (fun h35 => ?_) (fun h35 => ?_)
        · refine z_iload dX9_form_41 rfl ?_
          refine z_iload dX9_form_43 rfl ?_
          refine c_iconst dX9_form_45 ?_
          refine c_iadd dX9_form_46 ?_
          refine c_imul dX9_form_47 ?_
          refine c_iconst dX9_form_48 ?_
          refine c_idiv dX9_form_49 (by omega) (by omega) (by omega) (by omega) ?_
          rw [htd.1]
          refine z_istore dX9_form_50 (by decide) rfl ?_
          refine z_iload_n dX9_form_52 rfl rfl ?_
          refine c_if_lt (tgt := 69) dX9_form_53 (by decide) (by omega) (fun h53 => ?_) (fun h53 => ?_)
          · refine c_bipush dX9_form_69 (by decide) ?_
            refine c_ireturn dX9_form_71 rfl ?_
            subst hQ0; refine ⟨_, _, rfl, ?_⟩; unfold aForm; rw [cif_pos (by omega), cif_neg (by omega), cif_neg (by omega)]; exact ⟨rfl, pq_refl _, pp_refl _⟩
          · refine z_iload_n dX9_form_56 rfl rfl ?_
            refine z_aload_n dX9_form_57 rfl rfl ?_
            refine z_getR (ci := 9) (kf := 32) dX9_form_58 rfl (by decide) (by decide) rfl w_808 rfl ?_
            refine z_iload_n dX9_form_61 rfl rfl ?_
            refine c_iald dX9_form_62 rfl (by omega) (by decide) ?_
            refine z_iload dX9_form_63 rfl ?_
            refine c_isub dX9_form_65 ?_
            refine c_icmp_le (tgt := 72) dX9_form_66 (by decide) (by omega) (by omega) (fun h66 => ?_) (fun h66 => ?_)
            · refine z_aload_n dX9_form_72 rfl rfl ?_
              refine c_bipush dX9_form_73 (by decide) ?_
              refine z_callv (N := MX9_clearAt) (ci := 9) (nas := 1) (as := [_]) dX9_form_75 w_893 w_890 w_892 ws_20 w_8 (by decide +kernel) rfl rfl rfl (by decide) (Nat.le_of_ble_eq_true rfl) (by decide) (by decide) (ZC.mono (j_clearAt (by omega)) ?_)
              rintro _ _ ⟨rfl, rfl⟩
              refine z_aload_n dX9_form_78 rfl rfl ?_
              refine z_getR (ci := 9) (kf := 1) dX9_form_79 rfl (by decide) (by decide) rfl w_777 rfl ?_
              refine c_bipush dX9_form_82 (by decide) ?_
              refine z_iload dX9_form_84 rfl ?_
              refine c_iast dX9_form_86 rfl (by omega) (by decide) ?_
              rw [show zup (jput J (72 : Int).toNat 0 (fun _ => 0)) 44 (72 : Int).toNat k = jput J 72 k (fun _ => 0) from jput_setl]
              refine c_bipush dX9_form_87 (by decide) ?_
              refine z_iload_n dX9_form_89 rfl rfl ?_
              refine c_imul dX9_form_90 ?_
              refine z_iload_n dX9_form_91 rfl rfl ?_
              refine c_iadd dX9_form_92 ?_
              refine z_istore dX9_form_93 (by decide) rfl ?_
              refine c_iconst dX9_form_95 ?_
              refine z_istore dX9_form_96 (by decide) rfl ?_
              refine c_iconst dX9_form_98 ?_
              refine z_istore dX9_form_99 (by decide) rfl ?_
              have L101 : ∀ (m101 : Nat), ∀ (i kp gb : Int) (J1 : Nat → Nat → Int), (k - i).toNat = m101 → (0 ≤ i ∧ i ≤ k) → (kp = 40 * sh + f + tr i) → ((gb = 1 ∧ (∀ x : Nat, (x : Int) < tr i → -99 ≤ J 65 ((40 * sh + f).toNat + x) ∧ J 65 ((40 * sh + f).toNat + x) ≤ 99)) ∨ (gb = 0 ∧ ¬ (∀ x : Nat, (x : Int) < tr i → -99 ≤ J 65 ((40 * sh + f).toNat + x) ∧ J 65 ((40 * sh + f).toNat + x) ≤ 99))) → (J1 = jput J 72 k (formK (fun x : Nat => J 65 ((40 * sh + f).toNat + x)) i 0)) → Z g l MX9_form 101 [some (.ref 42), some (.int (iZ s)), some (.int (iZ sh)), some (.int (iZ f)), some (.int (iZ k)), some (.int (iZ (tr k))), some (.int (iZ kp)), some (.int (iZ gb)), some (.int (iZ i)), none] [] (KF Kd, zi J1, zj P, RF Rd, n, s0) Q0 := by
                intro m101
                induction m101 using Nat.strongRecOn with
                | ind m101 ih101 =>
                  intro i kp gb J1 hm101 hi hkp hg hJ
                  refine z_iload dX9_form_101 rfl ?_
                  refine z_iload dX9_form_103 rfl ?_
                  refine c_icmp_ge (tgt := 182) dX9_form_105 (by decide) (by omega) (by omega) (fun h105 => ?_) (fun h105 => ?_)
                  · subst hJ
                    rw [jput_ext (formK_end (N := (fun x : Nat => J 65 ((40 * sh + f).toNat + x))) (i := i) (by omega)), show i.toNat = k.toNat by omega]
                    rw [show i = k by omega] at hg
                    refine z_iload dX9_form_182 rfl ?_
                    refine c_if_ne (tgt := 189) dX9_form_184 (by decide) (by omega) (fun h184 => ?_) (fun h184 => ?_)
                    · refine z_aload_n dX9_form_189 rfl rfl ?_
                      refine z_iload_n dX9_form_190 rfl rfl ?_
                      have hgA := (hg.resolve_right (fun z => by have := z.1; omega)).2
                      have hEf := formE_ent (N := (fun x : Nat => J 65 ((40 * sh + f).toNat + x))) (k := k) (by omega) hgA
                      have hR191 := entS_rng hEf
                      have hds := detS_small (k := k) hEf formE_sym (by omega)
                      refine z_callv (N := MX9_comes) (ci := 9) (nas := 1) (as := [_]) dX9_form_191 w_910 w_907 w_909 ws_22 w_8 (by decide +kernel) rfl rfl rfl (by decide) (Nat.le_of_ble_eq_true rfl) (by decide) (by decide) (ZC.mono (cMX9_comes (by omega) (by omega) hR191) ?_)
                      rintro _ _ ⟨J191, P191, r191, rfl, rfl, hr191, hpp191⟩
                      have hr9 : rI r191 := by rcases hr191 with h | h <;> (have := h.2.1; omega)
                      refine c_if_ge (tgt := 202) dX9_form_194 (by decide) (by omega) (fun h194 => ?_) (fun h194 => ?_)
                      · refine z_iload dX9_form_202 rfl ?_
                        refine c_ireturn dX9_form_204 rfl ?_
                        subst hQ0; refine ⟨_, _, rfl, ?_⟩; unfold aForm; rw [cif_pos (by omega), cif_neg (by omega), cif_pos (by omega), cif_pos hgA]; unfold aComes
                        rcases hr191 with ⟨z1, z2, z3⟩ | ⟨z1, z2, z3⟩
                        · rw [cif_pos z1]; subst z3; first | exact ⟨rfl, pq_jput pq_new, hpp191⟩ | (exfalso; omega)
                        · rw [cif_neg z1]; subst z3; first | exact ⟨rfl, pq_new, hpp191⟩ | (exfalso; omega)
                      · refine c_bipush dX9_form_197 (by decide) ?_
                        refine z_goto (tgt := 204) dX9_form_199 (by decide) ?_
                        refine c_ireturn dX9_form_204 rfl ?_
                        subst hQ0; refine ⟨_, _, rfl, ?_⟩; unfold aForm; rw [cif_pos (by omega), cif_neg (by omega), cif_pos (by omega), cif_pos hgA]; unfold aComes
                        rcases hr191 with ⟨z1, z2, z3⟩ | ⟨z1, z2, z3⟩
                        · rw [cif_pos z1]; subst z3; first | exact ⟨rfl, pq_jput pq_new, hpp191⟩ | (exfalso; omega)
                        · rw [cif_neg z1]; subst z3; first | exact ⟨rfl, pq_new, hpp191⟩ | (exfalso; omega)
                    · refine c_iconst dX9_form_187 ?_
                      refine c_ireturn dX9_form_188 rfl ?_
                      subst hQ0; refine ⟨_, _, rfl, ?_⟩; unfold aForm; rw [cif_pos (by omega), cif_neg (by omega), cif_pos (by omega), cif_neg (hg.resolve_left (fun z => by have := z.1; omega)).2]; exact ⟨rfl, pq_new, pp_refl _⟩
                  · refine c_iconst dX9_form_108 ?_
                    refine z_istore dX9_form_109 (by decide) rfl ?_
                    have L111 : ∀ (m111 : Nat), ∀ (j kp gb : Int) (J1 : Nat → Nat → Int), (i + 1 - j).toNat = m111 → (0 ≤ j ∧ j ≤ i + 1) → (kp = 40 * sh + f + tr i + j) → ((gb = 1 ∧ (∀ x : Nat, (x : Int) < tr i + j → -99 ≤ J 65 ((40 * sh + f).toNat + x) ∧ J 65 ((40 * sh + f).toNat + x) ≤ 99)) ∨ (gb = 0 ∧ ¬ (∀ x : Nat, (x : Int) < tr i + j → -99 ≤ J 65 ((40 * sh + f).toNat + x) ∧ J 65 ((40 * sh + f).toNat + x) ≤ 99))) → (J1 = jput J 72 k (formK (fun x : Nat => J 65 ((40 * sh + f).toNat + x)) i j)) → Z g l MX9_form 111 [some (.ref 42), some (.int (iZ s)), some (.int (iZ sh)), some (.int (iZ f)), some (.int (iZ k)), some (.int (iZ (tr k))), some (.int (iZ kp)), some (.int (iZ gb)), some (.int (iZ i)), some (.int (iZ j))] [] (KF Kd, zi J1, zj P, RF Rd, n, s0) Q0 := by
                      intro m111
                      induction m111 using Nat.strongRecOn with
                      | ind m111 ih111 =>
                        intro j kp gb J1 hm111 hj hkp hg hJ
                        refine z_iload dX9_form_111 rfl ?_
                        refine z_iload dX9_form_113 rfl ?_
                        refine c_icmp_gt (tgt := 176) dX9_form_115 (by decide) (by omega) (by omega) (fun h115 => ?_) (fun h115 => ?_)
                        · refine c_iinc dX9_form_176 rfl (by decide) rfl ?_
                          refine z_goto (tgt := 101) dX9_form_179 (by decide) ?_
                          exact Z.fg2 (ih101 _ (by omega) _ _ _ _ rfl (by omega) (by have := tr_succ (i := i) (by omega); omega) (by rw [tr_succ (by omega), show tr i + i + 1 = tr i + j by omega]; exact hg) (by subst hJ; rw [show j = i + 1 by omega, formK_row])) (zs1 rfl (zs1 rfl (zs1 rfl (zs1 rfl (zs1 rfl (zs1 rfl (zs1 rfl (zs1 rfl (zs1 rfl (zsn zs0))))))))))
                        · have htl := tr_le (i := i) (k := k) (by omega)
                          have hti := tr_bd (i := i)
                          have e129 : J1 65 kp.toNat = J 65 ((40 * sh + f).toNat + (tr i + j).toNat) := by
                            subst hJ; rw [jput_off (by decide) (by decide)]; congr 1; omega
                          have hrn := hS.2 ((40 * sh + f).toNat + (tr i + j).toNat) (by omega)
                          have L150 : ∀ (gn : Int), ((gn = 1 ∧ (∀ x : Nat, (x : Int) < tr i + (j + 1) → -99 ≤ J 65 ((40 * sh + f).toNat + x) ∧ J 65 ((40 * sh + f).toNat + x) ≤ 99)) ∨ (gn = 0 ∧ ¬ (∀ x : Nat, (x : Int) < tr i + (j + 1) → -99 ≤ J 65 ((40 * sh + f).toNat + x) ∧ J 65 ((40 * sh + f).toNat + x) ≤ 99))) → Z g l MX9_form 150 [some (.ref 42), some (.int (iZ s)), some (.int (iZ sh)), some (.int (iZ f)), some (.int (iZ k)), some (.int (iZ (tr k))), some (.int (iZ kp)), some (.int (iZ gn)), some (.int (iZ i)), some (.int (iZ j))] [] (KF Kd, zi J1, zj P, RF Rd, n, s0) Q0 := by
                            intro gn gnew
                            refine z_aload_n dX9_form_150 rfl rfl ?_
                            refine c_bipush dX9_form_151 (by decide) ?_
                            refine z_iload dX9_form_153 rfl ?_
                            refine z_iload dX9_form_155 rfl ?_
                            refine z_aload_n dX9_form_157 rfl rfl ?_
                            refine z_getR (ci := 9) (kf := 33) dX9_form_158 rfl (by decide) (by decide) rfl w_809 rfl ?_
                            refine z_iload dX9_form_161 rfl ?_
                            refine c_iald dX9_form_163 rfl (by omega) (by decide) ?_
                            rw [e129]
                            subst hJ
                            refine z_callv (N := MX9_layEntry) (ci := 9) (nas := 4) (as := [_, _, _, _]) dX9_form_164 w_897 w_894 w_896 ws_21 w_8 (by decide +kernel) rfl rfl rfl (by decide) (Nat.le_of_ble_eq_true rfl) (by decide) (by decide) (ZC.mono (j_layEntry (by omega) (by omega) (by omega)) ?_)
                            rintro _ _ ⟨rfl, rfl⟩
                            refine c_iinc dX9_form_167 rfl (by decide) rfl ?_
                            refine c_iinc dX9_form_170 rfl (by decide) rfl ?_
                            refine z_goto (tgt := 111) dX9_form_173 (by decide) ?_
                            exact Z.fg2 (ih111 _ (by omega) _ _ _ _ rfl (by omega) (by omega) gnew (jput_ext (formK_step (N := (fun x : Nat => J 65 ((40 * sh + f).toNat + x))) (by omega)))) (zs1 rfl (zs1 rfl (zs1 rfl (zs1 rfl (zs1 rfl (zs1 rfl (zs1 rfl (zs1 rfl (zs1 rfl (zs1 rfl zs0))))))))))
                          refine z_iload dX9_form_118 rfl ?_
                          refine c_if_eq (tgt := 147) dX9_form_120 (by decide) (by omega) (fun h120 => ?_) (fun h120 => ?_)
                          · refine c_iconst dX9_form_147 ?_
                            refine z_istore dX9_form_148 (by decide) rfl ?_
                            exact Z.fg2 (L150 _ (by first | exact Or.inl ⟨rfl, fun x hx => by by_cases hx2 : (x : Int) < tr i + j; exact (hg.resolve_right (fun z => by have := z.1; omega)).2 x hx2; (rw [show x = (tr i + j).toNat by omega]; omega)⟩ | exact Or.inr ⟨rfl, fun z => (hg.resolve_left (fun y => by have := y.1; omega)).2 (fun x hx => z x (by omega))⟩ | exact Or.inr ⟨rfl, fun z => by have := z (tr i + j).toNat (by omega); omega⟩)) (zs1 rfl (zs1 rfl (zs1 rfl (zs1 rfl (zs1 rfl (zs1 rfl (zs1 rfl (zs1 rfl (zs1 rfl (zs1 rfl zs0))))))))))
                          · refine z_aload_n dX9_form_123 rfl rfl ?_
                            refine z_getR (ci := 9) (kf := 33) dX9_form_124 rfl (by decide) (by decide) rfl w_809 rfl ?_
                            refine z_iload dX9_form_127 rfl ?_
                            refine c_iald dX9_form_129 rfl (by omega) (by decide) ?_
                            rw [e129]
                            refine c_i2l dX9_form_130 (by omega) ?_
                            refine c_ldc2 (z := -99) dX9_form_131 w_906 (by decide) ?_
                            refine c_ldc2 (z := 99) dX9_form_134 w_886 (by decide) ?_
                            refine z_calls (N := MX9_in) (nas := 3) (as := [_, _, _]) dX9_form_137 w_889 w_887 w_888 w_8 (by decide +kernel) rfl rfl (Nat.le_of_ble_eq_true rfl) (by decide) (by decide) (ZC.mono (b_in (by omega) (by omega) (by omega)) ?_)
                            rintro _ _ ⟨b137, rfl, rfl, hb137⟩
                            refine c_if_eq (tgt := 147) dX9_form_140 (by decide) (by omega) (fun h140 => ?_) (fun h140 => ?_)
                            · have g137 := (hb137.resolve_left (fun z => by have := z.1; omega)).2
                              clear hb137
                              refine c_iconst dX9_form_147 ?_
                              refine z_istore dX9_form_148 (by decide) rfl ?_
                              exact Z.fg2 (L150 _ (by first | exact Or.inl ⟨rfl, fun x hx => by by_cases hx2 : (x : Int) < tr i + j; exact (hg.resolve_right (fun z => by have := z.1; omega)).2 x hx2; (rw [show x = (tr i + j).toNat by omega]; omega)⟩ | exact Or.inr ⟨rfl, fun z => (hg.resolve_left (fun y => by have := y.1; omega)).2 (fun x hx => z x (by omega))⟩ | exact Or.inr ⟨rfl, fun z => by have := z (tr i + j).toNat (by omega); omega⟩)) (zs1 rfl (zs1 rfl (zs1 rfl (zs1 rfl (zs1 rfl (zs1 rfl (zs1 rfl (zs1 rfl (zs1 rfl (zs1 rfl zs0))))))))))
                            · have g137 := (hb137.resolve_right (fun z => by have := z.1; omega)).2
                              clear hb137
                              refine c_iconst dX9_form_143 ?_
                              refine z_goto (tgt := 148) dX9_form_144 (by decide) ?_
                              refine z_istore dX9_form_148 (by decide) rfl ?_
                              exact Z.fg2 (L150 _ (by first | exact Or.inl ⟨rfl, fun x hx => by by_cases hx2 : (x : Int) < tr i + j; exact (hg.resolve_right (fun z => by have := z.1; omega)).2 x hx2; (rw [show x = (tr i + j).toNat by omega]; omega)⟩ | exact Or.inr ⟨rfl, fun z => (hg.resolve_left (fun y => by have := y.1; omega)).2 (fun x hx => z x (by omega))⟩ | exact Or.inr ⟨rfl, fun z => by have := z (tr i + j).toNat (by omega); omega⟩)) (zs1 rfl (zs1 rfl (zs1 rfl (zs1 rfl (zs1 rfl (zs1 rfl (zs1 rfl (zs1 rfl (zs1 rfl (zs1 rfl zs0))))))))))
                    exact Z.fg2 (L111 _ _ _ _ _ rfl (by omega) (by omega) (by rw [Int.add_zero]; exact hg) hJ) (zs1 rfl (zs1 rfl (zs1 rfl (zs1 rfl (zs1 rfl (zs1 rfl (zs1 rfl (zs1 rfl (zs1 rfl (zs1 rfl zs0))))))))))
              exact Z.fg2 (L101 _ _ _ _ _ rfl (by omega) (by have : tr 0 = 0 := rfl; omega) (Or.inl ⟨rfl, fun x hx => absurd hx (by have : tr 0 = 0 := rfl; omega)⟩) (jput_ext (fun q _ => by unfold formK; rw [if_neg (by omega)]))) (zs1 rfl (zs1 rfl (zs1 rfl (zs1 rfl (zs1 rfl (zs1 rfl (zs1 rfl (zs1 rfl (zs1 rfl (zsn zs0))))))))))
            · refine c_bipush dX9_form_69 (by decide) ?_
              refine c_ireturn dX9_form_71 rfl ?_
              subst hQ0; refine ⟨_, _, rfl, ?_⟩; unfold aForm; rw [cif_pos (by omega), cif_neg (by omega), cif_neg (by omega)]; exact ⟨rfl, pq_refl _, pp_refl _⟩
        · refine c_bipush dX9_form_38 (by decide) ?_
          refine c_ireturn dX9_form_40 rfl ?_
          subst hQ0; refine ⟨_, _, rfl, ?_⟩; unfold aForm; rw [cif_pos (by omega), cif_pos (by omega)]; exact ⟨rfl, pq_refl _, pp_refl _⟩
      · have g21 := (hb21.resolve_left (fun z => by have := z.1; omega)).2
        clear hb21
        refine c_iconst dX9_form_27 ?_
        refine c_ireturn dX9_form_28 rfl ?_
        subst hQ0; refine ⟨_, _, rfl, ?_⟩; unfold aForm; rw [cif_neg (by omega)]; exact ⟨rfl, pq_refl _, pp_refl _⟩
end Ref10
