section Ref7
variable {g : ZG} {l : Launch} {Kd : ZK} {Rd : ZR} {n s0 : Nat} {J P : Nat → Nat → Int}
set_option maxHeartbeats 4000000 in
set_option maxRecDepth 100000 in
theorem cMX9_isSheet {v : Int} (hv : rI v) : ZC g l MX9_isSheet [.int (iZ v)] (KF Kd, zi J, zj P, RF Rd, n, s0) (fun rr hh => ∃ b : Int, rr = some (.int (iZ b)) ∧ hh = (KF Kd, zi J, zj P, RF Rd, n, s0) ∧ ((b = 1 ∧ (0 ≤ v ∧ v < 4)) ∨ (b = 0 ∧ ¬ (0 ≤ v ∧ v < 4)))) := by
  refine ZC.of (by decide) (Nat.le_of_ble_eq_true rfl) ?_
  generalize hQ0 : (fun rr hh => ∃ b : Int, rr = some (.int (iZ b)) ∧ hh = (KF Kd, zi J, zj P, RF Rd, n, s0) ∧ ((b = 1 ∧ (0 ≤ v ∧ v < 4)) ∨ (b = 0 ∧ ¬ (0 ≤ v ∧ v < 4))) : Option Value → ZH → Prop) = Q0
  show Z g l MX9_isSheet 0 [some (.int (iZ v))] [] (KF Kd, zi J, zj P, RF Rd, n, s0) Q0
  refine z_iload_n dX9_isSheet_0 rfl rfl ?_
  refine c_if_lt (tgt := 13) dX9_isSheet_1 (by decide) (by omega) (fun h1 => ?_) (fun h1 => ?_)
  · refine c_iconst dX9_isSheet_13 ?_
    refine c_zreturn dX9_isSheet_14 rfl (by omega) ?_
    subst hQ0; exact ⟨_, rfl, rfl, by omega⟩
  · refine z_iload_n dX9_isSheet_4 rfl rfl ?_
    refine c_iconst dX9_isSheet_5 ?_
    refine c_icmp_ge (tgt := 13) dX9_isSheet_6 (by decide) (by omega) (by omega) (fun h6 => ?_) (fun h6 => ?_)
    · refine c_iconst dX9_isSheet_13 ?_
      refine c_zreturn dX9_isSheet_14 rfl (by omega) ?_
      subst hQ0; exact ⟨_, rfl, rfl, by omega⟩
    · refine c_iconst dX9_isSheet_9 ?_
      refine z_goto (tgt := 14) dX9_isSheet_10 (by decide) ?_
      refine c_zreturn dX9_isSheet_14 rfl (by omega) ?_
      subst hQ0; exact ⟨_, rfl, rfl, by omega⟩
set_option maxHeartbeats 4000000 in
set_option maxRecDepth 100000 in
theorem cMX9_lowest {sh v : Int} (hs : 0 ≤ sh ∧ sh < 4) (hr : rI (J 63 sh.toNat)) : ZC g l MX9_lowest [.ref 42, .int (iZ sh), .int (iZ v)] (KF Kd, zi J, zj P, RF Rd, n, s0) (fun rr hh => rr = some (.int (iZ (lowS (J 63 sh.toNat) v))) ∧ hh = (KF Kd, zi J, zj P, RF Rd, n, s0)) := by
  refine ZC.of (by decide) (Nat.le_of_ble_eq_true rfl) ?_
  generalize hQ0 : (fun rr hh => rr = some (.int (iZ (lowS (J 63 sh.toNat) v))) ∧ hh = (KF Kd, zi J, zj P, RF Rd, n, s0) : Option Value → ZH → Prop) = Q0
  show Z g l MX9_lowest 0 [some (.ref 42), some (.int (iZ sh)), some (.int (iZ v))] [] (KF Kd, zi J, zj P, RF Rd, n, s0) Q0
  refine z_aload_n dX9_lowest_0 rfl rfl ?_
  refine z_getR (ci := 9) (kf := 31) dX9_lowest_1 rfl (by decide) (by decide) rfl w_807 rfl ?_
  refine z_iload_n dX9_lowest_4 rfl rfl ?_
  refine c_iald dX9_lowest_5 rfl (by omega) (by decide) ?_
  refine c_if_ne (tgt := 14) dX9_lowest_6 (by decide) (by omega) (fun h6 => ?_) (fun h6 => ?_)
  · refine z_iload_n dX9_lowest_14 rfl rfl ?_
    refine c_ireturn dX9_lowest_15 rfl ?_
    subst hQ0; refine ⟨?_, rfl⟩; unfold lowS; first | rw [if_pos (by omega)] | rw [if_neg (by omega)]
  · refine z_iload_n dX9_lowest_9 rfl rfl ?_
    refine c_i2b dX9_lowest_10 ?_
    refine z_goto (tgt := 15) dX9_lowest_11 (by decide) ?_
    refine c_ireturn dX9_lowest_15 rfl ?_
    subst hQ0; refine ⟨?_, rfl⟩; unfold lowS; first | rw [if_pos (by omega)] | rw [if_neg (by omega)]
set_option maxHeartbeats 4000000 in
set_option maxRecDepth 100000 in
theorem cMX9_sheet {sh so k : Int} (h1 : rI sh) (h2 : rI so) (h3 : rI k) : ZC g l MX9_sheet [.ref 42, .int (iZ sh), .int (iZ so), .int (iZ k)] (KF Kd, zi J, zj P, RF Rd, n, s0) (fun rr hh => ∃ J' P', hh = (KF Kd, zi J', zj P', RF Rd, n, s0) ∧ rr = some (.int (iZ (aSheet J sh so k).1)) ∧ pq (aSheet J sh so k).2 J' ∧ pp P P') := by
  refine ZC.of (by decide) (Nat.le_of_ble_eq_true rfl) ?_
  generalize hQ0 : (fun rr hh => ∃ J' P', hh = (KF Kd, zi J', zj P', RF Rd, n, s0) ∧ rr = some (.int (iZ (aSheet J sh so k).1)) ∧ pq (aSheet J sh so k).2 J' ∧ pp P P' : Option Value → ZH → Prop) = Q0
  show Z g l MX9_sheet 0 [some (.ref 42), some (.int (iZ sh)), some (.int (iZ so)), some (.int (iZ k)), none] [] (KF Kd, zi J, zj P, RF Rd, n, s0) Q0
  refine z_iload_n dX9_sheet_0 rfl rfl ?_
  refine z_calls (N := MX9_isSheet) (nas := 1) (as := [_]) dX9_sheet_1 w_904 w_902 w_903 w_8 (by decide +kernel) rfl rfl (Nat.le_of_ble_eq_true rfl) (by decide) (by decide) (ZC.mono (cMX9_isSheet (by omega)) ?_)
  rintro _ _ ⟨b1, rfl, rfl, hb1⟩
  refine c_if_eq (tgt := 29) dX9_sheet_4 (by decide) (by omega) (fun h4 => ?_) (fun h4 => ?_)
  · have g1 := (hb1.resolve_left (fun z => by have := z.1; omega)).2
    clear hb1
    refine c_iconst dX9_sheet_29 ?_
    refine c_ireturn dX9_sheet_30 rfl ?_
    subst hQ0; refine ⟨_, _, rfl, ?_⟩; unfold aSheet; rw [cif_neg (by omega)]; exact ⟨rfl, pq_refl _, pp_refl _⟩
  · have g1 := (hb1.resolve_right (fun z => by have := z.1; omega)).2
    clear hb1
    refine z_iload_n dX9_sheet_7 rfl rfl ?_
    refine c_i2l dX9_sheet_8 (by omega) ?_
    refine c_ldc2 (z := -1) dX9_sheet_9 w_979 (by decide) ?_
    refine c_lconst1 dX9_sheet_12 ?_
    refine z_calls (N := MX9_in) (nas := 3) (as := [_, _, _]) dX9_sheet_13 w_889 w_887 w_888 w_8 (by decide +kernel) rfl rfl (Nat.le_of_ble_eq_true rfl) (by decide) (by decide) (ZC.mono (b_in (by omega) (by omega) (by omega)) ?_)
    rintro _ _ ⟨b13, rfl, rfl, hb13⟩
    refine c_if_eq (tgt := 29) dX9_sheet_16 (by decide) (by omega) (fun h16 => ?_) (fun h16 => ?_)
    · have g13 := (hb13.resolve_left (fun z => by have := z.1; omega)).2
      clear hb13
      refine c_iconst dX9_sheet_29 ?_
      refine c_ireturn dX9_sheet_30 rfl ?_
      subst hQ0; refine ⟨_, _, rfl, ?_⟩; unfold aSheet; rw [cif_neg (by omega)]; exact ⟨rfl, pq_refl _, pp_refl _⟩
    · have g13 := (hb13.resolve_right (fun z => by have := z.1; omega)).2
      clear hb13
      refine z_iload_n dX9_sheet_19 rfl rfl ?_
      refine c_if_lt (tgt := 31) dX9_sheet_20 (by decide) (by omega) (fun h20 => ?_) (fun h20 => ?_)
      · refine z_iload_n dX9_sheet_31 rfl rfl ?_
        refine c_if_lt (tgt := 42) dX9_sheet_32 (by decide) (by omega) (fun h32 => ?_) (fun h32 => ?_)
        · refine z_aload_n dX9_sheet_42 rfl rfl ?_
          refine z_getR (ci := 9) (kf := 31) dX9_sheet_43 rfl (by decide) (by decide) rfl w_807 rfl ?_
          refine z_iload_n dX9_sheet_46 rfl rfl ?_
          refine z_iload_n dX9_sheet_47 rfl rfl ?_
          refine c_iast dX9_sheet_48 rfl (by omega) (by decide) ?_
          refine z_aload_n dX9_sheet_49 rfl rfl ?_
          refine z_getR (ci := 9) (kf := 32) dX9_sheet_50 rfl (by decide) (by decide) rfl w_808 rfl ?_
          refine z_iload_n dX9_sheet_53 rfl rfl ?_
          refine z_iload_n dX9_sheet_54 rfl rfl ?_
          refine c_if_ge (tgt := 62) dX9_sheet_55 (by decide) (by omega) (fun h55 => ?_) (fun h55 => ?_)
          · refine z_iload_n dX9_sheet_62 rfl rfl ?_
            refine c_iast dX9_sheet_63 rfl (by omega) (by decide) ?_
            refine c_iconst dX9_sheet_64 ?_
            refine z_istore dX9_sheet_65 (by decide) rfl ?_
            have L67 : ∀ (m67 : Nat), ∀ (m : Int) (J1 : Nat → Nat → Int), (40 - m).toNat = m67 → (0 ≤ m ∧ m ≤ 40) → (J1 = (fun a q => if a = 63 ∧ q = sh.toNat then so else if a = 64 ∧ q = sh.toNat then (if so < 0 then 0 else k) else if a = 65 ∧ 40 * sh.toNat ≤ q ∧ q < 40 * sh.toNat + m.toNat then 0 else J a q)) → Z g l MX9_sheet 67 [some (.ref 42), some (.int (iZ sh)), some (.int (iZ so)), some (.int (iZ k)), some (.int (iZ m))] [] (KF Kd, zi J1, zj P, RF Rd, n, s0) Q0 := by
              intro m67
              induction m67 using Nat.strongRecOn with
              | ind m67 ih67 =>
                intro m J1 hm67 hm hJ
                refine z_iload dX9_sheet_67 rfl ?_
                refine c_bipush dX9_sheet_69 (by decide) ?_
                refine c_icmp_ge (tgt := 93) dX9_sheet_71 (by decide) (by omega) (by omega) (fun h71 => ?_) (fun h71 => ?_)
                · refine c_iconst dX9_sheet_93 ?_
                  refine c_ireturn dX9_sheet_94 rfl ?_
                  subst hQ0; refine ⟨_, _, rfl, ?_⟩; unfold aSheet; rw [cif_pos (by omega), cif_neg (by omega)]; refine ⟨rfl, ?_, pp_refl _⟩
                  have hm40 : m = 40 := by omega
                  subst hm40; subst hJ; exact pq_refl _
                · refine z_aload_n dX9_sheet_74 rfl rfl ?_
                  refine z_getR (ci := 9) (kf := 33) dX9_sheet_75 rfl (by decide) (by decide) rfl w_809 rfl ?_
                  refine c_bipush dX9_sheet_78 (by decide) ?_
                  refine z_iload_n dX9_sheet_80 rfl rfl ?_
                  refine c_imul dX9_sheet_81 ?_
                  refine z_iload dX9_sheet_82 rfl ?_
                  refine c_iadd dX9_sheet_84 ?_
                  refine c_iconst dX9_sheet_85 ?_
                  refine c_iast dX9_sheet_86 rfl (by omega) (by decide) ?_
                  refine c_iinc dX9_sheet_87 rfl (by decide) rfl ?_
                  refine z_goto (tgt := 67) dX9_sheet_90 (by decide) ?_
                  exact Z.fg2 (ih67 _ (by omega) _ _ rfl (by omega) (by clear ih67 hQ0; subst hJ; funext a q; simp only [zup]; grind (splits := 15))) (zs1 rfl (zs1 rfl (zs1 rfl (zs1 rfl (zs1 rfl zs0)))))
            exact Z.fg2 (L67 _ _ _ rfl (by omega) (by clear hQ0; funext a q; simp only [zup]; grind (splits := 15))) (zs1 rfl (zs1 rfl (zs1 rfl (zs1 rfl (zs1 rfl zs0)))))
          · refine c_iconst dX9_sheet_58 ?_
            refine z_goto (tgt := 63) dX9_sheet_59 (by decide) ?_
            refine c_iast dX9_sheet_63 rfl (by omega) (by decide) ?_
            refine c_iconst dX9_sheet_64 ?_
            refine z_istore dX9_sheet_65 (by decide) rfl ?_
            have L67 : ∀ (m67 : Nat), ∀ (m : Int) (J1 : Nat → Nat → Int), (40 - m).toNat = m67 → (0 ≤ m ∧ m ≤ 40) → (J1 = (fun a q => if a = 63 ∧ q = sh.toNat then so else if a = 64 ∧ q = sh.toNat then (if so < 0 then 0 else k) else if a = 65 ∧ 40 * sh.toNat ≤ q ∧ q < 40 * sh.toNat + m.toNat then 0 else J a q)) → Z g l MX9_sheet 67 [some (.ref 42), some (.int (iZ sh)), some (.int (iZ so)), some (.int (iZ k)), some (.int (iZ m))] [] (KF Kd, zi J1, zj P, RF Rd, n, s0) Q0 := by
              intro m67
              induction m67 using Nat.strongRecOn with
              | ind m67 ih67 =>
                intro m J1 hm67 hm hJ
                refine z_iload dX9_sheet_67 rfl ?_
                refine c_bipush dX9_sheet_69 (by decide) ?_
                refine c_icmp_ge (tgt := 93) dX9_sheet_71 (by decide) (by omega) (by omega) (fun h71 => ?_) (fun h71 => ?_)
                · refine c_iconst dX9_sheet_93 ?_
                  refine c_ireturn dX9_sheet_94 rfl ?_
                  subst hQ0; refine ⟨_, _, rfl, ?_⟩; unfold aSheet; rw [cif_pos (by omega), cif_neg (by omega)]; refine ⟨rfl, ?_, pp_refl _⟩
                  have hm40 : m = 40 := by omega
                  subst hm40; subst hJ; exact pq_refl _
                · refine z_aload_n dX9_sheet_74 rfl rfl ?_
                  refine z_getR (ci := 9) (kf := 33) dX9_sheet_75 rfl (by decide) (by decide) rfl w_809 rfl ?_
                  refine c_bipush dX9_sheet_78 (by decide) ?_
                  refine z_iload_n dX9_sheet_80 rfl rfl ?_
                  refine c_imul dX9_sheet_81 ?_
                  refine z_iload dX9_sheet_82 rfl ?_
                  refine c_iadd dX9_sheet_84 ?_
                  refine c_iconst dX9_sheet_85 ?_
                  refine c_iast dX9_sheet_86 rfl (by omega) (by decide) ?_
                  refine c_iinc dX9_sheet_87 rfl (by decide) rfl ?_
                  refine z_goto (tgt := 67) dX9_sheet_90 (by decide) ?_
                  exact Z.fg2 (ih67 _ (by omega) _ _ rfl (by omega) (by clear ih67 hQ0; subst hJ; funext a q; simp only [zup]; grind (splits := 15))) (zs1 rfl (zs1 rfl (zs1 rfl (zs1 rfl (zs1 rfl zs0)))))
            exact Z.fg2 (L67 _ _ _ rfl (by omega) (by clear hQ0; funext a q; simp only [zup]; grind (splits := 15))) (zs1 rfl (zs1 rfl (zs1 rfl (zs1 rfl (zs1 rfl zs0)))))
        · refine z_iload_n dX9_sheet_35 rfl rfl ?_
          refine c_if_ge (tgt := 42) dX9_sheet_36 (by decide) (by omega) (fun h36 => ?_) (fun h36 => ?_)
          · refine z_aload_n dX9_sheet_42 rfl rfl ?_
            refine z_getR (ci := 9) (kf := 31) dX9_sheet_43 rfl (by decide) (by decide) rfl w_807 rfl ?_
            refine z_iload_n dX9_sheet_46 rfl rfl ?_
            refine z_iload_n dX9_sheet_47 rfl rfl ?_
            refine c_iast dX9_sheet_48 rfl (by omega) (by decide) ?_
            refine z_aload_n dX9_sheet_49 rfl rfl ?_
            refine z_getR (ci := 9) (kf := 32) dX9_sheet_50 rfl (by decide) (by decide) rfl w_808 rfl ?_
            refine z_iload_n dX9_sheet_53 rfl rfl ?_
            refine z_iload_n dX9_sheet_54 rfl rfl ?_
            refine c_if_ge (tgt := 62) dX9_sheet_55 (by decide) (by omega) (fun h55 => ?_) (fun h55 => ?_)
            · refine z_iload_n dX9_sheet_62 rfl rfl ?_
              refine c_iast dX9_sheet_63 rfl (by omega) (by decide) ?_
              refine c_iconst dX9_sheet_64 ?_
              refine z_istore dX9_sheet_65 (by decide) rfl ?_
              have L67 : ∀ (m67 : Nat), ∀ (m : Int) (J1 : Nat → Nat → Int), (40 - m).toNat = m67 → (0 ≤ m ∧ m ≤ 40) → (J1 = (fun a q => if a = 63 ∧ q = sh.toNat then so else if a = 64 ∧ q = sh.toNat then (if so < 0 then 0 else k) else if a = 65 ∧ 40 * sh.toNat ≤ q ∧ q < 40 * sh.toNat + m.toNat then 0 else J a q)) → Z g l MX9_sheet 67 [some (.ref 42), some (.int (iZ sh)), some (.int (iZ so)), some (.int (iZ k)), some (.int (iZ m))] [] (KF Kd, zi J1, zj P, RF Rd, n, s0) Q0 := by
                intro m67
                induction m67 using Nat.strongRecOn with
                | ind m67 ih67 =>
                  intro m J1 hm67 hm hJ
                  refine z_iload dX9_sheet_67 rfl ?_
                  refine c_bipush dX9_sheet_69 (by decide) ?_
                  refine c_icmp_ge (tgt := 93) dX9_sheet_71 (by decide) (by omega) (by omega) (fun h71 => ?_) (fun h71 => ?_)
                  · refine c_iconst dX9_sheet_93 ?_
                    refine c_ireturn dX9_sheet_94 rfl ?_
                    subst hQ0; refine ⟨_, _, rfl, ?_⟩; unfold aSheet; rw [cif_pos (by omega), cif_neg (by omega)]; refine ⟨rfl, ?_, pp_refl _⟩
                    have hm40 : m = 40 := by omega
                    subst hm40; subst hJ; exact pq_refl _
                  · refine z_aload_n dX9_sheet_74 rfl rfl ?_
                    refine z_getR (ci := 9) (kf := 33) dX9_sheet_75 rfl (by decide) (by decide) rfl w_809 rfl ?_
                    refine c_bipush dX9_sheet_78 (by decide) ?_
                    refine z_iload_n dX9_sheet_80 rfl rfl ?_
                    refine c_imul dX9_sheet_81 ?_
                    refine z_iload dX9_sheet_82 rfl ?_
                    refine c_iadd dX9_sheet_84 ?_
                    refine c_iconst dX9_sheet_85 ?_
                    refine c_iast dX9_sheet_86 rfl (by omega) (by decide) ?_
                    refine c_iinc dX9_sheet_87 rfl (by decide) rfl ?_
                    refine z_goto (tgt := 67) dX9_sheet_90 (by decide) ?_
                    exact Z.fg2 (ih67 _ (by omega) _ _ rfl (by omega) (by clear ih67 hQ0; subst hJ; funext a q; simp only [zup]; grind (splits := 15))) (zs1 rfl (zs1 rfl (zs1 rfl (zs1 rfl (zs1 rfl zs0)))))
              exact Z.fg2 (L67 _ _ _ rfl (by omega) (by clear hQ0; funext a q; simp only [zup]; grind (splits := 15))) (zs1 rfl (zs1 rfl (zs1 rfl (zs1 rfl (zs1 rfl zs0)))))
            · refine c_iconst dX9_sheet_58 ?_
              refine z_goto (tgt := 63) dX9_sheet_59 (by decide) ?_
              refine c_iast dX9_sheet_63 rfl (by omega) (by decide) ?_
              refine c_iconst dX9_sheet_64 ?_
              refine z_istore dX9_sheet_65 (by decide) rfl ?_
              have L67 : ∀ (m67 : Nat), ∀ (m : Int) (J1 : Nat → Nat → Int), (40 - m).toNat = m67 → (0 ≤ m ∧ m ≤ 40) → (J1 = (fun a q => if a = 63 ∧ q = sh.toNat then so else if a = 64 ∧ q = sh.toNat then (if so < 0 then 0 else k) else if a = 65 ∧ 40 * sh.toNat ≤ q ∧ q < 40 * sh.toNat + m.toNat then 0 else J a q)) → Z g l MX9_sheet 67 [some (.ref 42), some (.int (iZ sh)), some (.int (iZ so)), some (.int (iZ k)), some (.int (iZ m))] [] (KF Kd, zi J1, zj P, RF Rd, n, s0) Q0 := by
                intro m67
                induction m67 using Nat.strongRecOn with
                | ind m67 ih67 =>
                  intro m J1 hm67 hm hJ
                  refine z_iload dX9_sheet_67 rfl ?_
                  refine c_bipush dX9_sheet_69 (by decide) ?_
                  refine c_icmp_ge (tgt := 93) dX9_sheet_71 (by decide) (by omega) (by omega) (fun h71 => ?_) (fun h71 => ?_)
                  · refine c_iconst dX9_sheet_93 ?_
                    refine c_ireturn dX9_sheet_94 rfl ?_
                    subst hQ0; refine ⟨_, _, rfl, ?_⟩; unfold aSheet; rw [cif_pos (by omega), cif_neg (by omega)]; refine ⟨rfl, ?_, pp_refl _⟩
                    have hm40 : m = 40 := by omega
                    subst hm40; subst hJ; exact pq_refl _
                  · refine z_aload_n dX9_sheet_74 rfl rfl ?_
                    refine z_getR (ci := 9) (kf := 33) dX9_sheet_75 rfl (by decide) (by decide) rfl w_809 rfl ?_
                    refine c_bipush dX9_sheet_78 (by decide) ?_
                    refine z_iload_n dX9_sheet_80 rfl rfl ?_
                    refine c_imul dX9_sheet_81 ?_
                    refine z_iload dX9_sheet_82 rfl ?_
                    refine c_iadd dX9_sheet_84 ?_
                    refine c_iconst dX9_sheet_85 ?_
                    refine c_iast dX9_sheet_86 rfl (by omega) (by decide) ?_
                    refine c_iinc dX9_sheet_87 rfl (by decide) rfl ?_
                    refine z_goto (tgt := 67) dX9_sheet_90 (by decide) ?_
                    exact Z.fg2 (ih67 _ (by omega) _ _ rfl (by omega) (by clear ih67 hQ0; subst hJ; funext a q; simp only [zup]; grind (splits := 15))) (zs1 rfl (zs1 rfl (zs1 rfl (zs1 rfl (zs1 rfl zs0)))))
              exact Z.fg2 (L67 _ _ _ rfl (by omega) (by clear hQ0; funext a q; simp only [zup]; grind (splits := 15))) (zs1 rfl (zs1 rfl (zs1 rfl (zs1 rfl (zs1 rfl zs0)))))
          · refine c_bipush dX9_sheet_39 (by decide) ?_
            refine c_ireturn dX9_sheet_41 rfl ?_
            subst hQ0; refine ⟨_, _, rfl, ?_⟩; unfold aSheet; rw [cif_pos (by omega), cif_pos (by omega)]; exact ⟨rfl, pq_refl _, pp_refl _⟩
      · refine z_iload_n dX9_sheet_23 rfl rfl ?_
        refine c_bipush dX9_sheet_24 (by decide) ?_
        refine c_icmp_le (tgt := 31) dX9_sheet_26 (by decide) (by omega) (by omega) (fun h26 => ?_) (fun h26 => ?_)
        · refine z_iload_n dX9_sheet_31 rfl rfl ?_
          refine c_if_lt (tgt := 42) dX9_sheet_32 (by decide) (by omega) (fun h32 => ?_) (fun h32 => ?_)
          · refine z_aload_n dX9_sheet_42 rfl rfl ?_
            refine z_getR (ci := 9) (kf := 31) dX9_sheet_43 rfl (by decide) (by decide) rfl w_807 rfl ?_
            refine z_iload_n dX9_sheet_46 rfl rfl ?_
            refine z_iload_n dX9_sheet_47 rfl rfl ?_
            refine c_iast dX9_sheet_48 rfl (by omega) (by decide) ?_
            refine z_aload_n dX9_sheet_49 rfl rfl ?_
            refine z_getR (ci := 9) (kf := 32) dX9_sheet_50 rfl (by decide) (by decide) rfl w_808 rfl ?_
            refine z_iload_n dX9_sheet_53 rfl rfl ?_
            refine z_iload_n dX9_sheet_54 rfl rfl ?_
            refine c_if_ge (tgt := 62) dX9_sheet_55 (by decide) (by omega) (fun h55 => ?_) (fun h55 => ?_)
            · refine z_iload_n dX9_sheet_62 rfl rfl ?_
              refine c_iast dX9_sheet_63 rfl (by omega) (by decide) ?_
              refine c_iconst dX9_sheet_64 ?_
              refine z_istore dX9_sheet_65 (by decide) rfl ?_
              have L67 : ∀ (m67 : Nat), ∀ (m : Int) (J1 : Nat → Nat → Int), (40 - m).toNat = m67 → (0 ≤ m ∧ m ≤ 40) → (J1 = (fun a q => if a = 63 ∧ q = sh.toNat then so else if a = 64 ∧ q = sh.toNat then (if so < 0 then 0 else k) else if a = 65 ∧ 40 * sh.toNat ≤ q ∧ q < 40 * sh.toNat + m.toNat then 0 else J a q)) → Z g l MX9_sheet 67 [some (.ref 42), some (.int (iZ sh)), some (.int (iZ so)), some (.int (iZ k)), some (.int (iZ m))] [] (KF Kd, zi J1, zj P, RF Rd, n, s0) Q0 := by
                intro m67
                induction m67 using Nat.strongRecOn with
                | ind m67 ih67 =>
                  intro m J1 hm67 hm hJ
                  refine z_iload dX9_sheet_67 rfl ?_
                  refine c_bipush dX9_sheet_69 (by decide) ?_
                  refine c_icmp_ge (tgt := 93) dX9_sheet_71 (by decide) (by omega) (by omega) (fun h71 => ?_) (fun h71 => ?_)
                  · refine c_iconst dX9_sheet_93 ?_
                    refine c_ireturn dX9_sheet_94 rfl ?_
                    subst hQ0; refine ⟨_, _, rfl, ?_⟩; unfold aSheet; rw [cif_pos (by omega), cif_neg (by omega)]; refine ⟨rfl, ?_, pp_refl _⟩
                    have hm40 : m = 40 := by omega
                    subst hm40; subst hJ; exact pq_refl _
                  · refine z_aload_n dX9_sheet_74 rfl rfl ?_
                    refine z_getR (ci := 9) (kf := 33) dX9_sheet_75 rfl (by decide) (by decide) rfl w_809 rfl ?_
                    refine c_bipush dX9_sheet_78 (by decide) ?_
                    refine z_iload_n dX9_sheet_80 rfl rfl ?_
                    refine c_imul dX9_sheet_81 ?_
                    refine z_iload dX9_sheet_82 rfl ?_
                    refine c_iadd dX9_sheet_84 ?_
                    refine c_iconst dX9_sheet_85 ?_
                    refine c_iast dX9_sheet_86 rfl (by omega) (by decide) ?_
                    refine c_iinc dX9_sheet_87 rfl (by decide) rfl ?_
                    refine z_goto (tgt := 67) dX9_sheet_90 (by decide) ?_
                    exact Z.fg2 (ih67 _ (by omega) _ _ rfl (by omega) (by clear ih67 hQ0; subst hJ; funext a q; simp only [zup]; grind (splits := 15))) (zs1 rfl (zs1 rfl (zs1 rfl (zs1 rfl (zs1 rfl zs0)))))
              exact Z.fg2 (L67 _ _ _ rfl (by omega) (by clear hQ0; funext a q; simp only [zup]; grind (splits := 15))) (zs1 rfl (zs1 rfl (zs1 rfl (zs1 rfl (zs1 rfl zs0)))))
            · refine c_iconst dX9_sheet_58 ?_
              refine z_goto (tgt := 63) dX9_sheet_59 (by decide) ?_
              refine c_iast dX9_sheet_63 rfl (by omega) (by decide) ?_
              refine c_iconst dX9_sheet_64 ?_
              refine z_istore dX9_sheet_65 (by decide) rfl ?_
              have L67 : ∀ (m67 : Nat), ∀ (m : Int) (J1 : Nat → Nat → Int), (40 - m).toNat = m67 → (0 ≤ m ∧ m ≤ 40) → (J1 = (fun a q => if a = 63 ∧ q = sh.toNat then so else if a = 64 ∧ q = sh.toNat then (if so < 0 then 0 else k) else if a = 65 ∧ 40 * sh.toNat ≤ q ∧ q < 40 * sh.toNat + m.toNat then 0 else J a q)) → Z g l MX9_sheet 67 [some (.ref 42), some (.int (iZ sh)), some (.int (iZ so)), some (.int (iZ k)), some (.int (iZ m))] [] (KF Kd, zi J1, zj P, RF Rd, n, s0) Q0 := by
                intro m67
                induction m67 using Nat.strongRecOn with
                | ind m67 ih67 =>
                  intro m J1 hm67 hm hJ
                  refine z_iload dX9_sheet_67 rfl ?_
                  refine c_bipush dX9_sheet_69 (by decide) ?_
                  refine c_icmp_ge (tgt := 93) dX9_sheet_71 (by decide) (by omega) (by omega) (fun h71 => ?_) (fun h71 => ?_)
                  · refine c_iconst dX9_sheet_93 ?_
                    refine c_ireturn dX9_sheet_94 rfl ?_
                    subst hQ0; refine ⟨_, _, rfl, ?_⟩; unfold aSheet; rw [cif_pos (by omega), cif_neg (by omega)]; refine ⟨rfl, ?_, pp_refl _⟩
                    have hm40 : m = 40 := by omega
                    subst hm40; subst hJ; exact pq_refl _
                  · refine z_aload_n dX9_sheet_74 rfl rfl ?_
                    refine z_getR (ci := 9) (kf := 33) dX9_sheet_75 rfl (by decide) (by decide) rfl w_809 rfl ?_
                    refine c_bipush dX9_sheet_78 (by decide) ?_
                    refine z_iload_n dX9_sheet_80 rfl rfl ?_
                    refine c_imul dX9_sheet_81 ?_
                    refine z_iload dX9_sheet_82 rfl ?_
                    refine c_iadd dX9_sheet_84 ?_
                    refine c_iconst dX9_sheet_85 ?_
                    refine c_iast dX9_sheet_86 rfl (by omega) (by decide) ?_
                    refine c_iinc dX9_sheet_87 rfl (by decide) rfl ?_
                    refine z_goto (tgt := 67) dX9_sheet_90 (by decide) ?_
                    exact Z.fg2 (ih67 _ (by omega) _ _ rfl (by omega) (by clear ih67 hQ0; subst hJ; funext a q; simp only [zup]; grind (splits := 15))) (zs1 rfl (zs1 rfl (zs1 rfl (zs1 rfl (zs1 rfl zs0)))))
              exact Z.fg2 (L67 _ _ _ rfl (by omega) (by clear hQ0; funext a q; simp only [zup]; grind (splits := 15))) (zs1 rfl (zs1 rfl (zs1 rfl (zs1 rfl (zs1 rfl zs0)))))
          · refine z_iload_n dX9_sheet_35 rfl rfl ?_
            refine c_if_ge (tgt := 42) dX9_sheet_36 (by decide) (by omega) (fun h36 => ?_) (fun h36 => ?_)
            · refine z_aload_n dX9_sheet_42 rfl rfl ?_
              refine z_getR (ci := 9) (kf := 31) dX9_sheet_43 rfl (by decide) (by decide) rfl w_807 rfl ?_
              refine z_iload_n dX9_sheet_46 rfl rfl ?_
              refine z_iload_n dX9_sheet_47 rfl rfl ?_
              refine c_iast dX9_sheet_48 rfl (by omega) (by decide) ?_
              refine z_aload_n dX9_sheet_49 rfl rfl ?_
              refine z_getR (ci := 9) (kf := 32) dX9_sheet_50 rfl (by decide) (by decide) rfl w_808 rfl ?_
              refine z_iload_n dX9_sheet_53 rfl rfl ?_
              refine z_iload_n dX9_sheet_54 rfl rfl ?_
              refine c_if_ge (tgt := 62) dX9_sheet_55 (by decide) (by omega) (fun h55 => ?_) (fun h55 => ?_)
              · refine z_iload_n dX9_sheet_62 rfl rfl ?_
                refine c_iast dX9_sheet_63 rfl (by omega) (by decide) ?_
                refine c_iconst dX9_sheet_64 ?_
                refine z_istore dX9_sheet_65 (by decide) rfl ?_
                have L67 : ∀ (m67 : Nat), ∀ (m : Int) (J1 : Nat → Nat → Int), (40 - m).toNat = m67 → (0 ≤ m ∧ m ≤ 40) → (J1 = (fun a q => if a = 63 ∧ q = sh.toNat then so else if a = 64 ∧ q = sh.toNat then (if so < 0 then 0 else k) else if a = 65 ∧ 40 * sh.toNat ≤ q ∧ q < 40 * sh.toNat + m.toNat then 0 else J a q)) → Z g l MX9_sheet 67 [some (.ref 42), some (.int (iZ sh)), some (.int (iZ so)), some (.int (iZ k)), some (.int (iZ m))] [] (KF Kd, zi J1, zj P, RF Rd, n, s0) Q0 := by
                  intro m67
                  induction m67 using Nat.strongRecOn with
                  | ind m67 ih67 =>
                    intro m J1 hm67 hm hJ
                    refine z_iload dX9_sheet_67 rfl ?_
                    refine c_bipush dX9_sheet_69 (by decide) ?_
                    refine c_icmp_ge (tgt := 93) dX9_sheet_71 (by decide) (by omega) (by omega) (fun h71 => ?_) (fun h71 => ?_)
                    · refine c_iconst dX9_sheet_93 ?_
                      refine c_ireturn dX9_sheet_94 rfl ?_
                      subst hQ0; refine ⟨_, _, rfl, ?_⟩; unfold aSheet; rw [cif_pos (by omega), cif_neg (by omega)]; refine ⟨rfl, ?_, pp_refl _⟩
                      have hm40 : m = 40 := by omega
                      subst hm40; subst hJ; exact pq_refl _
                    · refine z_aload_n dX9_sheet_74 rfl rfl ?_
                      refine z_getR (ci := 9) (kf := 33) dX9_sheet_75 rfl (by decide) (by decide) rfl w_809 rfl ?_
                      refine c_bipush dX9_sheet_78 (by decide) ?_
                      refine z_iload_n dX9_sheet_80 rfl rfl ?_
                      refine c_imul dX9_sheet_81 ?_
                      refine z_iload dX9_sheet_82 rfl ?_
                      refine c_iadd dX9_sheet_84 ?_
                      refine c_iconst dX9_sheet_85 ?_
                      refine c_iast dX9_sheet_86 rfl (by omega) (by decide) ?_
                      refine c_iinc dX9_sheet_87 rfl (by decide) rfl ?_
                      refine z_goto (tgt := 67) dX9_sheet_90 (by decide) ?_
                      exact Z.fg2 (ih67 _ (by omega) _ _ rfl (by omega) (by clear ih67 hQ0; subst hJ; funext a q; simp only [zup]; grind (splits := 15))) (zs1 rfl (zs1 rfl (zs1 rfl (zs1 rfl (zs1 rfl zs0)))))
                exact Z.fg2 (L67 _ _ _ rfl (by omega) (by clear hQ0; funext a q; simp only [zup]; grind (splits := 15))) (zs1 rfl (zs1 rfl (zs1 rfl (zs1 rfl (zs1 rfl zs0)))))
              · refine c_iconst dX9_sheet_58 ?_
                refine z_goto (tgt := 63) dX9_sheet_59 (by decide) ?_
                refine c_iast dX9_sheet_63 rfl (by omega) (by decide) ?_
                refine c_iconst dX9_sheet_64 ?_
                refine z_istore dX9_sheet_65 (by decide) rfl ?_
                have L67 : ∀ (m67 : Nat), ∀ (m : Int) (J1 : Nat → Nat → Int), (40 - m).toNat = m67 → (0 ≤ m ∧ m ≤ 40) → (J1 = (fun a q => if a = 63 ∧ q = sh.toNat then so else if a = 64 ∧ q = sh.toNat then (if so < 0 then 0 else k) else if a = 65 ∧ 40 * sh.toNat ≤ q ∧ q < 40 * sh.toNat + m.toNat then 0 else J a q)) → Z g l MX9_sheet 67 [some (.ref 42), some (.int (iZ sh)), some (.int (iZ so)), some (.int (iZ k)), some (.int (iZ m))] [] (KF Kd, zi J1, zj P, RF Rd, n, s0) Q0 := by
                  intro m67
                  induction m67 using Nat.strongRecOn with
                  | ind m67 ih67 =>
                    intro m J1 hm67 hm hJ
                    refine z_iload dX9_sheet_67 rfl ?_
                    refine c_bipush dX9_sheet_69 (by decide) ?_
                    refine c_icmp_ge (tgt := 93) dX9_sheet_71 (by decide) (by omega) (by omega) (fun h71 => ?_) (fun h71 => ?_)
                    · refine c_iconst dX9_sheet_93 ?_
                      refine c_ireturn dX9_sheet_94 rfl ?_
                      subst hQ0; refine ⟨_, _, rfl, ?_⟩; unfold aSheet; rw [cif_pos (by omega), cif_neg (by omega)]; refine ⟨rfl, ?_, pp_refl _⟩
                      have hm40 : m = 40 := by omega
                      subst hm40; subst hJ; exact pq_refl _
                    · refine z_aload_n dX9_sheet_74 rfl rfl ?_
                      refine z_getR (ci := 9) (kf := 33) dX9_sheet_75 rfl (by decide) (by decide) rfl w_809 rfl ?_
                      refine c_bipush dX9_sheet_78 (by decide) ?_
                      refine z_iload_n dX9_sheet_80 rfl rfl ?_
                      refine c_imul dX9_sheet_81 ?_
                      refine z_iload dX9_sheet_82 rfl ?_
                      refine c_iadd dX9_sheet_84 ?_
                      refine c_iconst dX9_sheet_85 ?_
                      refine c_iast dX9_sheet_86 rfl (by omega) (by decide) ?_
                      refine c_iinc dX9_sheet_87 rfl (by decide) rfl ?_
                      refine z_goto (tgt := 67) dX9_sheet_90 (by decide) ?_
                      exact Z.fg2 (ih67 _ (by omega) _ _ rfl (by omega) (by clear ih67 hQ0; subst hJ; funext a q; simp only [zup]; grind (splits := 15))) (zs1 rfl (zs1 rfl (zs1 rfl (zs1 rfl (zs1 rfl zs0)))))
                exact Z.fg2 (L67 _ _ _ rfl (by omega) (by clear hQ0; funext a q; simp only [zup]; grind (splits := 15))) (zs1 rfl (zs1 rfl (zs1 rfl (zs1 rfl (zs1 rfl zs0)))))
            · refine c_bipush dX9_sheet_39 (by decide) ?_
              refine c_ireturn dX9_sheet_41 rfl ?_
              subst hQ0; refine ⟨_, _, rfl, ?_⟩; unfold aSheet; rw [cif_pos (by omega), cif_pos (by omega)]; exact ⟨rfl, pq_refl _, pp_refl _⟩
        · refine c_iconst dX9_sheet_29 ?_
          refine c_ireturn dX9_sheet_30 rfl ?_
          subst hQ0; refine ⟨_, _, rfl, ?_⟩; unfold aSheet; rw [cif_neg (by omega)]; exact ⟨rfl, pq_refl _, pp_refl _⟩
set_option maxHeartbeats 4000000 in
set_option maxRecDepth 100000 in
theorem cMX9_cell {sh i v : Int} (h1 : rI sh) (h2 : rI i) (h3 : rI v) (hS : okS J) : ZC g l MX9_cell [.ref 42, .int (iZ sh), .int (iZ i), .int (iZ v)] (KF Kd, zi J, zj P, RF Rd, n, s0) (fun rr hh => ∃ J' P', hh = (KF Kd, zi J', zj P', RF Rd, n, s0) ∧ rr = some (.int (iZ (aCell J sh i v).1)) ∧ pq (aCell J sh i v).2 J' ∧ pp P P') := by
  refine ZC.of (by decide) (Nat.le_of_ble_eq_true rfl) ?_
  generalize hQ0 : (fun rr hh => ∃ J' P', hh = (KF Kd, zi J', zj P', RF Rd, n, s0) ∧ rr = some (.int (iZ (aCell J sh i v).1)) ∧ pq (aCell J sh i v).2 J' ∧ pp P P' : Option Value → ZH → Prop) = Q0
  show Z g l MX9_cell 0 [some (.ref 42), some (.int (iZ sh)), some (.int (iZ i)), some (.int (iZ v))] [] (KF Kd, zi J, zj P, RF Rd, n, s0) Q0
  refine z_iload_n dX9_cell_0 rfl rfl ?_
  refine z_calls (N := MX9_isSheet) (nas := 1) (as := [_]) dX9_cell_1 w_904 w_902 w_903 w_8 (by decide +kernel) rfl rfl (Nat.le_of_ble_eq_true rfl) (by decide) (by decide) (ZC.mono (cMX9_isSheet (by omega)) ?_)
  rintro _ _ ⟨b1, rfl, rfl, hb1⟩
  refine c_if_ne (tgt := 9) dX9_cell_4 (by decide) (by omega) (fun h4 => ?_) (fun h4 => ?_)
  · have g1 := (hb1.resolve_right (fun z => by have := z.1; omega)).2
    clear hb1
    have hs4 := hS.1 sh.toNat (by omega)
    refine z_aload_n dX9_cell_9 rfl rfl ?_
    refine z_getR (ci := 9) (kf := 31) dX9_cell_10 rfl (by decide) (by decide) rfl w_807 rfl ?_
    refine z_iload_n dX9_cell_13 rfl rfl ?_
    refine c_iald dX9_cell_14 rfl (by omega) (by decide) ?_
    refine c_if_ge (tgt := 21) dX9_cell_15 (by decide) (by omega) (fun h15 => ?_) (fun h15 => ?_)
    · refine z_iload_n dX9_cell_21 rfl rfl ?_
      refine c_i2l dX9_cell_22 (by omega) ?_
      refine c_lconst0 dX9_cell_23 ?_
      refine z_aload_n dX9_cell_24 rfl rfl ?_
      refine z_getR (ci := 9) (kf := 32) dX9_cell_25 rfl (by decide) (by decide) rfl w_808 rfl ?_
      refine z_iload_n dX9_cell_28 rfl rfl ?_
      refine c_iald dX9_cell_29 rfl (by omega) (by decide) ?_
      refine c_iconst dX9_cell_30 ?_
      refine c_isub dX9_cell_31 ?_
      refine c_i2l dX9_cell_32 (by omega) ?_
      refine z_calls (N := MX9_in) (nas := 3) (as := [_, _, _]) dX9_cell_33 w_889 w_887 w_888 w_8 (by decide +kernel) rfl rfl (Nat.le_of_ble_eq_true rfl) (by decide) (by decide) (ZC.mono (b_in (by omega) (by omega) (by omega)) ?_)
      rintro _ _ ⟨b33, rfl, rfl, hb33⟩
      refine c_if_ne (tgt := 42) dX9_cell_36 (by decide) (by omega) (fun h36 => ?_) (fun h36 => ?_)
      · have g33 := (hb33.resolve_right (fun z => by have := z.1; omega)).2
        clear hb33
        refine z_aload_n dX9_cell_42 rfl rfl ?_
        refine z_getR (ci := 9) (kf := 33) dX9_cell_43 rfl (by decide) (by decide) rfl w_809 rfl ?_
        refine c_bipush dX9_cell_46 (by decide) ?_
        refine z_iload_n dX9_cell_48 rfl rfl ?_
        refine c_imul dX9_cell_49 ?_
        refine z_iload_n dX9_cell_50 rfl rfl ?_
        refine c_iadd dX9_cell_51 ?_
        refine z_aload_n dX9_cell_52 rfl rfl ?_
        refine z_iload_n dX9_cell_53 rfl rfl ?_
        refine z_iload_n dX9_cell_54 rfl rfl ?_
        refine z_callv (N := MX9_lowest) (ci := 9) (nas := 2) (as := [_, _]) dX9_cell_55 w_1110 w_1107 w_1109 ws_41 w_8 (by decide +kernel) rfl rfl rfl (by decide) (Nat.le_of_ble_eq_true rfl) (by decide) (by decide) (ZC.mono (cMX9_lowest (by omega) (by omega)) ?_)
        rintro _ _ ⟨rfl, rfl⟩
        refine c_iast dX9_cell_58 rfl (by omega) (by decide) ?_
        refine c_iconst dX9_cell_59 ?_
        refine c_ireturn dX9_cell_60 rfl ?_
        subst hQ0; refine ⟨_, _, rfl, ?_⟩; unfold aCell; rw [cif_pos (by omega), cif_neg (by omega), cif_pos (by omega)]; exact ⟨rfl, pq_refl _, pp_refl _⟩
      · have g33 := (hb33.resolve_left (fun z => by have := z.1; omega)).2
        clear hb33
        refine c_bipush dX9_cell_39 (by decide) ?_
        refine c_ireturn dX9_cell_41 rfl ?_
        subst hQ0; refine ⟨_, _, rfl, ?_⟩; unfold aCell; rw [cif_pos (by omega), cif_neg (by omega), cif_neg (by omega)]; exact ⟨rfl, pq_refl _, pp_refl _⟩
    · refine c_bipush dX9_cell_18 (by decide) ?_
      refine c_ireturn dX9_cell_20 rfl ?_
      subst hQ0; refine ⟨_, _, rfl, ?_⟩; unfold aCell; rw [cif_pos (by omega), cif_pos (by omega)]; exact ⟨rfl, pq_refl _, pp_refl _⟩
  · have g1 := (hb1.resolve_left (fun z => by have := z.1; omega)).2
    clear hb1
    refine c_iconst dX9_cell_7 ?_
    refine c_ireturn dX9_cell_8 rfl ?_
    subst hQ0; refine ⟨_, _, rfl, ?_⟩; unfold aCell; rw [cif_neg (by omega)]; exact ⟨rfl, pq_refl _, pp_refl _⟩
set_option maxHeartbeats 4000000 in
set_option maxRecDepth 100000 in
theorem cMX9_item {sh i : Int} (h1 : rI sh) (h2 : rI i) (hS : okS J) : ZC g l MX9_item [.ref 42, .int (iZ sh), .int (iZ i)] (KF Kd, zi J, zj P, RF Rd, n, s0) (fun rr hh => ∃ J' P', hh = (KF Kd, zi J', zj P', RF Rd, n, s0) ∧ rr = some (.long (lZ (aItem J sh i))) ∧ pq J J' ∧ pp P P') := by
  refine ZC.of (by decide) (Nat.le_of_ble_eq_true rfl) ?_
  generalize hQ0 : (fun rr hh => ∃ J' P', hh = (KF Kd, zi J', zj P', RF Rd, n, s0) ∧ rr = some (.long (lZ (aItem J sh i))) ∧ pq J J' ∧ pp P P' : Option Value → ZH → Prop) = Q0
  show Z g l MX9_item 0 [some (.ref 42), some (.int (iZ sh)), some (.int (iZ i))] [] (KF Kd, zi J, zj P, RF Rd, n, s0) Q0
  refine z_iload_n dX9_item_0 rfl rfl ?_
  refine z_calls (N := MX9_isSheet) (nas := 1) (as := [_]) dX9_item_1 w_904 w_902 w_903 w_8 (by decide +kernel) rfl rfl (Nat.le_of_ble_eq_true rfl) (by decide) (by decide) (ZC.mono (cMX9_isSheet (by omega)) ?_)
  rintro _ _ ⟨b1, rfl, rfl, hb1⟩
  refine c_if_eq (tgt := 40) dX9_item_4 (by decide) (by omega) (fun h4 => ?_) (fun h4 => ?_)
  · have g1 := (hb1.resolve_left (fun z => by have := z.1; omega)).2
    clear hb1
    refine c_ldc2 (z := -9223372036854775808) dX9_item_40 w_1204 (by decide) ?_
    refine z_lreturn dX9_item_43 rfl ?_
    subst hQ0; refine ⟨_, _, rfl, ?_⟩; unfold aItem; first | (rw [cif_neg (by omega)]; exact ⟨rfl, pq_refl _, pp_refl _⟩) | (rw [cif_pos (by omega)]; exact ⟨rfl, pq_refl _, pp_refl _⟩)
  · have g1 := (hb1.resolve_right (fun z => by have := z.1; omega)).2
    clear hb1
    have hs4 := hS.1 sh.toNat (by omega)
    refine z_iload_n dX9_item_7 rfl rfl ?_
    refine c_i2l dX9_item_8 (by omega) ?_
    refine c_lconst0 dX9_item_9 ?_
    refine z_aload_n dX9_item_10 rfl rfl ?_
    refine z_getR (ci := 9) (kf := 32) dX9_item_11 rfl (by decide) (by decide) rfl w_808 rfl ?_
    refine z_iload_n dX9_item_14 rfl rfl ?_
    refine c_iald dX9_item_15 rfl (by omega) (by decide) ?_
    refine c_iconst dX9_item_16 ?_
    refine c_isub dX9_item_17 ?_
    refine c_i2l dX9_item_18 (by omega) ?_
    refine z_calls (N := MX9_in) (nas := 3) (as := [_, _, _]) dX9_item_19 w_889 w_887 w_888 w_8 (by decide +kernel) rfl rfl (Nat.le_of_ble_eq_true rfl) (by decide) (by decide) (ZC.mono (b_in (by omega) (by omega) (by omega)) ?_)
    rintro _ _ ⟨b19, rfl, rfl, hb19⟩
    refine c_if_eq (tgt := 40) dX9_item_22 (by decide) (by omega) (fun h22 => ?_) (fun h22 => ?_)
    · have g19 := (hb19.resolve_left (fun z => by have := z.1; omega)).2
      clear hb19
      refine c_ldc2 (z := -9223372036854775808) dX9_item_40 w_1204 (by decide) ?_
      refine z_lreturn dX9_item_43 rfl ?_
      subst hQ0; refine ⟨_, _, rfl, ?_⟩; unfold aItem; first | (rw [cif_neg (by omega)]; exact ⟨rfl, pq_refl _, pp_refl _⟩) | (rw [cif_pos (by omega)]; exact ⟨rfl, pq_refl _, pp_refl _⟩)
    · have g19 := (hb19.resolve_right (fun z => by have := z.1; omega)).2
      clear hb19
      refine z_aload_n dX9_item_25 rfl rfl ?_
      refine z_getR (ci := 9) (kf := 33) dX9_item_26 rfl (by decide) (by decide) rfl w_809 rfl ?_
      refine c_bipush dX9_item_29 (by decide) ?_
      refine z_iload_n dX9_item_31 rfl rfl ?_
      refine c_imul dX9_item_32 ?_
      refine z_iload_n dX9_item_33 rfl rfl ?_
      refine c_iadd dX9_item_34 ?_
      refine c_iald dX9_item_35 rfl (by omega) (by decide) ?_
      have hn4 := hS.2 (40 * sh + i).toNat (by omega)
      refine c_i2l dX9_item_36 (by omega) ?_
      refine z_goto (tgt := 43) dX9_item_37 (by decide) ?_
      refine z_lreturn dX9_item_43 rfl ?_
      subst hQ0; refine ⟨_, _, rfl, ?_⟩; unfold aItem; first | (rw [cif_neg (by omega)]; exact ⟨rfl, pq_refl _, pp_refl _⟩) | (rw [cif_pos (by omega)]; exact ⟨rfl, pq_refl _, pp_refl _⟩)
set_option maxHeartbeats 4000000 in
set_option maxRecDepth 100000 in
theorem cMX9_move {sh i t j k : Int} (h1 : rI sh) (h2 : rI i) (h3 : rI t) (h4 : rI j) (h5 : rI k) (hS : okS J) : ZC g l MX9_move [.ref 42, .int (iZ sh), .int (iZ i), .int (iZ t), .int (iZ j), .int (iZ k)] (KF Kd, zi J, zj P, RF Rd, n, s0) (fun rr hh => ∃ J' P', hh = (KF Kd, zi J', zj P', RF Rd, n, s0) ∧ rr = some (.int (iZ (aMove J sh i t j k).1)) ∧ pq (aMove J sh i t j k).2 J' ∧ pp P P') := by
  refine ZC.of (by decide) (Nat.le_of_ble_eq_true rfl) ?_
  generalize hQ0 : (fun rr hh => ∃ J' P', hh = (KF Kd, zi J', zj P', RF Rd, n, s0) ∧ rr = some (.int (iZ (aMove J sh i t j k).1)) ∧ pq (aMove J sh i t j k).2 J' ∧ pp P P' : Option Value → ZH → Prop) = Q0
  show Z g l MX9_move 0 [some (.ref 42), some (.int (iZ sh)), some (.int (iZ i)), some (.int (iZ t)), some (.int (iZ j)), some (.int (iZ k)), none, none, none] [] (KF Kd, zi J, zj P, RF Rd, n, s0) Q0
  refine z_iload_n dX9_move_0 rfl rfl ?_
  refine z_calls (N := MX9_isSheet) (nas := 1) (as := [_]) dX9_move_1 w_904 w_902 w_903 w_8 (by decide +kernel) rfl rfl (Nat.le_of_ble_eq_true rfl) (by decide) (by decide) (ZC.mono (cMX9_isSheet (by omega)) ?_)
  rintro _ _ ⟨b1, rfl, rfl, hb1⟩
  refine c_if_eq (tgt := 14) dX9_move_4 (by decide) (by omega) (fun h4 => ?_) (fun h4 => ?_)
  · have g1 := (hb1.resolve_left (fun z => by have := z.1; omega)).2
    clear hb1
    refine c_iconst dX9_move_14 ?_
    refine c_ireturn dX9_move_15 rfl ?_
    subst hQ0; refine ⟨_, _, rfl, ?_⟩; unfold aMove; rw [cif_neg (by omega)]; exact ⟨rfl, pq_refl _, pp_refl _⟩
  · have g1 := (hb1.resolve_right (fun z => by have := z.1; omega)).2
    clear hb1
    refine z_iload_n dX9_move_7 rfl rfl ?_
    refine z_calls (N := MX9_isSheet) (nas := 1) (as := [_]) dX9_move_8 w_904 w_902 w_903 w_8 (by decide +kernel) rfl rfl (Nat.le_of_ble_eq_true rfl) (by decide) (by decide) (ZC.mono (cMX9_isSheet (by omega)) ?_)
    rintro _ _ ⟨b8, rfl, rfl, hb8⟩
    refine c_if_ne (tgt := 16) dX9_move_11 (by decide) (by omega) (fun h11 => ?_) (fun h11 => ?_)
    · have g8 := (hb8.resolve_right (fun z => by have := z.1; omega)).2
      clear hb8
      have hs4 := hS.1 sh.toNat (by omega)
      have ht4 := hS.1 t.toNat (by omega)
      refine z_aload_n dX9_move_16 rfl rfl ?_
      refine z_getR (ci := 9) (kf := 31) dX9_move_17 rfl (by decide) (by decide) rfl w_807 rfl ?_
      refine z_iload_n dX9_move_20 rfl rfl ?_
      refine c_iald dX9_move_21 rfl (by omega) (by decide) ?_
      refine c_if_lt (tgt := 34) dX9_move_22 (by decide) (by omega) (fun h22 => ?_) (fun h22 => ?_)
      · refine c_bipush dX9_move_34 (by decide) ?_
        refine c_ireturn dX9_move_36 rfl ?_
        subst hQ0; refine ⟨_, _, rfl, ?_⟩; unfold aMove; rw [cif_pos (by omega), cif_pos (by omega)]; exact ⟨rfl, pq_refl _, pp_refl _⟩
      · refine z_aload_n dX9_move_25 rfl rfl ?_
        refine z_getR (ci := 9) (kf := 31) dX9_move_26 rfl (by decide) (by decide) rfl w_807 rfl ?_
        refine z_iload_n dX9_move_29 rfl rfl ?_
        refine c_iald dX9_move_30 rfl (by omega) (by decide) ?_
        refine c_if_ge (tgt := 37) dX9_move_31 (by decide) (by omega) (fun h31 => ?_) (fun h31 => ?_)
        · refine z_aload_n dX9_move_37 rfl rfl ?_
          refine z_getR (ci := 9) (kf := 31) dX9_move_38 rfl (by decide) (by decide) rfl w_807 rfl ?_
          refine z_iload_n dX9_move_41 rfl rfl ?_
          refine c_iald dX9_move_42 rfl (by omega) (by decide) ?_
          refine z_aload_n dX9_move_43 rfl rfl ?_
          refine z_getR (ci := 9) (kf := 31) dX9_move_44 rfl (by decide) (by decide) rfl w_807 rfl ?_
          refine z_iload_n dX9_move_47 rfl rfl ?_
          refine c_iald dX9_move_48 rfl (by omega) (by decide) ?_
          refine c_icmp_eq (tgt := 55) dX9_move_49 (by decide) (by omega) (by omega) (fun h49 => ?_) (fun h49 => ?_)
          · refine z_iload dX9_move_55 rfl ?_
            refine c_if_lt (tgt := 96) dX9_move_57 (by decide) (by omega) (fun h57 => ?_) (fun h57 => ?_)
            · refine c_bipush dX9_move_96 (by decide) ?_
              refine c_ireturn dX9_move_98 rfl ?_
              subst hQ0; refine ⟨_, _, rfl, ?_⟩; unfold aMove; rw [cif_pos (by omega), cif_neg (by omega), cif_pos (by omega), cif_neg (by omega)]; exact ⟨rfl, pq_refl _, pp_refl _⟩
            · refine z_iload_n dX9_move_60 rfl rfl ?_
              refine c_if_lt (tgt := 96) dX9_move_61 (by decide) (by omega) (fun h61 => ?_) (fun h61 => ?_)
              · refine c_bipush dX9_move_96 (by decide) ?_
                refine c_ireturn dX9_move_98 rfl ?_
                subst hQ0; refine ⟨_, _, rfl, ?_⟩; unfold aMove; rw [cif_pos (by omega), cif_neg (by omega), cif_pos (by omega), cif_neg (by omega)]; exact ⟨rfl, pq_refl _, pp_refl _⟩
              · refine z_iload dX9_move_64 rfl ?_
                refine c_if_lt (tgt := 96) dX9_move_66 (by decide) (by omega) (fun h66 => ?_) (fun h66 => ?_)
                · refine c_bipush dX9_move_96 (by decide) ?_
                  refine c_ireturn dX9_move_98 rfl ?_
                  subst hQ0; refine ⟨_, _, rfl, ?_⟩; unfold aMove; rw [cif_pos (by omega), cif_neg (by omega), cif_pos (by omega), cif_neg (by omega)]; exact ⟨rfl, pq_refl _, pp_refl _⟩
                · refine z_iload dX9_move_69 rfl ?_
                  refine z_aload_n dX9_move_71 rfl rfl ?_
                  refine z_getR (ci := 9) (kf := 32) dX9_move_72 rfl (by decide) (by decide) rfl w_808 rfl ?_
                  refine z_iload_n dX9_move_75 rfl rfl ?_
                  refine c_iald dX9_move_76 rfl (by omega) (by decide) ?_
                  refine z_iload_n dX9_move_77 rfl rfl ?_
                  refine c_isub dX9_move_78 ?_
                  refine c_icmp_gt (tgt := 96) dX9_move_79 (by decide) (by omega) (by omega) (fun h79 => ?_) (fun h79 => ?_)
                  · refine c_bipush dX9_move_96 (by decide) ?_
                    refine c_ireturn dX9_move_98 rfl ?_
                    subst hQ0; refine ⟨_, _, rfl, ?_⟩; unfold aMove; rw [cif_pos (by omega), cif_neg (by omega), cif_pos (by omega), cif_neg (by omega)]; exact ⟨rfl, pq_refl _, pp_refl _⟩
                  · refine z_iload dX9_move_82 rfl ?_
                    refine z_aload_n dX9_move_84 rfl rfl ?_
                    refine z_getR (ci := 9) (kf := 32) dX9_move_85 rfl (by decide) (by decide) rfl w_808 rfl ?_
                    refine z_iload_n dX9_move_88 rfl rfl ?_
                    refine c_iald dX9_move_89 rfl (by omega) (by decide) ?_
                    refine z_iload dX9_move_90 rfl ?_
                    refine c_isub dX9_move_92 ?_
                    refine c_icmp_le (tgt := 99) dX9_move_93 (by decide) (by omega) (by omega) (fun h93 => ?_) (fun h93 => ?_)
                    · refine c_bipush dX9_move_99 (by decide) ?_
                      refine z_iload_n dX9_move_101 rfl rfl ?_
                      refine c_imul dX9_move_102 ?_
                      refine z_iload_n dX9_move_103 rfl rfl ?_
                      refine c_iadd dX9_move_104 ?_
                      refine c_bipush dX9_move_105 (by decide) ?_
                      refine z_iload_n dX9_move_107 rfl rfl ?_
                      refine c_imul dX9_move_108 ?_
                      refine z_iload dX9_move_109 rfl ?_
                      refine c_iadd dX9_move_111 ?_
                      refine c_icmp_ge (tgt := 119) dX9_move_112 (by decide) (by omega) (by omega) (fun h112 => ?_) (fun h112 => ?_)
                      · refine c_iconst dX9_move_119 ?_
                        refine z_istore dX9_move_120 (by decide) rfl ?_
                        refine c_iconst dX9_move_122 ?_
                        refine z_istore dX9_move_123 (by decide) rfl ?_
                        have L125 : ∀ (m125 : Nat), ∀ (q up : Int) (J1 : Nat → Nat → Int), (k - q).toNat = m125 → (0 ≤ q ∧ q ≤ k) → ((up = 1 ∧ 40 * sh + i < 40 * t + j) ∨ (up = 0 ∧ ¬ 40 * sh + i < 40 * t + j)) → (J1 = (fun a x => if a = 65 ∧ (40 * t + j).toNat ≤ x ∧ x < (40 * t + j).toNat + k.toNat ∧ ((up = 1 ∧ (40 * t + j).toNat + (k - q).toNat ≤ x) ∨ (up = 0 ∧ x < (40 * t + j).toNat + q.toNat)) then J 65 ((40 * sh + i).toNat + (x - (40 * t + j).toNat)) else J a x)) → Z g l MX9_move 125 [some (.ref 42), some (.int (iZ sh)), some (.int (iZ i)), some (.int (iZ t)), some (.int (iZ j)), some (.int (iZ k)), some (.int (iZ up)), some (.int (iZ q)), none] [] (KF Kd, zi J1, zj P, RF Rd, n, s0) Q0 := by
                          intro m125
                          induction m125 using Nat.strongRecOn with
                          | ind m125 ih125 =>
                            intro q up J1 hm125 hq hup hJ
                            refine z_iload dX9_move_125 rfl ?_
                            refine z_iload dX9_move_127 rfl ?_
                            refine c_icmp_ge (tgt := 186) dX9_move_129 (by decide) (by omega) (by omega) (fun h129 => ?_) (fun h129 => ?_)
                            · refine z_iload dX9_move_186 rfl ?_
                              refine c_ireturn dX9_move_188 rfl ?_
                              subst hQ0; refine ⟨_, _, rfl, ?_⟩; unfold aMove; rw [cif_pos (by omega), cif_neg (by omega), cif_pos (by omega), cif_pos (by omega)]; refine ⟨rfl, ?_, pp_refl _⟩
                              rw [show J1 = jmove J (40 * sh + i).toNat (40 * t + j).toNat k.toNat by subst hJ; unfold jmove; funext a x; grind]; exact pq_refl _
                            · refine z_iload dX9_move_132 rfl ?_
                              refine c_if_eq (tgt := 147) dX9_move_134 (by decide) (by omega) (fun h134 => ?_) (fun h134 => ?_)
                              · refine z_iload dX9_move_147 rfl ?_
                                refine z_istore dX9_move_149 (by decide) rfl ?_
                                refine z_aload_n dX9_move_151 rfl rfl ?_
                                refine z_getR (ci := 9) (kf := 33) dX9_move_152 rfl (by decide) (by decide) rfl w_809 rfl ?_
                                refine c_bipush dX9_move_155 (by decide) ?_
                                refine z_iload_n dX9_move_157 rfl rfl ?_
                                refine c_imul dX9_move_158 ?_
                                refine z_iload dX9_move_159 rfl ?_
                                refine c_iadd dX9_move_161 ?_
                                refine z_iload dX9_move_162 rfl ?_
                                refine c_iadd dX9_move_164 ?_
                                refine z_aload_n dX9_move_165 rfl rfl ?_
                                refine z_getR (ci := 9) (kf := 33) dX9_move_166 rfl (by decide) (by decide) rfl w_809 rfl ?_
                                refine c_bipush dX9_move_169 (by decide) ?_
                                refine z_iload_n dX9_move_171 rfl rfl ?_
                                refine c_imul dX9_move_172 ?_
                                refine z_iload_n dX9_move_173 rfl rfl ?_
                                refine c_iadd dX9_move_174 ?_
                                refine z_iload dX9_move_175 rfl ?_
                                refine c_iadd dX9_move_177 ?_
                                refine c_iald dX9_move_178 rfl (by omega) (by decide) ?_
                                refine c_iast dX9_move_179 rfl (by omega) (by decide) ?_
                                refine c_iinc dX9_move_180 rfl (by decide) rfl ?_
                                refine z_goto (tgt := 125) dX9_move_183 (by decide) ?_
                                exact Z.fg2 (ih125 _ (by omega) _ _ _ rfl (by omega) hup (by clear ih125 hQ0; subst hJ; funext a x; simp only [zup]; grind (splits := 20))) (zs1 rfl (zs1 rfl (zs1 rfl (zs1 rfl (zs1 rfl (zs1 rfl (zs1 rfl (zs1 rfl (zsn zs0)))))))))
                              · refine z_iload dX9_move_137 rfl ?_
                                refine c_iconst dX9_move_139 ?_
                                refine c_isub dX9_move_140 ?_
                                refine z_iload dX9_move_141 rfl ?_
                                refine c_isub dX9_move_143 ?_
                                refine z_goto (tgt := 149) dX9_move_144 (by decide) ?_
                                refine z_istore dX9_move_149 (by decide) rfl ?_
                                refine z_aload_n dX9_move_151 rfl rfl ?_
                                refine z_getR (ci := 9) (kf := 33) dX9_move_152 rfl (by decide) (by decide) rfl w_809 rfl ?_
                                refine c_bipush dX9_move_155 (by decide) ?_
                                refine z_iload_n dX9_move_157 rfl rfl ?_
                                refine c_imul dX9_move_158 ?_
                                refine z_iload dX9_move_159 rfl ?_
                                refine c_iadd dX9_move_161 ?_
                                refine z_iload dX9_move_162 rfl ?_
                                refine c_iadd dX9_move_164 ?_
                                refine z_aload_n dX9_move_165 rfl rfl ?_
                                refine z_getR (ci := 9) (kf := 33) dX9_move_166 rfl (by decide) (by decide) rfl w_809 rfl ?_
                                refine c_bipush dX9_move_169 (by decide) ?_
                                refine z_iload_n dX9_move_171 rfl rfl ?_
                                refine c_imul dX9_move_172 ?_
                                refine z_iload_n dX9_move_173 rfl rfl ?_
                                refine c_iadd dX9_move_174 ?_
                                refine z_iload dX9_move_175 rfl ?_
                                refine c_iadd dX9_move_177 ?_
                                refine c_iald dX9_move_178 rfl (by omega) (by decide) ?_
                                refine c_iast dX9_move_179 rfl (by omega) (by decide) ?_
                                refine c_iinc dX9_move_180 rfl (by decide) rfl ?_
                                refine z_goto (tgt := 125) dX9_move_183 (by decide) ?_
                                exact Z.fg2 (ih125 _ (by omega) _ _ _ rfl (by omega) hup (by clear ih125 hQ0; subst hJ; funext a x; simp only [zup]; grind (splits := 20))) (zs1 rfl (zs1 rfl (zs1 rfl (zs1 rfl (zs1 rfl (zs1 rfl (zs1 rfl (zs1 rfl (zsn zs0)))))))))
                        exact Z.fg2 (L125 _ _ _ _ rfl (by omega) (by omega) (by clear hQ0; funext a x; grind)) (zs1 rfl (zs1 rfl (zs1 rfl (zs1 rfl (zs1 rfl (zs1 rfl (zs1 rfl (zs1 rfl (zsn zs0)))))))))
                      · refine c_iconst dX9_move_115 ?_
                        refine z_goto (tgt := 120) dX9_move_116 (by decide) ?_
                        refine z_istore dX9_move_120 (by decide) rfl ?_
                        refine c_iconst dX9_move_122 ?_
                        refine z_istore dX9_move_123 (by decide) rfl ?_
                        have L125 : ∀ (m125 : Nat), ∀ (q up : Int) (J1 : Nat → Nat → Int), (k - q).toNat = m125 → (0 ≤ q ∧ q ≤ k) → ((up = 1 ∧ 40 * sh + i < 40 * t + j) ∨ (up = 0 ∧ ¬ 40 * sh + i < 40 * t + j)) → (J1 = (fun a x => if a = 65 ∧ (40 * t + j).toNat ≤ x ∧ x < (40 * t + j).toNat + k.toNat ∧ ((up = 1 ∧ (40 * t + j).toNat + (k - q).toNat ≤ x) ∨ (up = 0 ∧ x < (40 * t + j).toNat + q.toNat)) then J 65 ((40 * sh + i).toNat + (x - (40 * t + j).toNat)) else J a x)) → Z g l MX9_move 125 [some (.ref 42), some (.int (iZ sh)), some (.int (iZ i)), some (.int (iZ t)), some (.int (iZ j)), some (.int (iZ k)), some (.int (iZ up)), some (.int (iZ q)), none] [] (KF Kd, zi J1, zj P, RF Rd, n, s0) Q0 := by
                          intro m125
                          induction m125 using Nat.strongRecOn with
                          | ind m125 ih125 =>
                            intro q up J1 hm125 hq hup hJ
                            refine z_iload dX9_move_125 rfl ?_
                            refine z_iload dX9_move_127 rfl ?_
                            refine c_icmp_ge (tgt := 186) dX9_move_129 (by decide) (by omega) (by omega) (fun h129 => ?_) (fun h129 => ?_)
                            · refine z_iload dX9_move_186 rfl ?_
                              refine c_ireturn dX9_move_188 rfl ?_
                              subst hQ0; refine ⟨_, _, rfl, ?_⟩; unfold aMove; rw [cif_pos (by omega), cif_neg (by omega), cif_pos (by omega), cif_pos (by omega)]; refine ⟨rfl, ?_, pp_refl _⟩
                              rw [show J1 = jmove J (40 * sh + i).toNat (40 * t + j).toNat k.toNat by subst hJ; unfold jmove; funext a x; grind]; exact pq_refl _
                            · refine z_iload dX9_move_132 rfl ?_
                              refine c_if_eq (tgt := 147) dX9_move_134 (by decide) (by omega) (fun h134 => ?_) (fun h134 => ?_)
                              · refine z_iload dX9_move_147 rfl ?_
                                refine z_istore dX9_move_149 (by decide) rfl ?_
                                refine z_aload_n dX9_move_151 rfl rfl ?_
                                refine z_getR (ci := 9) (kf := 33) dX9_move_152 rfl (by decide) (by decide) rfl w_809 rfl ?_
                                refine c_bipush dX9_move_155 (by decide) ?_
                                refine z_iload_n dX9_move_157 rfl rfl ?_
                                refine c_imul dX9_move_158 ?_
                                refine z_iload dX9_move_159 rfl ?_
                                refine c_iadd dX9_move_161 ?_
                                refine z_iload dX9_move_162 rfl ?_
                                refine c_iadd dX9_move_164 ?_
                                refine z_aload_n dX9_move_165 rfl rfl ?_
                                refine z_getR (ci := 9) (kf := 33) dX9_move_166 rfl (by decide) (by decide) rfl w_809 rfl ?_
                                refine c_bipush dX9_move_169 (by decide) ?_
                                refine z_iload_n dX9_move_171 rfl rfl ?_
                                refine c_imul dX9_move_172 ?_
                                refine z_iload_n dX9_move_173 rfl rfl ?_
                                refine c_iadd dX9_move_174 ?_
                                refine z_iload dX9_move_175 rfl ?_
                                refine c_iadd dX9_move_177 ?_
                                refine c_iald dX9_move_178 rfl (by omega) (by decide) ?_
                                refine c_iast dX9_move_179 rfl (by omega) (by decide) ?_
                                refine c_iinc dX9_move_180 rfl (by decide) rfl ?_
                                refine z_goto (tgt := 125) dX9_move_183 (by decide) ?_
                                exact Z.fg2 (ih125 _ (by omega) _ _ _ rfl (by omega) hup (by clear ih125 hQ0; subst hJ; funext a x; simp only [zup]; grind (splits := 20))) (zs1 rfl (zs1 rfl (zs1 rfl (zs1 rfl (zs1 rfl (zs1 rfl (zs1 rfl (zs1 rfl (zsn zs0)))))))))
                              · refine z_iload dX9_move_137 rfl ?_
                                refine c_iconst dX9_move_139 ?_
                                refine c_isub dX9_move_140 ?_
                                refine z_iload dX9_move_141 rfl ?_
                                refine c_isub dX9_move_143 ?_
                                refine z_goto (tgt := 149) dX9_move_144 (by decide) ?_
                                refine z_istore dX9_move_149 (by decide) rfl ?_
                                refine z_aload_n dX9_move_151 rfl rfl ?_
                                refine z_getR (ci := 9) (kf := 33) dX9_move_152 rfl (by decide) (by decide) rfl w_809 rfl ?_
                                refine c_bipush dX9_move_155 (by decide) ?_
                                refine z_iload_n dX9_move_157 rfl rfl ?_
                                refine c_imul dX9_move_158 ?_
                                refine z_iload dX9_move_159 rfl ?_
                                refine c_iadd dX9_move_161 ?_
                                refine z_iload dX9_move_162 rfl ?_
                                refine c_iadd dX9_move_164 ?_
                                refine z_aload_n dX9_move_165 rfl rfl ?_
                                refine z_getR (ci := 9) (kf := 33) dX9_move_166 rfl (by decide) (by decide) rfl w_809 rfl ?_
                                refine c_bipush dX9_move_169 (by decide) ?_
                                refine z_iload_n dX9_move_171 rfl rfl ?_
                                refine c_imul dX9_move_172 ?_
                                refine z_iload_n dX9_move_173 rfl rfl ?_
                                refine c_iadd dX9_move_174 ?_
                                refine z_iload dX9_move_175 rfl ?_
                                refine c_iadd dX9_move_177 ?_
                                refine c_iald dX9_move_178 rfl (by omega) (by decide) ?_
                                refine c_iast dX9_move_179 rfl (by omega) (by decide) ?_
                                refine c_iinc dX9_move_180 rfl (by decide) rfl ?_
                                refine z_goto (tgt := 125) dX9_move_183 (by decide) ?_
                                exact Z.fg2 (ih125 _ (by omega) _ _ _ rfl (by omega) hup (by clear ih125 hQ0; subst hJ; funext a x; simp only [zup]; grind (splits := 20))) (zs1 rfl (zs1 rfl (zs1 rfl (zs1 rfl (zs1 rfl (zs1 rfl (zs1 rfl (zs1 rfl (zsn zs0)))))))))
                        exact Z.fg2 (L125 _ _ _ _ rfl (by omega) (by omega) (by clear hQ0; funext a x; grind)) (zs1 rfl (zs1 rfl (zs1 rfl (zs1 rfl (zs1 rfl (zs1 rfl (zs1 rfl (zs1 rfl (zsn zs0)))))))))
                    · refine c_bipush dX9_move_96 (by decide) ?_
                      refine c_ireturn dX9_move_98 rfl ?_
                      subst hQ0; refine ⟨_, _, rfl, ?_⟩; unfold aMove; rw [cif_pos (by omega), cif_neg (by omega), cif_pos (by omega), cif_neg (by omega)]; exact ⟨rfl, pq_refl _, pp_refl _⟩
          · refine c_bipush dX9_move_52 (by decide) ?_
            refine c_ireturn dX9_move_54 rfl ?_
            subst hQ0; refine ⟨_, _, rfl, ?_⟩; unfold aMove; rw [cif_pos (by omega), cif_neg (by omega), cif_neg (by omega)]; exact ⟨rfl, pq_refl _, pp_refl _⟩
        · refine c_bipush dX9_move_34 (by decide) ?_
          refine c_ireturn dX9_move_36 rfl ?_
          subst hQ0; refine ⟨_, _, rfl, ?_⟩; unfold aMove; rw [cif_pos (by omega), cif_pos (by omega)]; exact ⟨rfl, pq_refl _, pp_refl _⟩
    · have g8 := (hb8.resolve_left (fun z => by have := z.1; omega)).2
      clear hb8
      refine c_iconst dX9_move_14 ?_
      refine c_ireturn dX9_move_15 rfl ?_
      subst hQ0; refine ⟨_, _, rfl, ?_⟩; unfold aMove; rw [cif_neg (by omega)]; exact ⟨rfl, pq_refl _, pp_refl _⟩
end Ref7
