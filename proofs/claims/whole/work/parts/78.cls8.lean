section Cls8
variable {g : ZG} {l : Launch} {Kd : ZK} {Rd : ZR} {n s0 c : Nat} {A J P : Nat → Nat → Int}
/-- entries in a sheet's row -/
def spJ (J : Nat → Nat → Int) (b f : Nat) (E : Nat → Int) (m : Nat) : Nat → Nat → Int := fun a q => if a = b ∧ f ≤ q ∧ q < f + m then E (triI (q - f)) else J a q
theorem spJ_off {b f m a : Nat} {E : Nat → Int} (h : a ≠ b) : spJ J b f E m a = J a := by funext q; unfold spJ; rw [if_neg (fun z => h z.1)]
theorem spJ_0 {b f : Nat} {E : Nat → Int} : spJ J b f E 0 = J := by funext a q; unfold spJ; rw [if_neg (by omega)]
theorem spJ_step {b f m : Nat} {E : Nat → Int} : zup (spJ J b f E m) b (f + m) (E (triI m)) = spJ J b f E (m + 1) := by
  funext a q
  by_cases ha : a = b
  · subst ha
    by_cases hq : q = f + m
    · subst hq; rw [zz]; unfold spJ; rw [if_pos ⟨rfl, by omega, by omega⟩, Nat.add_sub_cancel_left]
    · rw [zzi hq]; unfold spJ; exact ifc (by omega)
  · rw [zzr ha]; unfold spJ; exact ifc (by omega)
theorem WD_spread {t f m : Nat} {E : Nat → Int} (hW : WD A c Kd J Rd n s0) (ht : t < 4) (hf : f + m ≤ 40) (hE : ∀ x, x < m → rI (E (triI x))) : WD (jspread A E (40 * t + f) m) c Kd (spJ J (19 + 2 * t) f E m) Rd n s0 := by
  have ho := hW.2.2.2.1.2.2
  have e65 : ∀ q, jspread A E (40 * t + f) m 65 q = if 40 * t + f ≤ q ∧ q < 40 * t + f + m then E (triI (q - (40 * t + f))) else A 65 q := fun q => by unfold jspread; exact ifc (by omega)
  have eo : ∀ a, a ≠ 65 → jspread A E (40 * t + f) m a = A a := fun a ha => by funext q; unfold jspread; rw [if_neg (fun z => ha z.1)]
  refine WD_sheets hW (fun a a1 a2 a3 => eo a a3) (fun a ha => spJ_off (by omega)) ?_ ⟨fun q hq => by rw [eo 63 (by decide), eo 64 (by decide)]; exact ho.1 q hq, fun q hq => by rw [e65]; split; exact hE _ (by omega); exact ho.2 q hq⟩
  have h1 := hW.2.2.1.2.2.2.2.2.2 t ht
  refine SH_of ht hW.2.2.1.2.2.2.2.2.2 (fun q hq => ⟨by rw [eo 63 (by decide)], by rw [eo 64 (by decide)]⟩) (fun q hq => by rw [e65, if_neg (by omega)]) (fun a a1 a2 => spJ_off a2) ⟨?_, ?_, fun x hx => ?_⟩
  · rw [spJ_off (by omega), eo 63 (by decide)]; exact h1.1
  · rw [spJ_off (by omega), eo 64 (by decide)]; exact h1.2.1
  · rw [e65]; unfold spJ
    by_cases e : f ≤ x ∧ x < f + m
    · rw [if_pos ⟨rfl, e⟩, if_pos (by omega)]; congr 2; omega
    · rw [if_neg (by omega), if_neg (by omega)]; exact h1.2.2 x hx
set_option maxHeartbeats 4000000 in
set_option maxRecDepth 100000 in
theorem cMX8_spread {s sh f : Int} (hs : rI s) (hsh : rI sh) (hf : rI f) (hW : WD A c Kd J Rd n s0) : ZC g l MX8_spread [.ref 4, .int (iZ s), .int (iZ sh), .int (iZ f)] (KF Kd, zi J, zj P, RF Rd, n, s0) (PW (aSpread A s sh f).2 (c + 1) J P (.int (iZ (aSpread A s sh f).1))) := by
  refine ZC.of (by decide) (Nat.le_of_ble_eq_true rfl) ?_
  generalize hQ0 : (PW (aSpread A s sh f).2 (c + 1) J P (.int (iZ (aSpread A s sh f).1)) : Option Value → ZH → Prop) = Q0
  show Z g l MX8_spread 0 [some (.ref 4), some (.int (iZ s)), some (.int (iZ sh)), some (.int (iZ f)), none, none, none, none, none] [] (KF Kd, zi J, zj P, RF Rd, n, s0) Q0
  refine z_aload_n dX8_spread_0 rfl rfl ?_
  refine z_iload_n dX8_spread_1 rfl rfl ?_
  refine z_callv (N := MX8_held) (ci := 8) (nas := 1) (as := [_]) dX8_spread_2 w_333 w_330 w_332 ws_2 w_1 (by decide +kernel) rfl rfl rfl (by decide) (Nat.le_of_ble_eq_true rfl) (by decide) (by decide) (ZC.mono (cMX8_held (by omega) hW) ?_)
  rintro _ _ ⟨rfl, hd2⟩
  rcases hd2 with ⟨hf2, rfl⟩ | ⟨hf2, r2, rfl, hr2⟩
  · skip
    refine z_astoreN dX8_spread_5 (by decide) rfl ?_
    refine z_aloadN dX8_spread_7 rfl ?_
    refine z_ifnullN (tgt := 19) dX8_spread_9 (by decide) ?_
    refine c_iconst dX8_spread_19 ?_
    refine c_ireturn dX8_spread_20 rfl ?_
    subst hQ0; unfold aSpread; rw [cif_neg (by omega)]; exact PW_id hW
  · have hK2 := FA_K1 hr2.1
    have hE2 := WD_ent hW hr2.1
    have hF2 := FA_okF hW hr2
    have hl2 := hF2.2.1
    refine z_astore dX8_spread_5 (by decide) rfl ?_
    refine z_aload dX8_spread_7 rfl ?_
    refine z_ifnull dX8_spread_9 ?_
    refine z_iload_n dX8_spread_12 rfl rfl ?_
    refine z_calls (N := MX8_isSheet) (nas := 1) (as := [_]) dX8_spread_13 w_313 w_311 w_312 w_1 (by decide +kernel) rfl rfl (Nat.le_of_ble_eq_true rfl) (by decide) (by decide) (ZC.mono (cMX8_isSheet (by omega)) ?_)
    rintro _ _ ⟨b13, rfl, rfl, hb13⟩
    refine c_if_ne (tgt := 21) dX8_spread_16 (by decide) (by omega) (fun h16 => ?_) (fun h16 => ?_)
    · have g13 := (hb13.resolve_right (fun z => by have := z.1; omega)).2
      clear hb13
      have hsh := WD_sh hW (t := sh.toNat) (by omega)
      have htk := tr_bd (i := A 44 s.toNat)
      refine z_aload_n dX8_spread_21 rfl rfl ?_
      refine z_getR (ci := 8) (kf := 5) dX8_spread_22 rfl (by decide) (by decide) rfl w_187 rfl ?_
      refine z_iload_n dX8_spread_25 rfl rfl ?_
      refine c_aald dX8_spread_26 (Or.inr rfl) (by omega) (by decide) (sh_R (by omega)) ?_
      refine z_astore dX8_spread_27 (by decide) rfl ?_
      refine z_aload dX8_spread_29 rfl ?_
      refine z_callv (N := MX5_isMissing) (ci := 5) (nas := 0) (as := []) dX8_spread_31 w_317 w_314 w_315 w_316 w_3 (by decide +kernel) rfl rfl (sh_K1 (by omega)) (by decide) (Nat.le_of_ble_eq_true rfl) (by decide) (by decide) (ZC.mono (cMX5_isMissing (t := sh.toNat) (by omega) (by omega)) ?_)
      rintro _ _ ⟨b31, rfl, rfl, hb31⟩
      refine c_if_eq (tgt := 40) dX8_spread_34 (by decide) (by omega) (fun h34 => ?_) (fun h34 => ?_)
      · have g31 := (hb31.resolve_left (fun z => by have := z.1; omega)).2
        clear hb31
        refine z_aload dX8_spread_40 rfl ?_
        refine z_iload_n dX8_spread_42 rfl rfl ?_
        refine z_aload dX8_spread_43 rfl ?_
        refine c_getI (ci := 3) (kf := 0) dX8_spread_45 hK2 (by decide) (by decide) rfl w_280 ?_
        rw [hr2.2.1]
        refine z_calls (N := MX8_triangle) (nas := 1) (as := [_]) dX8_spread_48 w_320 w_318 w_319 w_1 (by decide +kernel) rfl rfl (Nat.le_of_ble_eq_true rfl) (by decide) (by decide) (ZC.mono (cMX8_triangle (by omega)) ?_)
        rintro _ _ ⟨rfl, rfl⟩
        refine z_callv (N := MX5_has) (ci := 5) (nas := 2) (as := [_, _]) dX8_spread_51 w_324 w_321 w_322 w_323 w_3 (by decide +kernel) rfl rfl (sh_K1 (by omega)) (by decide) (Nat.le_of_ble_eq_true rfl) (by decide) (by decide) (ZC.mono (cMX5_has (t := sh.toNat) (by omega) (by omega) (by omega) (by omega)) ?_)
        rintro _ _ ⟨b51, rfl, rfl, hb51⟩
        refine c_if_ne (tgt := 60) dX8_spread_54 (by decide) (by omega) (fun h54 => ?_) (fun h54 => ?_)
        · have g51 := (hb51.resolve_right (fun z => by have := z.1; omega)).2
          clear hb51
          refine z_iload_n dX8_spread_60 rfl rfl ?_
          refine z_istore dX8_spread_61 (by decide) rfl ?_
          refine c_iconst dX8_spread_63 ?_
          refine z_istore dX8_spread_64 (by decide) rfl ?_
          have L66 : ∀ (m66 : Nat), ∀ (i p : Int) (J1 : Nat → Nat → Int), (A 44 s.toNat - i).toNat = m66 → (0 ≤ i ∧ i ≤ A 44 s.toNat) → (p = f + tr i) → (J1 = spJ J (19 + 2 * sh.toNat) f.toNat (eE A s) (tr i).toNat) → Z g l MX8_spread 66 [some (.ref 4), some (.int (iZ s)), some (.int (iZ sh)), some (.int (iZ f)), some (.ref r2), some (.ref (18 + 2 * sh.toNat)), some (.int (iZ p)), some (.int (iZ i)), none] [] (KF Kd, zi J1, zj P, RF Rd, n, s0) Q0 := by
            intro m66
            induction m66 using Nat.strongRecOn with
            | ind m66 ih66 =>
              intro i p J1 hm66 hi hp hJ
              refine z_iload dX8_spread_66 rfl ?_
              refine z_aload dX8_spread_68 rfl ?_
              refine c_getI (ci := 3) (kf := 0) dX8_spread_70 hK2 (by decide) (by decide) rfl w_280 ?_
              rw [show J1 r2 0 = A 44 s.toNat by rw [hJ, spJ_off (by have := hr2.1.1; omega)]; exact hr2.2.1]
              refine c_icmp_ge (tgt := 121) dX8_spread_73 (by decide) (by omega) (by omega) (fun h73 => ?_) (fun h73 => ?_)
              · refine z_aload dX8_spread_121 rfl ?_
                refine c_getI (ci := 3) (kf := 0) dX8_spread_123 hK2 (by decide) (by decide) rfl w_280 ?_
                rw [show J1 r2 0 = A 44 s.toNat by rw [hJ, spJ_off (by have := hr2.1.1; omega)]; exact hr2.2.1]
                refine z_calls (N := MX8_triangle) (nas := 1) (as := [_]) dX8_spread_126 w_320 w_318 w_319 w_1 (by decide +kernel) rfl rfl (Nat.le_of_ble_eq_true rfl) (by decide) (by decide) (ZC.mono (cMX8_triangle (by omega)) ?_)
                rintro _ _ ⟨rfl, rfl⟩
                refine c_ireturn dX8_spread_129 rfl ?_
                subst hQ0; unfold aSpread; rw [cif_pos (by omega), cif_neg (by omega), cif_pos (by omega), show (40 * sh + f).toNat = 40 * sh.toNat + f.toNat by omega]
                rw [show i = A 44 s.toNat by omega] at hJ
                have hE9 : ∀ x, x < (tr (A 44 s.toNat)).toNat → rI (eE A s (triI x)) := fun x hx => by
                  have h1 := (formE_tri (N := fun _ => 0) (k := A 44 s.toNat) (x := x) (by omega) (by omega)).1
                  have : -99 ≤ eE A s (triI x) ∧ eE A s (triI x) ≤ 99 := hF2.2.2.1.1 _ h1
                  omega
                have hws := WD_spread (t := sh.toNat) (f := f.toNat) (m := (tr (A 44 s.toNat)).toNat) hW (by omega) (by omega) hE9
                rw [← hJ] at hws
                exact ⟨rfl, _, _, _, _, _, _, rfl, WD_mono hws, fun a a1 a2 => by rw [hJ]; exact spJ_off (by omega), cs_refl⟩
              · refine c_iconst dX8_spread_76 ?_
                refine z_istore dX8_spread_77 (by decide) rfl ?_
                have L79 : ∀ (m79 : Nat), ∀ (j p : Int) (J1 : Nat → Nat → Int), (i + 1 - j).toNat = m79 → (0 ≤ j ∧ j ≤ i + 1) → (p = f + tr i + j) → (J1 = spJ J (19 + 2 * sh.toNat) f.toNat (eE A s) (tr i + j).toNat) → Z g l MX8_spread 79 [some (.ref 4), some (.int (iZ s)), some (.int (iZ sh)), some (.int (iZ f)), some (.ref r2), some (.ref (18 + 2 * sh.toNat)), some (.int (iZ p)), some (.int (iZ i)), some (.int (iZ j))] [] (KF Kd, zi J1, zj P, RF Rd, n, s0) Q0 := by
                  intro m79
                  induction m79 using Nat.strongRecOn with
                  | ind m79 ih79 =>
                    intro j p J1 hm79 hj hp hJ
                    refine z_iload dX8_spread_79 rfl ?_
                    refine z_iload dX8_spread_81 rfl ?_
                    refine c_icmp_gt (tgt := 115) dX8_spread_83 (by decide) (by omega) (by omega) (fun h83 => ?_) (fun h83 => ?_)
                    · refine c_iinc dX8_spread_115 rfl (by decide) rfl ?_
                      refine z_goto (tgt := 66) dX8_spread_118 (by decide) ?_
                      exact Z.fg2 (ih66 _ (by omega) _ _ _ rfl (by omega) (by rw [tr_succ (by omega)]; omega) (by rw [hJ, tr_succ (by omega)]; congr 1; omega)) (zs1 rfl (zs1 rfl (zs1 rfl (zs1 rfl (zs1 rfl (zs1 rfl (zs1 rfl (zs1 rfl (zsn zs0)))))))))
                    · have htl := tr_le (i := i) (k := A 44 s.toNat) (by omega)
                      have hti := tr_bd (i := i)
                      refine z_aload dX8_spread_86 rfl ?_
                      refine z_iload dX8_spread_88 rfl ?_
                      refine z_aload dX8_spread_90 rfl ?_
                      refine z_getR (ci := 3) (kf := 1) dX8_spread_92 hK2 (by decide) (by decide) rfl w_286 hE2.1 ?_
                      refine c_iconst dX8_spread_95 ?_
                      refine z_iload dX8_spread_96 rfl ?_
                      refine c_imul dX8_spread_98 ?_
                      refine z_iload dX8_spread_99 rfl ?_
                      refine c_iadd dX8_spread_101 ?_
                      refine c_iald dX8_spread_102 hE2.2.1 (by omega) (by decide) ?_
                      have hen : -99 ≤ eE A s (4 * i.toNat + j.toNat) ∧ eE A s (4 * i.toNat + j.toNat) ≤ 99 := hF2.2.2.1.1 _ (by omega)
                      rw [show J1 (ent Rd r2) (4 * i + j).toNat = eE A s (4 * i.toNat + j.toNat) by
                        rw [hJ, spJ_off (by omega), show (4 * i + j).toNat = 4 * i.toNat + j.toNat by omega]; exact hr2.2.2 _ (by omega)]
                      have h63 : J1 (18 + 2 * sh.toNat) 0 = A 63 sh.toNat := by rw [hJ, spJ_off (by omega)]; exact hsh.1
                      refine z_callv (N := MX5_put) (ci := 5) (nas := 2) (as := [_, _]) dX8_spread_103 w_337 w_334 w_335 w_336 w_3 (by decide +kernel) rfl rfl (sh_K1 (by omega)) (by decide) (Nat.le_of_ble_eq_true rfl) (by decide) (by decide) (ZC.mono (cMX5_put (t := sh.toNat) (by omega) (by omega) (by omega)) ?_)
                      rintro _ _ ⟨rfl, rfl⟩
                      rw [lowS_id hen]
                      have hst9 : zup J1 (19 + 2 * sh.toNat) p.toNat (eE A s (4 * i.toNat + j.toNat)) = spJ J (19 + 2 * sh.toNat) f.toNat (eE A s) (tr i + (j + 1)).toNat := by
                        rw [hJ, show p.toNat = f.toNat + (tr i + j).toNat by omega, ← triI_at (i := i) (j := j) (by omega), spJ_step]; congr 1; omega
                      refine c_iinc dX8_spread_106 rfl (by decide) rfl ?_
                      refine c_iinc dX8_spread_109 rfl (by decide) rfl ?_
                      refine z_goto (tgt := 79) dX8_spread_112 (by decide) ?_
                      exact Z.fg2 (ih79 _ (by omega) _ _ _ rfl (by omega) (by omega) hst9) (zs1 rfl (zs1 rfl (zs1 rfl (zs1 rfl (zs1 rfl (zs1 rfl (zs1 rfl (zs1 rfl (zs1 rfl zs0)))))))))
                exact Z.fg2 (L79 _ 0 _ _ rfl (by omega) (by omega) (by rw [hJ, Int.add_zero])) (zs1 rfl (zs1 rfl (zs1 rfl (zs1 rfl (zs1 rfl (zs1 rfl (zs1 rfl (zs1 rfl (zs1 rfl zs0)))))))))
          exact Z.fg2 (L66 _ 0 _ _ rfl (by omega) (by rw [show tr 0 = 0 from rfl]; omega) (by rw [show (tr 0).toNat = 0 from rfl, spJ_0])) (zs1 rfl (zs1 rfl (zs1 rfl (zs1 rfl (zs1 rfl (zs1 rfl (zs1 rfl (zs1 rfl (zsn zs0)))))))))
        · have g51 := (hb51.resolve_left (fun z => by have := z.1; omega)).2
          clear hb51
          refine c_bipush dX8_spread_57 (by decide) ?_
          refine c_ireturn dX8_spread_59 rfl ?_
          subst hQ0; unfold aSpread; rw [cif_pos (by omega), cif_neg (by omega), cif_neg (by omega)]; exact PW_id hW
      · have g31 := (hb31.resolve_right (fun z => by have := z.1; omega)).2
        clear hb31
        refine c_bipush dX8_spread_37 (by decide) ?_
        refine c_ireturn dX8_spread_39 rfl ?_
        subst hQ0; unfold aSpread; rw [cif_pos (by omega), cif_pos (by omega)]; exact PW_id hW
    · have g13 := (hb13.resolve_left (fun z => by have := z.1; omega)).2
      clear hb13
      refine c_iconst dX8_spread_19 ?_
      refine c_ireturn dX8_spread_20 rfl ?_
      subst hQ0; unfold aSpread; rw [cif_neg (by omega)]; exact PW_id hW
set_option maxHeartbeats 4000000 in
set_option maxRecDepth 100000 in
theorem cMX8_count {w : Int} (hw : rI w) (hW : WD A c Kd J Rd n s0) : ZC g l MX8_count [.ref 4, .int (iZ w)] (KF Kd, zi J, zj P, RF Rd, n, s0) (PW A (c + 1) J P (.int (iZ (aCount A w)))) := by
  refine ZC.of (by decide) (Nat.le_of_ble_eq_true rfl) ?_
  generalize hQ0 : (PW A (c + 1) J P (.int (iZ (aCount A w))) : Option Value → ZH → Prop) = Q0
  show Z g l MX8_count 0 [some (.ref 4), some (.int (iZ w))] [] (KF Kd, zi J, zj P, RF Rd, n, s0) Q0
  refine z_iload_n dX8_count_0 rfl rfl ?_
  rcases (show w = 0 ∨ w = 1 ∨ w = 2 ∨ w = 3 ∨ (w < 0 ∨ 3 < w) by omega) with hsw | hsw | hsw | hsw | hsw
  · subst hsw
    refine c_tableIn (tgt := 32) dX8_count_1 (by decide) (by decide) rfl (by decide) ?_
    refine z_aload_n dX8_count_32 rfl rfl ?_
    refine z_callv (N := MX8_heldSlots) (ci := 8) (nas := 0) (as := []) dX8_count_33 w_757 w_754 w_756 ws_18 w_1 (by decide +kernel) rfl rfl rfl (by decide) (Nat.le_of_ble_eq_true rfl) (by decide) (by decide) (ZC.mono (cMX8_heldSlots hW) ?_)
    rintro _ _ ⟨rfl, rfl⟩
    refine c_ireturn dX8_count_36 rfl ?_
    subst hQ0; exact PW_id hW
  · subst hsw
    refine c_tableIn (tgt := 37) dX8_count_1 (by decide) (by decide) rfl (by decide) ?_
    refine z_aload_n dX8_count_37 rfl rfl ?_
    refine z_getR (ci := 8) (kf := 2) dX8_count_38 rfl (by decide) (by decide) rfl w_184 rfl ?_
    have hnd := hW.2.2.1.2.2.1.1
    refine c_getI (ci := 7) (kf := 0) dX8_count_41 rfl (by decide) (by decide) rfl w_32 ?_
    refine c_ireturn dX8_count_44 rfl ?_
    subst hQ0; rw [hnd]; exact PW_id hW
  · subst hsw
    refine c_tableIn (tgt := 45) dX8_count_1 (by decide) (by decide) rfl (by decide) ?_
    refine z_aload_n dX8_count_45 rfl rfl ?_
    refine z_callv (N := MX8_presentSheets) (ci := 8) (nas := 0) (as := []) dX8_count_46 w_769 w_766 w_768 ws_19 w_1 (by decide +kernel) rfl rfl rfl (by decide) (Nat.le_of_ble_eq_true rfl) (by decide) (by decide) (ZC.mono (cMX8_presentSheets hW) ?_)
    rintro _ _ ⟨rfl, rfl⟩
    refine c_ireturn dX8_count_49 rfl ?_
    subst hQ0; exact PW_id hW
  · subst hsw
    refine c_tableIn (tgt := 50) dX8_count_1 (by decide) (by decide) rfl (by decide) ?_
    refine z_aload_n dX8_count_50 rfl rfl ?_
    have hkp := hW.2.2.1.2.2.2.2.2.1
    have hkq := hW.2.2.2.1.2.1.2.2.1
    refine c_getI (ci := 8) (kf := 4) dX8_count_51 rfl (by decide) (by decide) rfl w_186 ?_
    refine c_if_eq (tgt := 61) dX8_count_54 (by decide) (by omega) (fun h54 => ?_) (fun h54 => ?_)
    · refine c_iconst dX8_count_61 ?_
      refine c_ireturn dX8_count_62 rfl ?_
      subst hQ0; rw [show aCount A 3 = (if A 42 8 = 0 then 0 else 1) from rfl]; first | (rw [if_neg (by omega)]; exact PW_id hW) | (rw [if_pos (by omega)]; exact PW_id hW)
    · refine c_iconst dX8_count_57 ?_
      refine z_goto (tgt := 62) dX8_count_58 (by decide) ?_
      refine c_ireturn dX8_count_62 rfl ?_
      subst hQ0; rw [show aCount A 3 = (if A 42 8 = 0 then 0 else 1) from rfl]; first | (rw [if_neg (by omega)]; exact PW_id hW) | (rw [if_pos (by omega)]; exact PW_id hW)
  · refine c_tableOut (tgt := 63) dX8_count_1 (by omega) hsw (by decide) ?_
    refine c_iconst dX8_count_63 ?_
    refine c_ireturn dX8_count_64 rfl ?_
    subst hQ0; unfold aCount; rw [if_neg (by omega), if_neg (by omega), if_neg (by omega), if_neg (by omega)]; exact PW_id hW
set_option maxHeartbeats 4000000 in
set_option maxRecDepth 100000 in
theorem cMX8_worth {s x y z w : Int} (hs : rI s) (hx : rI x) (hy : rI y) (hz : rI z) (hw : rI w) (hW : WD A c Kd J Rd n s0) : ZC g l MX8_worth [.ref 4, .int (iZ s), .int (iZ x), .int (iZ y), .int (iZ z), .int (iZ w)] (KF Kd, zi J, zj P, RF Rd, n, s0) (PW A (c + 1) J P (.long (lZ (aWorth A s x y z w)))) := by
  refine ZC.of (by decide) (Nat.le_of_ble_eq_true rfl) ?_
  generalize hQ0 : (PW A (c + 1) J P (.long (lZ (aWorth A s x y z w))) : Option Value → ZH → Prop) = Q0
  show Z g l MX8_worth 0 [some (.ref 4), some (.int (iZ s)), some (.int (iZ x)), some (.int (iZ y)), some (.int (iZ z)), some (.int (iZ w)), none, none, none, none, none, none, none, none, none, none, none, none, none] [] (KF Kd, zi J, zj P, RF Rd, n, s0) Q0
  refine z_aload_n dX8_worth_0 rfl rfl ?_
  refine z_iload_n dX8_worth_1 rfl rfl ?_
  refine z_callv (N := MX8_held) (ci := 8) (nas := 1) (as := [_]) dX8_worth_2 w_333 w_330 w_332 ws_2 w_1 (by decide +kernel) rfl rfl rfl (by decide) (Nat.le_of_ble_eq_true rfl) (by decide) (by decide) (ZC.mono (cMX8_held (by omega) hW) ?_)
  rintro _ _ ⟨rfl, hd2⟩
  rcases hd2 with ⟨hf2, rfl⟩ | ⟨hf2, r2, rfl, hr2⟩
  · skip
    refine z_astoreN dX8_worth_5 (by decide) rfl ?_
    refine z_aloadN dX8_worth_7 rfl ?_
    refine z_ifnonnullN dX8_worth_9 ?_
    refine c_ldc2 (z := -1) dX8_worth_12 w_381 (by decide) ?_
    refine z_lreturn dX8_worth_15 rfl ?_
    subst hQ0; unfold aWorth; rw [cif_neg (by omega)]; exact PW_id hW
  · have hK2 := FA_K1 hr2.1
    have hE2 := WD_ent hW hr2.1
    have hF2 := FA_okF hW hr2
    have hl2 := hF2.2.1
    refine z_astore dX8_worth_5 (by decide) rfl ?_
    refine z_aload dX8_worth_7 rfl ?_
    refine z_ifnonnull (tgt := 16) dX8_worth_9 (by decide) ?_
    have h66 := hW.1
    have hj2 := hr2.2.1
    refine c_iconst dX8_worth_16 ?_
    refine c_newl dX8_worth_17 w_104 (by omega) ?_
    rw [KF_kp h66]
    have hKn : KF (zkp Kd n (2, 4)) n = (2, 4) := by rw [KF_dyn h66]; exact zkp_eq
    have hK4 : (KF (zkp Kd n (2, 4)) r2).1 = 13 := by rw [KF_zk (by have := hr2.1.2.1; omega)]; exact hK2
    have he4 : KF (zkp Kd n (2, 4)) (ent Rd r2) = (1, 16) := by rw [KF_zk (by have := hE2.2.2.2; omega)]; exact hE2.2.1
    refine z_dup dX8_worth_19 rfl ?_
    refine c_iconst dX8_worth_20 ?_
    refine z_iload_n dX8_worth_21 rfl rfl ?_
    refine c_i2l dX8_worth_22 (by omega) ?_
    refine c_last dX8_worth_23 hKn (by omega) (by decide) ?_
    refine z_dup dX8_worth_24 rfl ?_
    refine c_iconst dX8_worth_25 ?_
    refine z_iload_n dX8_worth_26 rfl rfl ?_
    refine c_i2l dX8_worth_27 (by omega) ?_
    refine c_last dX8_worth_28 hKn (by omega) (by decide) ?_
    refine z_dup dX8_worth_29 rfl ?_
    refine c_iconst dX8_worth_30 ?_
    refine z_iload dX8_worth_31 rfl ?_
    refine c_i2l dX8_worth_33 (by omega) ?_
    refine c_last dX8_worth_34 hKn (by omega) (by decide) ?_
    refine z_dup dX8_worth_35 rfl ?_
    refine c_iconst dX8_worth_36 ?_
    refine z_iload dX8_worth_37 rfl ?_
    refine c_i2l dX8_worth_39 (by omega) ?_
    refine c_last dX8_worth_40 hKn (by omega) (by decide) ?_
    refine z_astore dX8_worth_41 (by decide) rfl ?_
    generalize hP4 : zup (zup (zup (zup (zupA P n (fun _ => 0)) n (0 : Int).toNat x) n (1 : Int).toNat y) n (2 : Int).toNat z) n (3 : Int).toNat w = P4
    have hx4 : ∀ q : Nat, q < 4 → P4 n q = xs4 x y z w q := by
      intro q hq
      rcases (show q = 0 ∨ q = 1 ∨ q = 2 ∨ q = 3 by omega) with rfl | rfl | rfl | rfl <;> (rw [← hP4]; simp [zup, xs4])
    have hxr : ∀ q : Nat, q < 4 → rI (xs4 x y z w q) := by
      intro q hq
      rcases (show q = 0 ∨ q = 1 ∨ q = 2 ∨ q = 3 by omega) with rfl | rfl | rfl | rfl <;> (simp only [xs4]; simp; omega)
    have hcP : cs P P4 := fun a a1 a2 => by
      rw [← hP4, zup_ne (by omega), zup_ne (by omega), zup_ne (by omega), zup_ne (by omega)]; show (if a = n then _ else _) = _; rw [if_neg (by omega)]
    have hWn : WD A (c + 1) (zkp Kd n (2, 4)) J Rd (n + 1) (s0 + 4) := WD_newX hW (by decide) (by decide) (fun _ _ => rfl) (fun _ _ => rfl)
    refine c_ldc2 (z := 9223372036854775807) dX8_worth_43 w_382 (by decide) ?_
    refine z_lstore dX8_worth_46 (by decide) rfl ?_
    refine c_lconst0 dX8_worth_48 ?_
    refine z_lstore dX8_worth_49 (by decide) rfl ?_
    refine c_iconst dX8_worth_51 ?_
    refine z_istore dX8_worth_52 (by decide) rfl ?_
    have L54 : ∀ (m54 : Nat), ∀ (i rm sm : Int), (A 44 s.toNat - i).toNat = m54 → (0 ≤ i ∧ i ≤ A 44 s.toNat) → (rm = 9223372036854775807 - qsum (absF (eE A s)) (absF (xs4 x y z w)) (A 44 s.toNat).toNat i.toNat ∧ 0 ≤ rm ∧ rm ≤ 9223372036854775807) → (sm = qsum (eE A s) (xs4 x y z w) (A 44 s.toNat).toNat i.toNat) → Z g l MX8_worth 54 [some (.ref 4), some (.int (iZ s)), some (.int (iZ x)), some (.int (iZ y)), some (.int (iZ z)), some (.int (iZ w)), some (.ref r2), some (.ref n), some (.long (lZ rm)), none, some (.long (lZ sm)), none, some (.int (iZ i)), none, none, none, none, none, none] [] (KF (zkp Kd n (2, 4)), zi J, zj P4, RF Rd, n + 1, s0 + 4) Q0 := by
      intro m54
      induction m54 using Nat.strongRecOn with
      | ind m54 ih54 =>
        intro i rm sm hm54 hi hrm hsm
        refine z_iload dX8_worth_54 rfl ?_
        refine z_aload dX8_worth_56 rfl ?_
        refine c_getI (ci := 3) (kf := 0) dX8_worth_58 hK4 (by decide) (by decide) rfl w_280 ?_
        rw [hj2]
        refine c_icmp_ge (tgt := 175) dX8_worth_61 (by decide) (by omega) (by omega) (fun h61 => ?_) (fun h61 => ?_)
        · refine z_lload dX8_worth_175 rfl ?_
          refine z_lreturn dX8_worth_177 rfl ?_
          subst hQ0; unfold aWorth; rw [show i.toNat = (A 44 s.toNat).toNat by omega] at hrm hsm
          have hqw : qsum (eE A s) (xs4 x y z w) (A 44 s.toNat).toNat (A 44 s.toNat).toNat = wv (eE A s) (x, y, z, w) := qsum_wv (E := (eE A s)) (x := (xs4 x y z w)) hF2.1 hl2 hF2.2.2.2.1 hF2.2.2.2.2
          rw [cif_pos (by omega), if_pos (by omega), hsm, hqw]
          exact ⟨rfl, _, _, _, _, _, _, rfl, hWn, cs_refl, hcP⟩
        · refine c_iconst dX8_worth_64 ?_
          refine z_istore dX8_worth_65 (by decide) rfl ?_
          have L67 : ∀ (m67 : Nat), ∀ (j rm sm : Int), (A 44 s.toNat - j).toNat = m67 → (0 ≤ j ∧ j ≤ A 44 s.toNat) → (rm = 9223372036854775807 - (qsum (absF (eE A s)) (absF (xs4 x y z w)) (A 44 s.toNat).toNat i.toNat + rsum (absF (eE A s)) (absF (xs4 x y z w)) i.toNat j.toNat) ∧ 0 ≤ rm ∧ rm ≤ 9223372036854775807) → (sm = qsum (eE A s) (xs4 x y z w) (A 44 s.toNat).toNat i.toNat + rsum (eE A s) (xs4 x y z w) i.toNat j.toNat) → Z g l MX8_worth 67 [some (.ref 4), some (.int (iZ s)), some (.int (iZ x)), some (.int (iZ y)), some (.int (iZ z)), some (.int (iZ w)), some (.ref r2), some (.ref n), some (.long (lZ rm)), none, some (.long (lZ sm)), none, some (.int (iZ i)), some (.int (iZ j)), none, none, none, none, none] [] (KF (zkp Kd n (2, 4)), zi J, zj P4, RF Rd, n + 1, s0 + 4) Q0 := by
            intro m67
            induction m67 using Nat.strongRecOn with
            | ind m67 ih67 =>
              intro j rm sm hm67 hj hrm2 hsm2
              refine z_iload dX8_worth_67 rfl ?_
              refine z_aload dX8_worth_69 rfl ?_
              refine c_getI (ci := 3) (kf := 0) dX8_worth_71 hK4 (by decide) (by decide) rfl w_280 ?_
              rw [hj2]
              refine c_icmp_ge (tgt := 169) dX8_worth_74 (by decide) (by omega) (by omega) (fun h74 => ?_) (fun h74 => ?_)
              · have ej : j.toNat = (A 44 s.toNat).toNat := by omega
                rw [ej] at hrm2 hsm2
                refine c_iinc dX8_worth_169 rfl (by decide) rfl ?_
                refine z_goto (tgt := 54) dX8_worth_172 (by decide) ?_
                exact Z.fg2 (ih54 _ (by omega) _ _ _ rfl (by omega) (by rw [show (i + 1).toNat = i.toNat + 1 by omega, show qsum (absF (eE A s)) (absF (xs4 x y z w)) (A 44 s.toNat).toNat (i.toNat + 1) = qsum (absF (eE A s)) (absF (xs4 x y z w)) (A 44 s.toNat).toNat i.toNat + rsum (absF (eE A s)) (absF (xs4 x y z w)) i.toNat (A 44 s.toNat).toNat from rfl]; omega) (by rw [show (i + 1).toNat = i.toNat + 1 by omega, show qsum (eE A s) (xs4 x y z w) (A 44 s.toNat).toNat (i.toNat + 1) = qsum (eE A s) (xs4 x y z w) (A 44 s.toNat).toNat i.toNat + rsum (eE A s) (xs4 x y z w) i.toNat (A 44 s.toNat).toNat from rfl]; omega)) (zs1 rfl (zs1 rfl (zs1 rfl (zs1 rfl (zs1 rfl (zs1 rfl (zs1 rfl (zs1 rfl (zs1 rfl (zsn (zs1 rfl (zsn (zs1 rfl (zsn (zsn (zsn (zsn (zsn (zsn zs0)))))))))))))))))))
              · refine z_aload dX8_worth_77 rfl ?_
                refine z_iload dX8_worth_79 rfl ?_
                refine c_lald dX8_worth_81 hKn (by omega) (by decide) ?_
                rw [hx4 i.toNat (by omega)]
                have xi := hxr i.toNat (by omega)
                refine z_aload dX8_worth_82 rfl ?_
                refine z_iload dX8_worth_84 rfl ?_
                refine c_lald dX8_worth_86 hKn (by omega) (by decide) ?_
                rw [hx4 j.toNat (by omega)]
                have xj := hxr j.toNat (by omega)
                refine c_lmul dX8_worth_87 ?_
                refine z_lstore dX8_worth_88 (by decide) rfl ?_
                have hpr := mul_bd (a := xs4 x y z w i.toNat) (b := xs4 x y z w j.toNat) (A := 2147483648) (B := 2147483648) (by omega) (by omega) (by omega) (by omega)
                generalize hv : xs4 x y z w i.toNat * xs4 x y z w j.toNat = v at *
                refine z_aload dX8_worth_90 rfl ?_
                refine z_getR (ci := 3) (kf := 1) dX8_worth_92 hK4 (by decide) (by decide) rfl w_286 hE2.1 ?_
                refine c_iconst dX8_worth_95 ?_
                refine z_iload dX8_worth_96 rfl ?_
                refine c_imul dX8_worth_98 ?_
                refine z_iload dX8_worth_99 rfl ?_
                refine c_iadd dX8_worth_101 ?_
                refine c_iald dX8_worth_102 he4 (by omega) (by decide) ?_
                rw [show J (ent Rd r2) (4 * i + j).toNat = eE A s (4 * i.toNat + j.toNat) by rw [show (4 * i + j).toNat = 4 * i.toNat + j.toNat by omega]; exact hr2.2.2 _ (by omega)]
                have hen : -99 ≤ eE A s (4 * i.toNat + j.toNat) ∧ eE A s (4 * i.toNat + j.toNat) ≤ 99 := hF2.2.2.1.1 _ (by omega)
                generalize hea : eE A s (4 * i.toNat + j.toNat) = e at *
                refine z_istore dX8_worth_103 (by decide) rfl ?_
                refine z_lload dX8_worth_105 rfl ?_
                refine z_calls (N := MJ9_abs_067f4) (nas := 1) (as := [_]) dX8_worth_107 w_385 w_383 w_384 w_12 (by decide +kernel) rfl rfl (Nat.le_of_ble_eq_true rfl) (by decide) (by decide) (ZC.mono (cMJ9_abs_067f4 (by omega)) ?_)
                rintro _ _ ⟨rfl, rfl⟩
                refine z_lstore dX8_worth_110 (by decide) rfl ?_
                have hnn : 0 ≤ (e.natAbs : Int) * (v.natAbs : Int) := Int.mul_nonneg (Int.natCast_nonneg _) (Int.natCast_nonneg _)
                have hst1 : rsum (absF (eE A s)) (absF (xs4 x y z w)) i.toNat (j.toNat + 1) = rsum (absF (eE A s)) (absF (xs4 x y z w)) i.toNat j.toNat + (e.natAbs : Int) * (v.natAbs : Int) := by
                  show rsum (absF (eE A s)) (absF (xs4 x y z w)) i.toNat j.toNat + absF (eE A s) (4 * i.toNat + j.toNat) * absF (xs4 x y z w) i.toNat * absF (xs4 x y z w) j.toNat = _
                  rw [absF_mul (v0 := (v.natAbs : Int)) (by rw [hv])]; unfold absF; rw [hea]
                have hst2 : rsum (eE A s) (xs4 x y z w) i.toNat (j.toNat + 1) = rsum (eE A s) (xs4 x y z w) i.toNat j.toNat + e * v := by
                  show rsum (eE A s) (xs4 x y z w) i.toNat j.toNat + (eE A s) (4 * i.toNat + j.toNat) * (xs4 x y z w) i.toNat * (xs4 x y z w) j.toNat = _
                  rw [Int.mul_assoc, hv, hea]
                have hall := asum_le (E := (eE A s)) (x := (xs4 x y z w)) (n := (A 44 s.toNat).toNat) (i := i.toNat) (j := j.toNat + 1) (by omega) (by omega)
                refine z_lload dX8_worth_112 rfl ?_
                have L138 : ((e.natAbs : Int) * (v.natAbs : Int) ≤ rm) → Z g l MX8_worth 138 [some (.ref 4), some (.int (iZ s)), some (.int (iZ x)), some (.int (iZ y)), some (.int (iZ z)), some (.int (iZ w)), some (.ref r2), some (.ref n), some (.long (lZ rm)), none, some (.long (lZ sm)), none, some (.int (iZ i)), some (.int (iZ j)), some (.long (lZ v)), none, some (.int (iZ e)), some (.long (lZ (v.natAbs : Int))), none] [] (KF (zkp Kd n (2, 4)), zi J, zj P4, RF Rd, n + 1, s0 + 4) Q0 := by
                  intro hle
                  refine z_lload dX8_worth_138 rfl ?_
                  refine z_iload dX8_worth_140 rfl ?_
                  refine z_calls (N := MJ9_abs_0f7a4) (nas := 1) (as := [_]) dX8_worth_142 w_388 w_386 w_387 w_12 (by decide +kernel) rfl rfl (Nat.le_of_ble_eq_true rfl) (by decide) (by decide) (ZC.mono (cMJ9_abs_0f7a4 (by omega)) ?_)
                  rintro _ _ ⟨rfl, rfl⟩
                  refine c_i2l dX8_worth_145 (by omega) ?_
                  refine z_lload dX8_worth_146 rfl ?_
                  refine c_lmul dX8_worth_148 ?_
                  refine c_lsub dX8_worth_149 ?_
                  refine z_lstore dX8_worth_150 (by decide) rfl ?_
                  refine z_lload dX8_worth_152 rfl ?_
                  refine z_iload dX8_worth_154 rfl ?_
                  refine c_i2l dX8_worth_156 (by omega) ?_
                  refine z_lload dX8_worth_157 rfl ?_
                  refine c_lmul dX8_worth_159 ?_
                  refine c_ladd dX8_worth_160 ?_
                  refine z_lstore dX8_worth_161 (by decide) rfl ?_
                  refine c_iinc dX8_worth_163 rfl (by decide) rfl ?_
                  refine z_goto (tgt := 67) dX8_worth_166 (by decide) ?_
                  exact Z.fg2 (ih67 _ (by omega) _ _ _ rfl (by omega) (by rw [show (j + 1).toNat = j.toNat + 1 by omega, hst1]; omega) (by rw [show (j + 1).toNat = j.toNat + 1 by omega, hst2]; omega)) (zs1 rfl (zs1 rfl (zs1 rfl (zs1 rfl (zs1 rfl (zs1 rfl (zs1 rfl (zs1 rfl (zs1 rfl (zsn (zs1 rfl (zsn (zs1 rfl (zs1 rfl (zsn (zsn (zsn (zsn (zsn zs0)))))))))))))))))))
                refine c_lconst0 dX8_worth_114 ?_
                refine c_lif_eq (tgt := 138) dX8_worth_115 dX8_worth_116 (by decide) (by omega) (by omega) (fun h115 => ?_) (fun h115 => ?_)
                · have hle : (e.natAbs : Int) * (v.natAbs : Int) ≤ rm := by rw [h115, Int.mul_zero]; omega
                  exact Z.fg2 (L138  hle) (zs1 rfl (zs1 rfl (zs1 rfl (zs1 rfl (zs1 rfl (zs1 rfl (zs1 rfl (zs1 rfl (zs1 rfl (zsn (zs1 rfl (zsn (zs1 rfl (zs1 rfl (zs1 rfl (zsn (zs1 rfl (zs1 rfl (zsn zs0)))))))))))))))))))
                · refine z_iload dX8_worth_119 rfl ?_
                  refine z_calls (N := MJ9_abs_0f7a4) (nas := 1) (as := [_]) dX8_worth_121 w_388 w_386 w_387 w_12 (by decide +kernel) rfl rfl (Nat.le_of_ble_eq_true rfl) (by decide) (by decide) (ZC.mono (cMJ9_abs_0f7a4 (by omega)) ?_)
                  rintro _ _ ⟨rfl, rfl⟩
                  refine c_i2l dX8_worth_124 (by omega) ?_
                  refine z_lload dX8_worth_125 rfl ?_
                  refine z_lload dX8_worth_127 rfl ?_
                  have hde := Int.le_ediv_iff_mul_le (a := (e.natAbs : Int)) (b := rm) (c := (v.natAbs : Int)) (by omega)
                  rw [← Int.tdiv_eq_ediv_of_nonneg (show 0 ≤ rm by omega)] at hde
                  have hdr : rL (rm.tdiv (v.natAbs : Int)) := by have := tdiv_bd (a := rm) (b := (v.natAbs : Int)) (B := 9223372036854775807) (by omega) (by omega); omega
                  refine c_ldiv dX8_worth_129 (by omega) (by omega) (by omega) (by omega) ?_
                  refine c_lif_le (tgt := 138) dX8_worth_130 dX8_worth_131 (by decide) (by omega) hdr (fun h130 => ?_) (fun h130 => ?_)
                  · have hle : (e.natAbs : Int) * (v.natAbs : Int) ≤ rm := hde.mp h130
                    exact Z.fg2 (L138  hle) (zs1 rfl (zs1 rfl (zs1 rfl (zs1 rfl (zs1 rfl (zs1 rfl (zs1 rfl (zs1 rfl (zs1 rfl (zsn (zs1 rfl (zsn (zs1 rfl (zs1 rfl (zs1 rfl (zsn (zs1 rfl (zs1 rfl (zsn zs0)))))))))))))))))))
                  · refine c_ldc2 (z := -6) dX8_worth_134 w_389 (by decide) ?_
                    refine z_lreturn dX8_worth_137 rfl ?_
                    subst hQ0; unfold aWorth; rw [hst1] at hall
                    have hgt : ¬ (e.natAbs : Int) * (v.natAbs : Int) ≤ rm := fun z => h130 (hde.mpr z)
                    rw [cif_pos (by omega), if_neg (by omega)]
                    exact ⟨rfl, _, _, _, _, _, _, rfl, hWn, cs_refl, hcP⟩
          exact Z.fg2 (L67 _ 0 _ _ rfl (by omega) (by rw [show rsum (absF (eE A s)) (absF (xs4 x y z w)) i.toNat (0 : Int).toNat = 0 from rfl]; omega) (by rw [show rsum (eE A s) (xs4 x y z w) i.toNat (0 : Int).toNat = 0 from rfl]; omega)) (zs1 rfl (zs1 rfl (zs1 rfl (zs1 rfl (zs1 rfl (zs1 rfl (zs1 rfl (zs1 rfl (zs1 rfl (zsn (zs1 rfl (zsn (zs1 rfl (zs1 rfl (zsn (zsn (zsn (zsn (zsn zs0)))))))))))))))))))
    exact Z.fg2 (L54 _ 0 9223372036854775807 0 rfl (by omega) ⟨rfl, by decide, by decide⟩ rfl) (zs1 rfl (zs1 rfl (zs1 rfl (zs1 rfl (zs1 rfl (zs1 rfl (zs1 rfl (zs1 rfl (zs1 rfl (zsn (zs1 rfl (zsn (zs1 rfl (zsn (zsn (zsn (zsn (zsn (zsn zs0)))))))))))))))))))
end Cls8
