section Cls7
variable {g : ZG} {l : Launch} {Kd : ZK} {Rd : ZR} {n s0 c : Nat} {A J P : Nat → Nat → Int}
/-- one number of a sheet is set -/
theorem WD_cell {t i : Nat} {v : Int} (hW : WD A c Kd J Rd n s0) (ht : t < 4) (hi : i < 40) (hv : rI v) : WD (zup A 65 (40 * t + i) v) c Kd (zup J (19 + 2 * t) i v) Rd n s0 := by
  refine WD_sheets hW (fun a a1 a2 a3 => zup_ne a3) (fun a ha => zup_ne (by omega)) ?_ (okS_up (t := t) hW.2.2.2.1.2.2 hv)
  have h1 := hW.2.2.1.2.2.2.2.2.2 t ht
  refine SH_of ht hW.2.2.1.2.2.2.2.2.2 (fun q hq => ⟨zzr (by decide), zzr (by decide)⟩) (fun q hq => zzi (by omega)) (fun a a1 a2 => zup_ne a2) ⟨?_, ?_, fun k hk => ?_⟩
  · rw [zzr (by omega), zzr (by decide)]; exact h1.1
  · rw [zzr (by omega), zzr (by decide)]; exact h1.2.1
  · by_cases e : k = i
    · subst e; rw [zz, zz]
    · rw [zzi e, zzi (by omega)]; exact h1.2.2 k hk
theorem WD_num (hW : WD A c Kd J Rd n s0) {t i : Nat} (ht : t < 4) (hi : i < 40) : J (19 + 2 * t) i = A 65 (40 * t + i) ∧ rI (A 65 (40 * t + i)) := ⟨(hW.2.2.1.2.2.2.2.2.2 t ht).2.2 i hi, hW.2.2.2.1.2.2.2 _ (by omega)⟩
/-- numbers are copied -/
theorem WD_move {t u i j k : Nat} (hW : WD A c Kd J Rd n s0) (ht : t < 4) (hu : u < 4) (hi : i + k ≤ 40) (hj : j + k ≤ 40) : WD (jmove A (40 * t + i) (40 * u + j) k) c Kd (zupA J (19 + 2 * u) (va_cpy (J (19 + 2 * t)) (J (19 + 2 * u)) i j k)) Rd n s0 := by
  have ho := hW.2.2.2.1.2.2
  have e65 : ∀ q, jmove A (40 * t + i) (40 * u + j) k 65 q = if 40 * u + j ≤ q ∧ q < 40 * u + j + k then A 65 (40 * t + i + (q - (40 * u + j))) else A 65 q := fun q => by unfold jmove; exact ifc (by omega)
  have eo : ∀ a, a ≠ 65 → jmove A (40 * t + i) (40 * u + j) k a = A a := fun a ha => by funext q; unfold jmove; rw [if_neg (fun z => ha z.1)]
  have zn : ∀ a, a ≠ 19 + 2 * u → zupA J (19 + 2 * u) (va_cpy (J (19 + 2 * t)) (J (19 + 2 * u)) i j k) a = J a := fun a ha => by show (if a = 19 + 2 * u then _ else _) = _; rw [if_neg ha]
  have zy : zupA J (19 + 2 * u) (va_cpy (J (19 + 2 * t)) (J (19 + 2 * u)) i j k) (19 + 2 * u) = va_cpy (J (19 + 2 * t)) (J (19 + 2 * u)) i j k := by show (if 19 + 2 * u = 19 + 2 * u then _ else _) = _; rw [if_pos rfl]
  refine WD_sheets hW (fun a a1 a2 a3 => eo a a3) (fun a ha => zn a (by omega)) ?_ ⟨fun q hq => by rw [eo 63 (by decide), eo 64 (by decide)]; exact ho.1 q hq, fun q hq => by rw [e65]; split; exact ho.2 _ (by omega); exact ho.2 q hq⟩
  have h1 := hW.2.2.1.2.2.2.2.2.2 u hu
  refine SH_of hu hW.2.2.1.2.2.2.2.2.2 (fun q hq => ⟨by rw [eo 63 (by decide)], by rw [eo 64 (by decide)]⟩) (fun q hq => by rw [e65, if_neg (by omega)]) (fun a a1 a2 => zn a a2) ⟨?_, ?_, fun x hx => ?_⟩
  · rw [zn _ (by omega), eo 63 (by decide)]; exact h1.1
  · rw [zn _ (by omega), eo 64 (by decide)]; exact h1.2.1
  · rw [zy, e65]; unfold va_cpy
    by_cases e : j ≤ x ∧ x < j + k
    · rw [if_pos e, if_pos (by omega), (WD_num hW ht (by omega)).1]; congr 1; omega
    · rw [if_neg e, if_neg (by omega)]; exact h1.2.2 x hx
set_option maxHeartbeats 4000000 in
set_option maxRecDepth 100000 in
theorem cMX8_cell {sh i v : Int} (hsh : rI sh) (hi : rI i) (hv : rI v) (hW : WD A c Kd J Rd n s0) : ZC g l MX8_cell [.ref 4, .int (iZ sh), .int (iZ i), .int (iZ v)] (KF Kd, zi J, zj P, RF Rd, n, s0) (PW (aCell A sh i v).2 (c + 1) J P (.int (iZ (aCell A sh i v).1))) := by
  refine ZC.of (by decide) (Nat.le_of_ble_eq_true rfl) ?_
  generalize hQ0 : (PW (aCell A sh i v).2 (c + 1) J P (.int (iZ (aCell A sh i v).1)) : Option Value → ZH → Prop) = Q0
  show Z g l MX8_cell 0 [some (.ref 4), some (.int (iZ sh)), some (.int (iZ i)), some (.int (iZ v)), none] [] (KF Kd, zi J, zj P, RF Rd, n, s0) Q0
  refine z_iload_n dX8_cell_0 rfl rfl ?_
  refine z_calls (N := MX8_isSheet) (nas := 1) (as := [_]) dX8_cell_1 w_313 w_311 w_312 w_1 (by decide +kernel) rfl rfl (Nat.le_of_ble_eq_true rfl) (by decide) (by decide) (ZC.mono (cMX8_isSheet (by omega)) ?_)
  rintro _ _ ⟨b1, rfl, rfl, hb1⟩
  refine c_if_ne (tgt := 9) dX8_cell_4 (by decide) (by omega) (fun h4 => ?_) (fun h4 => ?_)
  · have g1 := (hb1.resolve_right (fun z => by have := z.1; omega)).2
    clear hb1
    have hsh := WD_sh hW (t := sh.toNat) (by omega)
    refine z_aload_n dX8_cell_9 rfl rfl ?_
    refine z_getR (ci := 8) (kf := 5) dX8_cell_10 rfl (by decide) (by decide) rfl w_187 rfl ?_
    refine z_iload_n dX8_cell_13 rfl rfl ?_
    refine c_aald dX8_cell_14 (Or.inr rfl) (by omega) (by decide) (sh_R (by omega)) ?_
    refine z_astore dX8_cell_15 (by decide) rfl ?_
    refine z_aload dX8_cell_17 rfl ?_
    refine z_callv (N := MX5_isMissing) (ci := 5) (nas := 0) (as := []) dX8_cell_19 w_317 w_314 w_315 w_316 w_3 (by decide +kernel) rfl rfl (sh_K1 (by omega)) (by decide) (Nat.le_of_ble_eq_true rfl) (by decide) (by decide) (ZC.mono (cMX5_isMissing (t := sh.toNat) (by omega) (by omega)) ?_)
    rintro _ _ ⟨b19, rfl, rfl, hb19⟩
    refine c_if_eq (tgt := 28) dX8_cell_22 (by decide) (by omega) (fun h22 => ?_) (fun h22 => ?_)
    · have g19 := (hb19.resolve_left (fun z => by have := z.1; omega)).2
      clear hb19
      refine z_aload dX8_cell_28 rfl ?_
      refine z_iload_n dX8_cell_30 rfl rfl ?_
      refine c_iconst dX8_cell_31 ?_
      refine z_callv (N := MX5_has) (ci := 5) (nas := 2) (as := [_, _]) dX8_cell_32 w_324 w_321 w_322 w_323 w_3 (by decide +kernel) rfl rfl (sh_K1 (by omega)) (by decide) (Nat.le_of_ble_eq_true rfl) (by decide) (by decide) (ZC.mono (cMX5_has (t := sh.toNat) (by omega) (by omega) (by omega) (by omega)) ?_)
      rintro _ _ ⟨b32, rfl, rfl, hb32⟩
      refine c_if_ne (tgt := 41) dX8_cell_35 (by decide) (by omega) (fun h35 => ?_) (fun h35 => ?_)
      · have g32 := (hb32.resolve_right (fun z => by have := z.1; omega)).2
        clear hb32
        refine z_aload dX8_cell_41 rfl ?_
        refine z_iload_n dX8_cell_43 rfl rfl ?_
        refine z_iload_n dX8_cell_44 rfl rfl ?_
        refine z_callv (N := MX5_put) (ci := 5) (nas := 2) (as := [_, _]) dX8_cell_45 w_337 w_334 w_335 w_336 w_3 (by decide +kernel) rfl rfl (sh_K1 (by omega)) (by decide) (Nat.le_of_ble_eq_true rfl) (by decide) (by decide) (ZC.mono (cMX5_put (t := sh.toNat) (by omega) (by omega) (by omega)) ?_)
        rintro _ _ ⟨rfl, rfl⟩
        refine c_iconst dX8_cell_48 ?_
        refine c_ireturn dX8_cell_49 rfl ?_
        subst hQ0; unfold aCell; rw [cif_pos (by omega), cif_neg (by omega), cif_pos (by omega), hsh.1, show (40 * sh + i).toNat = 40 * sh.toNat + i.toNat by omega]
        exact ⟨rfl, _, _, _, _, _, _, rfl, WD_mono (WD_cell hW (by omega) (by omega) (lowS_rI (by omega))), fun a a1 a2 => zup_ne (by omega), cs_refl⟩
      · have g32 := (hb32.resolve_left (fun z => by have := z.1; omega)).2
        clear hb32
        refine c_bipush dX8_cell_38 (by decide) ?_
        refine c_ireturn dX8_cell_40 rfl ?_
        subst hQ0; unfold aCell; rw [cif_pos (by omega), cif_neg (by omega), cif_neg (by omega)]; exact PW_id hW
    · have g19 := (hb19.resolve_right (fun z => by have := z.1; omega)).2
      clear hb19
      refine c_bipush dX8_cell_25 (by decide) ?_
      refine c_ireturn dX8_cell_27 rfl ?_
      subst hQ0; unfold aCell; rw [cif_pos (by omega), cif_pos (by omega)]; exact PW_id hW
  · have g1 := (hb1.resolve_left (fun z => by have := z.1; omega)).2
    clear hb1
    refine c_iconst dX8_cell_7 ?_
    refine c_ireturn dX8_cell_8 rfl ?_
    subst hQ0; unfold aCell; rw [cif_neg (by omega)]; exact PW_id hW
set_option maxHeartbeats 4000000 in
set_option maxRecDepth 100000 in
theorem cMX8_item {sh i : Int} (hsh : rI sh) (hi : rI i) (hW : WD A c Kd J Rd n s0) : ZC g l MX8_item [.ref 4, .int (iZ sh), .int (iZ i)] (KF Kd, zi J, zj P, RF Rd, n, s0) (PW A (c + 1) J P (.long (lZ (aItem A sh i)))) := by
  refine ZC.of (by decide) (Nat.le_of_ble_eq_true rfl) ?_
  generalize hQ0 : (PW A (c + 1) J P (.long (lZ (aItem A sh i))) : Option Value → ZH → Prop) = Q0
  show Z g l MX8_item 0 [some (.ref 4), some (.int (iZ sh)), some (.int (iZ i))] [] (KF Kd, zi J, zj P, RF Rd, n, s0) Q0
  refine z_iload_n dX8_item_0 rfl rfl ?_
  refine z_calls (N := MX8_isSheet) (nas := 1) (as := [_]) dX8_item_1 w_313 w_311 w_312 w_1 (by decide +kernel) rfl rfl (Nat.le_of_ble_eq_true rfl) (by decide) (by decide) (ZC.mono (cMX8_isSheet (by omega)) ?_)
  rintro _ _ ⟨b1, rfl, rfl, hb1⟩
  refine c_if_eq (tgt := 33) dX8_item_4 (by decide) (by omega) (fun h4 => ?_) (fun h4 => ?_)
  · have g1 := (hb1.resolve_left (fun z => by have := z.1; omega)).2
    clear hb1
    refine c_ldc2 (z := -9223372036854775808) dX8_item_33 w_740 (by decide) ?_
    refine z_lreturn dX8_item_36 rfl ?_
    subst hQ0; unfold aItem; rw [cif_neg (by omega)]; exact PW_id hW
  · have g1 := (hb1.resolve_right (fun z => by have := z.1; omega)).2
    clear hb1
    have hsh := WD_sh hW (t := sh.toNat) (by omega)
    refine z_aload_n dX8_item_7 rfl rfl ?_
    refine z_getR (ci := 8) (kf := 5) dX8_item_8 rfl (by decide) (by decide) rfl w_187 rfl ?_
    refine z_iload_n dX8_item_11 rfl rfl ?_
    refine c_aald dX8_item_12 (Or.inr rfl) (by omega) (by decide) (sh_R (by omega)) ?_
    refine z_callv (N := MX5_isMissing) (ci := 5) (nas := 0) (as := []) dX8_item_13 w_317 w_314 w_315 w_316 w_3 (by decide +kernel) rfl rfl (sh_K1 (by omega)) (by decide) (Nat.le_of_ble_eq_true rfl) (by decide) (by decide) (ZC.mono (cMX5_isMissing (t := sh.toNat) (by omega) (by omega)) ?_)
    rintro _ _ ⟨b13, rfl, rfl, hb13⟩
    refine c_if_ne (tgt := 33) dX8_item_16 (by decide) (by omega) (fun h16 => ?_) (fun h16 => ?_)
    · have g13 := (hb13.resolve_right (fun z => by have := z.1; omega)).2
      clear hb13
      refine c_ldc2 (z := -9223372036854775808) dX8_item_33 w_740 (by decide) ?_
      refine z_lreturn dX8_item_36 rfl ?_
      subst hQ0; unfold aItem; rw [cif_neg (by omega)]; exact PW_id hW
    · have g13 := (hb13.resolve_left (fun z => by have := z.1; omega)).2
      clear hb13
      refine z_aload_n dX8_item_19 rfl rfl ?_
      refine z_getR (ci := 8) (kf := 5) dX8_item_20 rfl (by decide) (by decide) rfl w_187 rfl ?_
      refine z_iload_n dX8_item_23 rfl rfl ?_
      refine c_aald dX8_item_24 (Or.inr rfl) (by omega) (by decide) (sh_R (by omega)) ?_
      refine z_iload_n dX8_item_25 rfl rfl ?_
      refine c_iconst dX8_item_26 ?_
      refine z_callv (N := MX5_has) (ci := 5) (nas := 2) (as := [_, _]) dX8_item_27 w_324 w_321 w_322 w_323 w_3 (by decide +kernel) rfl rfl (sh_K1 (by omega)) (by decide) (Nat.le_of_ble_eq_true rfl) (by decide) (by decide) (ZC.mono (cMX5_has (t := sh.toNat) (by omega) (by omega) (by omega) (by omega)) ?_)
      rintro _ _ ⟨b27, rfl, rfl, hb27⟩
      refine c_if_ne (tgt := 37) dX8_item_30 (by decide) (by omega) (fun h30 => ?_) (fun h30 => ?_)
      · have g27 := (hb27.resolve_right (fun z => by have := z.1; omega)).2
        clear hb27
        refine z_aload_n dX8_item_37 rfl rfl ?_
        refine z_getR (ci := 8) (kf := 5) dX8_item_38 rfl (by decide) (by decide) rfl w_187 rfl ?_
        refine z_iload_n dX8_item_41 rfl rfl ?_
        refine c_aald dX8_item_42 (Or.inr rfl) (by omega) (by decide) (sh_R (by omega)) ?_
        refine z_getR (ci := 5) (kf := 2) dX8_item_43 (sh_K1 (by omega)) (by decide) (by decide) rfl w_63 (sh_R2 (by omega)) ?_
        refine z_iload_n dX8_item_46 rfl rfl ?_
        refine c_iald dX8_item_47 (sh_K3 (by omega)) (by omega) (by decide) ?_
        rw [(WD_num hW (t := sh.toNat) (i := i.toNat) (by omega) (by omega)).1]
        have hnm := (WD_num hW (t := sh.toNat) (i := i.toNat) (by omega) (by omega)).2
        refine c_i2l dX8_item_48 (by omega) ?_
        refine z_lreturn dX8_item_49 rfl ?_
        subst hQ0; unfold aItem; rw [cif_pos (by omega), show (40 * sh + i).toNat = 40 * sh.toNat + i.toNat by omega]; exact PW_id hW
      · have g27 := (hb27.resolve_left (fun z => by have := z.1; omega)).2
        clear hb27
        refine c_ldc2 (z := -9223372036854775808) dX8_item_33 w_740 (by decide) ?_
        refine z_lreturn dX8_item_36 rfl ?_
        subst hQ0; unfold aItem; rw [cif_neg (by omega)]; exact PW_id hW
set_option maxHeartbeats 4000000 in
set_option maxRecDepth 100000 in
theorem cMX8_move {sh i u j k : Int} (hsh : rI sh) (hi : rI i) (hu : rI u) (hj : rI j) (hk : rI k) (hW : WD A c Kd J Rd n s0) : ZC g l MX8_move [.ref 4, .int (iZ sh), .int (iZ i), .int (iZ u), .int (iZ j), .int (iZ k)] (KF Kd, zi J, zj P, RF Rd, n, s0) (PW (aMove A sh i u j k).2 (c + 1) J P (.int (iZ (aMove A sh i u j k).1))) := by
  refine ZC.of (by decide) (Nat.le_of_ble_eq_true rfl) ?_
  generalize hQ0 : (PW (aMove A sh i u j k).2 (c + 1) J P (.int (iZ (aMove A sh i u j k).1)) : Option Value → ZH → Prop) = Q0
  show Z g l MX8_move 0 [some (.ref 4), some (.int (iZ sh)), some (.int (iZ i)), some (.int (iZ u)), some (.int (iZ j)), some (.int (iZ k)), none, none] [] (KF Kd, zi J, zj P, RF Rd, n, s0) Q0
  refine z_iload_n dX8_move_0 rfl rfl ?_
  refine z_calls (N := MX8_isSheet) (nas := 1) (as := [_]) dX8_move_1 w_313 w_311 w_312 w_1 (by decide +kernel) rfl rfl (Nat.le_of_ble_eq_true rfl) (by decide) (by decide) (ZC.mono (cMX8_isSheet (by omega)) ?_)
  rintro _ _ ⟨b1, rfl, rfl, hb1⟩
  refine c_if_eq (tgt := 14) dX8_move_4 (by decide) (by omega) (fun h4 => ?_) (fun h4 => ?_)
  · have g1 := (hb1.resolve_left (fun z => by have := z.1; omega)).2
    clear hb1
    refine c_iconst dX8_move_14 ?_
    refine c_ireturn dX8_move_15 rfl ?_
    subst hQ0; unfold aMove; rw [cif_neg (by omega)]; exact PW_id hW
  · have g1 := (hb1.resolve_right (fun z => by have := z.1; omega)).2
    clear hb1
    refine z_iload_n dX8_move_7 rfl rfl ?_
    refine z_calls (N := MX8_isSheet) (nas := 1) (as := [_]) dX8_move_8 w_313 w_311 w_312 w_1 (by decide +kernel) rfl rfl (Nat.le_of_ble_eq_true rfl) (by decide) (by decide) (ZC.mono (cMX8_isSheet (by omega)) ?_)
    rintro _ _ ⟨b8, rfl, rfl, hb8⟩
    refine c_if_ne (tgt := 16) dX8_move_11 (by decide) (by omega) (fun h11 => ?_) (fun h11 => ?_)
    · have g8 := (hb8.resolve_right (fun z => by have := z.1; omega)).2
      clear hb8
      have hsh := WD_sh hW (t := sh.toNat) (by omega)
      have hsu := WD_sh hW (t := u.toNat) (by omega)
      refine z_aload_n dX8_move_16 rfl rfl ?_
      refine z_getR (ci := 8) (kf := 5) dX8_move_17 rfl (by decide) (by decide) rfl w_187 rfl ?_
      refine z_iload_n dX8_move_20 rfl rfl ?_
      refine c_aald dX8_move_21 (Or.inr rfl) (by omega) (by decide) (sh_R (by omega)) ?_
      refine z_astore dX8_move_22 (by decide) rfl ?_
      refine z_aload_n dX8_move_24 rfl rfl ?_
      refine z_getR (ci := 8) (kf := 5) dX8_move_25 rfl (by decide) (by decide) rfl w_187 rfl ?_
      refine z_iload_n dX8_move_28 rfl rfl ?_
      refine c_aald dX8_move_29 (Or.inr rfl) (by omega) (by decide) (sh_R (by omega)) ?_
      refine z_astore dX8_move_30 (by decide) rfl ?_
      refine z_aload dX8_move_32 rfl ?_
      refine z_callv (N := MX5_isMissing) (ci := 5) (nas := 0) (as := []) dX8_move_34 w_317 w_314 w_315 w_316 w_3 (by decide +kernel) rfl rfl (sh_K1 (by omega)) (by decide) (Nat.le_of_ble_eq_true rfl) (by decide) (by decide) (ZC.mono (cMX5_isMissing (t := sh.toNat) (by omega) (by omega)) ?_)
      rintro _ _ ⟨b34, rfl, rfl, hb34⟩
      refine c_if_ne (tgt := 48) dX8_move_37 (by decide) (by omega) (fun h37 => ?_) (fun h37 => ?_)
      · have g34 := (hb34.resolve_right (fun z => by have := z.1; omega)).2
        clear hb34
        refine c_bipush dX8_move_48 (by decide) ?_
        refine c_ireturn dX8_move_50 rfl ?_
        subst hQ0; unfold aMove; rw [cif_pos (by omega), cif_pos (by omega)]; exact PW_id hW
      · have g34 := (hb34.resolve_left (fun z => by have := z.1; omega)).2
        clear hb34
        refine z_aload dX8_move_40 rfl ?_
        refine z_callv (N := MX5_isMissing) (ci := 5) (nas := 0) (as := []) dX8_move_42 w_317 w_314 w_315 w_316 w_3 (by decide +kernel) rfl rfl (sh_K1 (by omega)) (by decide) (Nat.le_of_ble_eq_true rfl) (by decide) (by decide) (ZC.mono (cMX5_isMissing (t := u.toNat) (by omega) (by omega)) ?_)
        rintro _ _ ⟨b42, rfl, rfl, hb42⟩
        refine c_if_eq (tgt := 51) dX8_move_45 (by decide) (by omega) (fun h45 => ?_) (fun h45 => ?_)
        · have g42 := (hb42.resolve_left (fun z => by have := z.1; omega)).2
          clear hb42
          refine z_aload dX8_move_51 rfl ?_
          refine c_getI (ci := 5) (kf := 0) dX8_move_53 (sh_K1 (by omega)) (by decide) (by decide) rfl w_60 ?_
          refine z_aload dX8_move_56 rfl ?_
          refine c_getI (ci := 5) (kf := 0) dX8_move_58 (sh_K1 (by omega)) (by decide) (by decide) rfl w_60 ?_
          refine c_icmp_eq (tgt := 67) dX8_move_61 (by decide) (by omega) (by omega) (fun h61 => ?_) (fun h61 => ?_)
          · refine z_aload dX8_move_67 rfl ?_
            refine z_iload_n dX8_move_69 rfl rfl ?_
            refine z_iload dX8_move_70 rfl ?_
            refine z_callv (N := MX5_has) (ci := 5) (nas := 2) (as := [_, _]) dX8_move_72 w_324 w_321 w_322 w_323 w_3 (by decide +kernel) rfl rfl (sh_K1 (by omega)) (by decide) (Nat.le_of_ble_eq_true rfl) (by decide) (by decide) (ZC.mono (cMX5_has (t := sh.toNat) (by omega) (by omega) (by omega) (by omega)) ?_)
            rintro _ _ ⟨b72, rfl, rfl, hb72⟩
            refine c_if_eq (tgt := 90) dX8_move_75 (by decide) (by omega) (fun h75 => ?_) (fun h75 => ?_)
            · have g72 := (hb72.resolve_left (fun z => by have := z.1; omega)).2
              clear hb72
              refine c_bipush dX8_move_90 (by decide) ?_
              refine c_ireturn dX8_move_92 rfl ?_
              subst hQ0; unfold aMove; rw [cif_pos (by omega), cif_neg (by omega), cif_pos (by omega), cif_neg (by omega)]; exact PW_id hW
            · have g72 := (hb72.resolve_right (fun z => by have := z.1; omega)).2
              clear hb72
              refine z_aload dX8_move_78 rfl ?_
              refine z_iload dX8_move_80 rfl ?_
              refine z_iload dX8_move_82 rfl ?_
              refine z_callv (N := MX5_has) (ci := 5) (nas := 2) (as := [_, _]) dX8_move_84 w_324 w_321 w_322 w_323 w_3 (by decide +kernel) rfl rfl (sh_K1 (by omega)) (by decide) (Nat.le_of_ble_eq_true rfl) (by decide) (by decide) (ZC.mono (cMX5_has (t := u.toNat) (by omega) (by omega) (by omega) (by omega)) ?_)
              rintro _ _ ⟨b84, rfl, rfl, hb84⟩
              refine c_if_ne (tgt := 93) dX8_move_87 (by decide) (by omega) (fun h87 => ?_) (fun h87 => ?_)
              · have g84 := (hb84.resolve_right (fun z => by have := z.1; omega)).2
                clear hb84
                refine z_aload dX8_move_93 rfl ?_
                refine z_getR (ci := 5) (kf := 2) dX8_move_95 (sh_K1 (by omega)) (by decide) (by decide) rfl w_63 (sh_R2 (by omega)) ?_
                refine z_iload_n dX8_move_98 rfl rfl ?_
                refine z_aload dX8_move_99 rfl ?_
                refine z_getR (ci := 5) (kf := 2) dX8_move_101 (sh_K1 (by omega)) (by decide) (by decide) rfl w_63 (sh_R2 (by omega)) ?_
                refine z_iload dX8_move_104 rfl ?_
                refine z_iload dX8_move_106 rfl ?_
                refine c_copyi dX8_move_108 w_745 w_355 w_354 w_11 (sh_K3 (by omega)) (sh_K3 (by omega)) (by omega) (by omega) (by omega) (by decide) (by decide) (by decide) (Nat.le_of_ble_eq_true rfl) ?_
                refine z_iload dX8_move_111 rfl ?_
                refine c_ireturn dX8_move_113 rfl ?_
                subst hQ0; unfold aMove; rw [cif_pos (by omega), cif_neg (by omega), cif_pos (by omega), cif_pos (by omega), show (40 * sh + i).toNat = 40 * sh.toNat + i.toNat by omega, show (40 * u + j).toNat = 40 * u.toNat + j.toNat by omega]
                exact ⟨rfl, _, _, _, _, _, _, rfl, WD_mono (WD_move hW (by omega) (by omega) (by omega) (by omega)), fun a a1 a2 => by show (if a = 19 + 2 * u.toNat then _ else _) = _; rw [if_neg (by omega)], cs_refl⟩
              · have g84 := (hb84.resolve_left (fun z => by have := z.1; omega)).2
                clear hb84
                refine c_bipush dX8_move_90 (by decide) ?_
                refine c_ireturn dX8_move_92 rfl ?_
                subst hQ0; unfold aMove; rw [cif_pos (by omega), cif_neg (by omega), cif_pos (by omega), cif_neg (by omega)]; exact PW_id hW
          · refine c_bipush dX8_move_64 (by decide) ?_
            refine c_ireturn dX8_move_66 rfl ?_
            subst hQ0; unfold aMove; rw [cif_pos (by omega), cif_neg (by omega), cif_neg (by omega)]; exact PW_id hW
        · have g42 := (hb42.resolve_right (fun z => by have := z.1; omega)).2
          clear hb42
          refine c_bipush dX8_move_48 (by decide) ?_
          refine c_ireturn dX8_move_50 rfl ?_
          subst hQ0; unfold aMove; rw [cif_pos (by omega), cif_pos (by omega)]; exact PW_id hW
    · have g8 := (hb8.resolve_left (fun z => by have := z.1; omega)).2
      clear hb8
      refine c_iconst dX8_move_14 ?_
      refine c_ireturn dX8_move_15 rfl ?_
      subst hQ0; unfold aMove; rw [cif_neg (by omega)]; exact PW_id hW
set_option maxHeartbeats 4000000 in
set_option maxRecDepth 100000 in
theorem cMX8_form {s sh f k : Int} (hs : rI s) (hsh : rI sh) (hf : rI f) (hk : rI k) (hW : WD A c Kd J Rd n s0) : ZC g l MX8_form [.ref 4, .int (iZ s), .int (iZ sh), .int (iZ f), .int (iZ k)] (KF Kd, zi J, zj P, RF Rd, n, s0) (PW (aForm A s sh f k).2 (c + 1) J P (.int (iZ (aForm A s sh f k).1))) := by
  refine ZC.of (by decide) (Nat.le_of_ble_eq_true rfl) ?_
  generalize hQ0 : (PW (aForm A s sh f k).2 (c + 1) J P (.int (iZ (aForm A s sh f k).1)) : Option Value → ZH → Prop) = Q0
  show Z g l MX8_form 0 [some (.ref 4), some (.int (iZ s)), some (.int (iZ sh)), some (.int (iZ f)), some (.int (iZ k)), none, none, none, none] [] (KF Kd, zi J, zj P, RF Rd, n, s0) Q0
  refine z_iload_n dX8_form_0 rfl rfl ?_
  refine z_calls (N := MX8_isSlot) (nas := 1) (as := [_]) dX8_form_1 w_219 w_217 w_218 w_1 (by decide +kernel) rfl rfl (Nat.le_of_ble_eq_true rfl) (by decide) (by decide) (ZC.mono (cMX8_isSlot (by omega)) ?_)
  rintro _ _ ⟨b1, rfl, rfl, hb1⟩
  refine c_if_eq (tgt := 26) dX8_form_4 (by decide) (by omega) (fun h4 => ?_) (fun h4 => ?_)
  · have g1 := (hb1.resolve_left (fun z => by have := z.1; omega)).2
    clear hb1
    refine c_iconst dX8_form_26 ?_
    refine c_ireturn dX8_form_27 rfl ?_
    subst hQ0; unfold aForm; rw [cif_neg (by omega)]; exact PW_id hW
  · have g1 := (hb1.resolve_right (fun z => by have := z.1; omega)).2
    clear hb1
    refine z_iload_n dX8_form_7 rfl rfl ?_
    refine z_calls (N := MX8_isSheet) (nas := 1) (as := [_]) dX8_form_8 w_313 w_311 w_312 w_1 (by decide +kernel) rfl rfl (Nat.le_of_ble_eq_true rfl) (by decide) (by decide) (ZC.mono (cMX8_isSheet (by omega)) ?_)
    rintro _ _ ⟨b8, rfl, rfl, hb8⟩
    refine c_if_eq (tgt := 26) dX8_form_11 (by decide) (by omega) (fun h11 => ?_) (fun h11 => ?_)
    · have g8 := (hb8.resolve_left (fun z => by have := z.1; omega)).2
      clear hb8
      refine c_iconst dX8_form_26 ?_
      refine c_ireturn dX8_form_27 rfl ?_
      subst hQ0; unfold aForm; rw [cif_neg (by omega)]; exact PW_id hW
    · have g8 := (hb8.resolve_right (fun z => by have := z.1; omega)).2
      clear hb8
      refine z_iload dX8_form_14 rfl ?_
      refine c_iconst dX8_form_16 ?_
      refine c_icmp_lt (tgt := 26) dX8_form_17 (by decide) (by omega) (by omega) (fun h17 => ?_) (fun h17 => ?_)
      · refine c_iconst dX8_form_26 ?_
        refine c_ireturn dX8_form_27 rfl ?_
        subst hQ0; unfold aForm; rw [cif_neg (by omega)]; exact PW_id hW
      · refine z_iload dX8_form_20 rfl ?_
        refine c_iconst dX8_form_22 ?_
        refine c_icmp_le (tgt := 28) dX8_form_23 (by decide) (by omega) (by omega) (fun h23 => ?_) (fun h23 => ?_)
        · have hsh := WD_sh hW (t := sh.toNat) (by omega)
          have htk := tr_bd (i := k)
          refine z_aload_n dX8_form_28 rfl rfl ?_
          refine z_getR (ci := 8) (kf := 5) dX8_form_29 rfl (by decide) (by decide) rfl w_187 rfl ?_
          refine z_iload_n dX8_form_32 rfl rfl ?_
          refine c_aald dX8_form_33 (Or.inr rfl) (by omega) (by decide) (sh_R (by omega)) ?_
          refine z_astore dX8_form_34 (by decide) rfl ?_
          refine z_aload dX8_form_36 rfl ?_
          refine z_callv (N := MX5_isMissing) (ci := 5) (nas := 0) (as := []) dX8_form_38 w_317 w_314 w_315 w_316 w_3 (by decide +kernel) rfl rfl (sh_K1 (by omega)) (by decide) (Nat.le_of_ble_eq_true rfl) (by decide) (by decide) (ZC.mono (cMX5_isMissing (t := sh.toNat) (by omega) (by omega)) ?_)
          rintro _ _ ⟨b38, rfl, rfl, hb38⟩
          refine c_if_eq (tgt := 47) dX8_form_41 (by decide) (by omega) (fun h41 => ?_) (fun h41 => ?_)
          · have g38 := (hb38.resolve_left (fun z => by have := z.1; omega)).2
            clear hb38
            refine z_aload dX8_form_47 rfl ?_
            refine z_iload_n dX8_form_49 rfl rfl ?_
            refine z_iload dX8_form_50 rfl ?_
            refine z_calls (N := MX8_triangle) (nas := 1) (as := [_]) dX8_form_52 w_320 w_318 w_319 w_1 (by decide +kernel) rfl rfl (Nat.le_of_ble_eq_true rfl) (by decide) (by decide) (ZC.mono (cMX8_triangle (by omega)) ?_)
            rintro _ _ ⟨rfl, rfl⟩
            refine z_callv (N := MX5_has) (ci := 5) (nas := 2) (as := [_, _]) dX8_form_55 w_324 w_321 w_322 w_323 w_3 (by decide +kernel) rfl rfl (sh_K1 (by omega)) (by decide) (Nat.le_of_ble_eq_true rfl) (by decide) (by decide) (ZC.mono (cMX5_has (t := sh.toNat) (by omega) (by omega) (by omega) (by omega)) ?_)
            rintro _ _ ⟨b55, rfl, rfl, hb55⟩
            refine c_if_ne (tgt := 64) dX8_form_58 (by decide) (by omega) (fun h58 => ?_) (fun h58 => ?_)
            · have g55 := (hb55.resolve_right (fun z => by have := z.1; omega)).2
              clear hb55
              refine z_aload_n dX8_form_64 rfl rfl ?_
              refine z_getR (ci := 8) (kf := 6) dX8_form_65 rfl (by decide) (by decide) rfl w_188 rfl ?_
              refine z_iload dX8_form_68 rfl ?_
              refine z_callv (N := MX1_begin) (ci := 1) (nas := 1) (as := [_]) dX8_form_70 w_223 w_220 w_221 w_222 w_4 (by decide +kernel) rfl rfl rfl (by decide) (Nat.le_of_ble_eq_true rfl) (by decide) (by decide) (ZC.mono (cMX1_begin) ?_)
              rintro _ _ ⟨rfl, rfl⟩
              refine z_iload_n dX8_form_73 rfl rfl ?_
              refine z_istore dX8_form_74 (by decide) rfl ?_
              refine c_iconst dX8_form_76 ?_
              refine z_istore dX8_form_77 (by decide) rfl ?_
              have L79 : ∀ (m79 : Nat), ∀ (i p : Int) (J1 : Nat → Nat → Int), (k - i).toNat = m79 → (0 ≤ i ∧ i ≤ k) → (p = f + tr i) → (J1 = dput J k (formK (fun x => A 65 ((40 * sh + f).toNat + x)) i 0)) → Z g l MX8_form 79 [some (.ref 4), some (.int (iZ s)), some (.int (iZ sh)), some (.int (iZ f)), some (.int (iZ k)), some (.ref (18 + 2 * sh.toNat)), some (.int (iZ p)), some (.int (iZ i)), none] [] (KF Kd, zi J1, zj P, RF Rd, n, s0) Q0 := by
                intro m79
                induction m79 using Nat.strongRecOn with
                | ind m79 ih79 =>
                  intro i p J1 hm79 hi hp hJ
                  refine z_iload dX8_form_79 rfl ?_
                  refine z_iload dX8_form_81 rfl ?_
                  refine c_icmp_ge (tgt := 130) dX8_form_83 (by decide) (by omega) (by omega) (fun h83 => ?_) (fun h83 => ?_)
                  · subst hJ
                    rw [show dput J k (formK (fun x => A 65 ((40 * sh + f).toNat + x)) i 0) = dput J k (formE (fun x => A 65 ((40 * sh + f).toNat + x)) k.toNat) from dput_ext (fun q hq => by rw [formK_end (by omega) q hq, show i = k by omega])]
                    have hRg : ∀ q, q < 16 → rI ((formE (fun x => A 65 ((40 * sh + f).toNat + x)) k.toNat) q) := fun q hq => by
                      have e : ∀ x : Nat, (x : Int) < tr k → rI ((fun x => A 65 ((40 * sh + f).toNat + x)) x) := fun x hx => by
                        have := (WD_num hW (t := sh.toNat) (i := f.toNat + x) (by omega) (by omega)).2
                        rw [show 40 * sh.toNat + (f.toNat + x) = (40 * sh + f).toNat + x by omega] at this
                        exact this
                      unfold formE
                      split
                      · rename_i hc
                        split
                        · have := tr_le (i := (q / 4 : Nat)) (k := k) (by omega)
                          have h0 := tr_bd (i := (q / 4 : Nat))
                          exact e _ (by omega)
                        · have := tr_le (i := (q % 4 : Nat)) (k := k) (by omega)
                          have h0 := tr_bd (i := (q % 4 : Nat))
                          exact e _ (by omega)
                      · omega
                    refine z_aload_n dX8_form_130 rfl rfl ?_
                    refine z_getR (ci := 8) (kf := 6) dX8_form_131 rfl (by decide) (by decide) rfl w_188 rfl ?_
                    refine z_callv (N := MX1_isInRange) (ci := 1) (nas := 0) (as := []) dX8_form_134 w_242 w_325 w_240 w_241 w_4 (by decide +kernel) rfl rfl rfl (by decide) (Nat.le_of_ble_eq_true rfl) (by decide) (by decide) (ZC.mono (cMX1_isInRange hRg) ?_)
                    rintro _ _ ⟨b134, rfl, rfl, hb134⟩
                    refine c_if_ne (tgt := 142) dX8_form_137 (by decide) (by omega) (fun h137 => ?_) (fun h137 => ?_)
                    · have g134 := (hb134.resolve_right (fun z => by have := z.1; omega)).2
                      clear hb134
                      refine z_aload_n dX8_form_142 rfl rfl ?_
                      refine z_iload_n dX8_form_143 rfl rfl ?_
                      refine z_callv (N := MX8_storeDraft) (ci := 8) (nas := 1) (as := [_]) dX8_form_144 w_234 w_231 w_233 ws_0 w_1 (by decide +kernel) rfl rfl rfl (by decide) (Nat.le_of_ble_eq_true rfl) (by decide) (by decide) (ZC.mono (cMX8_storeDraft (nl := k) (E := (formE (fun x => A 65 ((40 * sh + f).toNat + x)) k.toNat)) (by omega) (by omega) (entS_rng g134) formE_sym (formE_zero (by omega)) hW) ?_)
                      rintro _ _ ⟨Kd144, J144, P144, Rd144, n144, s144, rfl, ⟨b144, rfl, hst144⟩, hcJ144, hcP144, hold144⟩
                      refine c_if_eq (tgt := 155) dX8_form_147 (by decide) (by omega) (fun h147 => ?_) (fun h147 => ?_)
                      · refine c_bipush dX8_form_155 (by decide) ?_
                        refine c_ireturn dX8_form_157 rfl ?_
                        subst hQ0; unfold aForm; rw [cif_pos (by omega), cif_neg (by omega), cif_pos (by omega), cif_pos (fun x hx => by have e := formE_tri (N := (fun x => A 65 ((40 * sh + f).toNat + x))) (k := k) (by omega) hx; have h9 := g134 _ e.1; rw [e.2] at h9; exact h9)]; unfold aComes
                        rcases hst144 with ⟨z0, z1, z2, z3⟩ | ⟨z0, z1, z2⟩
                        · rw [cif_pos z1]; first | (exfalso; omega) | exact ⟨rfl, _, _, _, _, _, _, rfl, WD_dput z2, cs_dput hcJ144, hcP144⟩
                        · rw [cif_neg z1]; first | (exfalso; omega) | exact ⟨rfl, _, _, _, _, _, _, rfl, WD_dput z2, cs_dput hcJ144, hcP144⟩
                      · refine z_iload dX8_form_150 rfl ?_
                        refine z_goto (tgt := 157) dX8_form_152 (by decide) ?_
                        refine c_ireturn dX8_form_157 rfl ?_
                        subst hQ0; unfold aForm; rw [cif_pos (by omega), cif_neg (by omega), cif_pos (by omega), cif_pos (fun x hx => by have e := formE_tri (N := (fun x => A 65 ((40 * sh + f).toNat + x))) (k := k) (by omega) hx; have h9 := g134 _ e.1; rw [e.2] at h9; exact h9)]; unfold aComes
                        rcases hst144 with ⟨z0, z1, z2, z3⟩ | ⟨z0, z1, z2⟩
                        · rw [cif_pos z1]; first | (exfalso; omega) | exact ⟨rfl, _, _, _, _, _, _, rfl, WD_dput z2, cs_dput hcJ144, hcP144⟩
                        · rw [cif_neg z1]; first | (exfalso; omega) | exact ⟨rfl, _, _, _, _, _, _, rfl, WD_dput z2, cs_dput hcJ144, hcP144⟩
                    · have g134 := (hb134.resolve_left (fun z => by have := z.1; omega)).2
                      clear hb134
                      refine c_iconst dX8_form_140 ?_
                      refine c_ireturn dX8_form_141 rfl ?_
                      subst hQ0; unfold aForm; rw [cif_pos (by omega), cif_neg (by omega), cif_pos (by omega), cif_neg (fun z => g134 (formE_ent (by omega) z))]
                      exact ⟨rfl, _, _, _, _, _, _, rfl, WD_dput (WD_mono hW), cs_dput cs_refl, cs_refl⟩
                  · refine c_iconst dX8_form_86 ?_
                    refine z_istore dX8_form_87 (by decide) rfl ?_
                    have L89 : ∀ (m89 : Nat), ∀ (j p : Int) (J1 : Nat → Nat → Int), (i + 1 - j).toNat = m89 → (0 ≤ j ∧ j ≤ i + 1) → (p = f + tr i + j) → (J1 = dput J k (formK (fun x => A 65 ((40 * sh + f).toNat + x)) i j)) → Z g l MX8_form 89 [some (.ref 4), some (.int (iZ s)), some (.int (iZ sh)), some (.int (iZ f)), some (.int (iZ k)), some (.ref (18 + 2 * sh.toNat)), some (.int (iZ p)), some (.int (iZ i)), some (.int (iZ j))] [] (KF Kd, zi J1, zj P, RF Rd, n, s0) Q0 := by
                      intro m89
                      induction m89 using Nat.strongRecOn with
                      | ind m89 ih89 =>
                        intro j p J1 hm89 hj hp hJ
                        refine z_iload dX8_form_89 rfl ?_
                        refine z_iload dX8_form_91 rfl ?_
                        refine c_icmp_gt (tgt := 124) dX8_form_93 (by decide) (by omega) (by omega) (fun h93 => ?_) (fun h93 => ?_)
                        · refine c_iinc dX8_form_124 rfl (by decide) rfl ?_
                          refine z_goto (tgt := 79) dX8_form_127 (by decide) ?_
                          exact Z.fg2 (ih79 _ (by omega) _ _ _ rfl (by omega) (by rw [tr_succ (by omega)]; omega) (by rw [hJ, show j = i + 1 by omega, formK_row])) (zs1 rfl (zs1 rfl (zs1 rfl (zs1 rfl (zs1 rfl (zs1 rfl (zs1 rfl (zs1 rfl (zsn zs0)))))))))
                        · have htl := tr_le (i := i) (k := k) (by omega)
                          have hti := tr_bd (i := i)
                          refine z_aload_n dX8_form_96 rfl rfl ?_
                          refine z_getR (ci := 8) (kf := 6) dX8_form_97 rfl (by decide) (by decide) rfl w_188 rfl ?_
                          refine z_iload dX8_form_100 rfl ?_
                          refine z_iload dX8_form_102 rfl ?_
                          refine z_aload dX8_form_104 rfl ?_
                          refine z_getR (ci := 5) (kf := 2) dX8_form_106 (sh_K1 (by omega)) (by decide) (by decide) rfl w_63 (sh_R2 (by omega)) ?_
                          refine z_iload dX8_form_109 rfl ?_
                          refine c_iald dX8_form_111 (sh_K3 (by omega)) (by omega) (by decide) ?_
                          rw [show J1 (19 + 2 * sh.toNat) p.toNat = (fun x => A 65 ((40 * sh + f).toNat + x)) (tr i + j).toNat by
                            rw [hJ, dput_off (by omega) (by omega), (WD_num hW (t := sh.toNat) (i := p.toNat) (by omega) (by omega)).1]; dsimp only; congr 1; omega]
                          subst hJ
                          refine z_callv (N := MX1_set) (ci := 1) (nas := 3) (as := [_, _, _]) dX8_form_112 w_230 w_227 w_228 w_229 w_4 (by decide +kernel) rfl rfl rfl (by decide) (Nat.le_of_ble_eq_true rfl) (by decide) (by decide) (ZC.mono (cMX1_set (by omega) (by omega)) ?_)
                          rintro _ _ ⟨rfl, rfl⟩
                          refine c_iinc dX8_form_115 rfl (by decide) rfl ?_
                          refine c_iinc dX8_form_118 rfl (by decide) rfl ?_
                          refine z_goto (tgt := 89) dX8_form_121 (by decide) ?_
                          exact Z.fg2 (ih89 _ (by omega) _ _ _ rfl (by omega) (by omega) (dput_ext (formK_step (by omega)))) (zs1 rfl (zs1 rfl (zs1 rfl (zs1 rfl (zs1 rfl (zs1 rfl (zs1 rfl (zs1 rfl (zs1 rfl zs0)))))))))
                    exact Z.fg2 (L89 _ 0 _ _ rfl (by omega) (by omega) hJ) (zs1 rfl (zs1 rfl (zs1 rfl (zs1 rfl (zs1 rfl (zs1 rfl (zs1 rfl (zs1 rfl (zs1 rfl zs0)))))))))
              exact Z.fg2 (L79 _ 0 _ _ rfl (by omega) (by rw [show tr 0 = 0 from rfl]; omega) (dput_ext (fun q hq => by unfold formK; rw [if_neg (by omega)]))) (zs1 rfl (zs1 rfl (zs1 rfl (zs1 rfl (zs1 rfl (zs1 rfl (zs1 rfl (zs1 rfl (zsn zs0)))))))))
            · have g55 := (hb55.resolve_left (fun z => by have := z.1; omega)).2
              clear hb55
              refine c_bipush dX8_form_61 (by decide) ?_
              refine c_ireturn dX8_form_63 rfl ?_
              subst hQ0; unfold aForm; rw [cif_pos (by omega), cif_neg (by omega), cif_neg (by omega)]; exact PW_id hW
          · have g38 := (hb38.resolve_right (fun z => by have := z.1; omega)).2
            clear hb38
            refine c_bipush dX8_form_44 (by decide) ?_
            refine c_ireturn dX8_form_46 rfl ?_
            subst hQ0; unfold aForm; rw [cif_pos (by omega), cif_pos (by omega)]; exact PW_id hW
        · refine c_iconst dX8_form_26 ?_
          refine c_ireturn dX8_form_27 rfl ?_
          subst hQ0; unfold aForm; rw [cif_neg (by omega)]; exact PW_id hW
end Cls7
