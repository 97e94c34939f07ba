section Cls5
variable {g : ZG} {l : Launch} {Kd : ZK} {Rd : ZR} {n s0 c : Nat} {A J P : Nat → Nat → Int}
theorem mostS_cg {E F : Nat → Int} (h : ∀ k, k < 16 → E k = F k) : ∀ k, k ≤ 4 → mostS E k = mostS F k
  | 0, _ => rfl
  | k + 1, hk => by unfold mostS; rw [mostS_cg h k (by omega), h (5 * k) (by omega)]
set_option maxHeartbeats 4000000 in
set_option maxRecDepth 100000 in
theorem cMX8_single {s a : Int} (hs : rI s) (ha : rI a) (hW : WD A c Kd J Rd n s0) : ZC g l MX8_single [.ref 4, .int (iZ s), .int (iZ a)] (KF Kd, zi J, zj P, RF Rd, n, s0) (PW (aSingle A s a).2 (c + 1) J P (.int (iZ (aSingle A s a).1))) := by
  refine ZC.of (by decide) (Nat.le_of_ble_eq_true rfl) ?_
  generalize hQ0 : (PW (aSingle A s a).2 (c + 1) J P (.int (iZ (aSingle A s a).1)) : Option Value → ZH → Prop) = Q0
  show Z g l MX8_single 0 [some (.ref 4), some (.int (iZ s)), some (.int (iZ a))] [] (KF Kd, zi J, zj P, RF Rd, n, s0) Q0
  refine z_iload_n dX8_single_0 rfl rfl ?_
  refine z_calls (N := MX8_isSlot) (nas := 1) (as := [_]) dX8_single_1 w_219 w_217 w_218 w_1 (by decide +kernel) rfl rfl (Nat.le_of_ble_eq_true rfl) (by decide) (by decide) (ZC.mono (cMX8_isSlot (by omega)) ?_)
  rintro _ _ ⟨b1, rfl, rfl, hb1⟩
  refine c_if_eq (tgt := 18) dX8_single_4 (by decide) (by omega) (fun h4 => ?_) (fun h4 => ?_)
  · have g1 := (hb1.resolve_left (fun z => by have := z.1; omega)).2
    clear hb1
    refine c_iconst dX8_single_18 ?_
    refine c_ireturn dX8_single_19 rfl ?_
    subst hQ0; unfold aSingle; rw [cif_neg (by omega)]; exact PW_id hW
  · have g1 := (hb1.resolve_right (fun z => by have := z.1; omega)).2
    clear hb1
    refine z_iload_n dX8_single_7 rfl rfl ?_
    refine c_iconst dX8_single_8 ?_
    refine c_icmp_lt (tgt := 18) dX8_single_9 (by decide) (by omega) (by omega) (fun h9 => ?_) (fun h9 => ?_)
    · refine c_iconst dX8_single_18 ?_
      refine c_ireturn dX8_single_19 rfl ?_
      subst hQ0; unfold aSingle; rw [cif_neg (by omega)]; exact PW_id hW
    · refine z_iload_n dX8_single_12 rfl rfl ?_
      refine c_bipush dX8_single_13 (by decide) ?_
      refine c_icmp_le (tgt := 20) dX8_single_15 (by decide) (by omega) (by omega) (fun h15 => ?_) (fun h15 => ?_)
      · refine z_aload_n dX8_single_20 rfl rfl ?_
        refine z_getR (ci := 8) (kf := 6) dX8_single_21 rfl (by decide) (by decide) rfl w_188 rfl ?_
        refine c_iconst dX8_single_24 ?_
        refine z_callv (N := MX1_begin) (ci := 1) (nas := 1) (as := [_]) dX8_single_25 w_223 w_220 w_221 w_222 w_4 (by decide +kernel) rfl rfl rfl (by decide) (Nat.le_of_ble_eq_true rfl) (by decide) (by decide) (ZC.mono (cMX1_begin) ?_)
        rintro _ _ ⟨rfl, rfl⟩
        
        refine z_aload_n dX8_single_28 rfl rfl ?_
        refine z_getR (ci := 8) (kf := 6) dX8_single_29 rfl (by decide) (by decide) rfl w_188 rfl ?_
        refine c_iconst dX8_single_32 ?_
        refine c_iconst dX8_single_33 ?_
        refine z_iload_n dX8_single_34 rfl rfl ?_
        refine z_callv (N := MX1_set) (ci := 1) (nas := 3) (as := [_, _, _]) dX8_single_35 w_230 w_227 w_228 w_229 w_4 (by decide +kernel) rfl rfl rfl (by decide) (Nat.le_of_ble_eq_true rfl) (by decide) (by decide) (ZC.mono (cMX1_set (by omega) (by omega)) ?_)
        rintro _ _ ⟨rfl, rfl⟩
        rw [show dput J 1 (setE (fun _ => 0) (0 : Int).toNat (0 : Int).toNat a) = dput J 1 (fun k => if k = 0 then a else 0) from dput_ext (fun k _ => by show (if k = 0 then a else if k = 0 then a else 0) = if k = 0 then a else 0; by_cases e : k = 0 <;> simp [e])]
        have hso := single_ok (a := a) (by omega)
        refine z_aload_n dX8_single_38 rfl rfl ?_
        refine z_iload_n dX8_single_39 rfl rfl ?_
        refine z_callv (N := MX8_storeDraft) (ci := 8) (nas := 1) (as := [_]) dX8_single_40 w_234 w_231 w_233 ws_0 w_1 (by decide +kernel) rfl rfl rfl (by decide) (Nat.le_of_ble_eq_true rfl) (by decide) (by decide) (ZC.mono (cMX8_storeDraft (nl := 1) (E := (fun k => if k = 0 then a else 0)) (by omega) (by omega) (entS_rng hso.1.2.1.1) hso.1.2.2.1 hso.1.2.2.2 hW) ?_)
        rintro _ _ ⟨Kd40, J40, P40, Rd40, n40, s40, rfl, ⟨b40, rfl, hst40⟩, hcJ40, hcP40, hold40⟩
        refine c_if_eq (tgt := 56) dX8_single_43 (by decide) (by omega) (fun h43 => ?_) (fun h43 => ?_)
        · refine c_bipush dX8_single_56 (by decide) ?_
          refine c_ireturn dX8_single_58 rfl ?_
          subst hQ0; unfold aSingle; rw [cif_pos (by omega)]
          rcases hst40 with ⟨z0, z1, z2, z3⟩ | ⟨z0, z1, z2⟩
          · first | (exfalso; omega) | exact ⟨by rw [dput_26 (by decide), z3, hso.2], _, _, _, _, _, _, rfl, WD_dput z2, cs_dput hcJ40, hcP40⟩
          · exact absurd hso.1.2.1 z1
        · refine z_aload_n dX8_single_46 rfl rfl ?_
          refine z_getR (ci := 8) (kf := 6) dX8_single_47 rfl (by decide) (by decide) rfl w_188 rfl ?_
          refine c_getI (ci := 1) (kf := 2) dX8_single_50 rfl (by decide) (by decide) rfl w_85 ?_
          refine z_goto (tgt := 58) dX8_single_53 (by decide) ?_
          refine c_ireturn dX8_single_58 rfl ?_
          subst hQ0; unfold aSingle; rw [cif_pos (by omega)]
          rcases hst40 with ⟨z0, z1, z2, z3⟩ | ⟨z0, z1, z2⟩
          · first | (exfalso; omega) | exact ⟨by rw [dput_26 (by decide), z3, hso.2], _, _, _, _, _, _, rfl, WD_dput z2, cs_dput hcJ40, hcP40⟩
          · exact absurd hso.1.2.1 z1
      · refine c_iconst dX8_single_18 ?_
        refine c_ireturn dX8_single_19 rfl ?_
        subst hQ0; unfold aSingle; rw [cif_neg (by omega)]; exact PW_id hW
set_option maxHeartbeats 4000000 in
set_option maxRecDepth 100000 in
theorem cMX8_clear {s : Int} (hs : rI s) (hW : WD A c Kd J Rd n s0) : ZC g l MX8_clear [.ref 4, .int (iZ s)] (KF Kd, zi J, zj P, RF Rd, n, s0) (PW (aClear A s).2 (c + 1) J P (.int (iZ (aClear A s).1))) := by
  refine ZC.of (by decide) (Nat.le_of_ble_eq_true rfl) ?_
  generalize hQ0 : (PW (aClear A s).2 (c + 1) J P (.int (iZ (aClear A s).1)) : Option Value → ZH → Prop) = Q0
  show Z g l MX8_clear 0 [some (.ref 4), some (.int (iZ s)), none] [] (KF Kd, zi J, zj P, RF Rd, n, s0) Q0
  refine z_iload_n dX8_clear_0 rfl rfl ?_
  refine z_calls (N := MX8_isSlot) (nas := 1) (as := [_]) dX8_clear_1 w_219 w_217 w_218 w_1 (by decide +kernel) rfl rfl (Nat.le_of_ble_eq_true rfl) (by decide) (by decide) (ZC.mono (cMX8_isSlot (by omega)) ?_)
  rintro _ _ ⟨b1, rfl, rfl, hb1⟩
  refine c_if_ne (tgt := 9) dX8_clear_4 (by decide) (by omega) (fun h4 => ?_) (fun h4 => ?_)
  · have g1 := (hb1.resolve_right (fun z => by have := z.1; omega)).2
    clear hb1
    refine z_aload_n dX8_clear_9 rfl rfl ?_
    refine z_getR (ci := 8) (kf := 0) dX8_clear_10 rfl (by decide) (by decide) rfl w_182 rfl ?_
    refine z_iload_n dX8_clear_13 rfl rfl ?_
    rcases hW.2.2.1.1 s.toNat (by omega) with ⟨hx, hx2⟩ | ⟨r, hx, hx2⟩
    · refine c_aaldN dX8_clear_14 (Or.inl rfl) (by omega) (by decide) hx ?_
      refine z_ifnonnullN dX8_clear_15 ?_
      refine c_iconst dX8_clear_18 ?_
      refine z_goto (tgt := 31) dX8_clear_19 (by decide) ?_
      refine z_istore_n dX8_clear_31 rfl (by decide) rfl ?_
      refine z_aload_n dX8_clear_32 rfl rfl ?_
      refine z_getR (ci := 8) (kf := 0) dX8_clear_33 rfl (by decide) (by decide) rfl w_182 rfl ?_
      refine z_iload_n dX8_clear_36 rfl rfl ?_
      refine z_null dX8_clear_37 ?_
      refine c_aastN dX8_clear_38 rfl (by omega) (by decide) ?_
      rw [RF_up (Or.inl rfl)]
      refine z_iload_n dX8_clear_39 rfl rfl ?_
      refine c_ireturn dX8_clear_40 rfl ?_
      subst hQ0; unfold aClear; rw [cif_pos (by omega)]
      have hS := WD_slot (s := s.toNat) (nl := 0) (E := fun _ => 0) (x := none) hW (by omega) (Or.inl rfl) (Or.inl ⟨rfl, rfl⟩)
      exact ⟨by first | rw [hx3] | rw [hx2], _, _, _, _, _, _, rfl, WD_mono hS, cs_refl, cs_refl⟩
    · have hx3 := hx2.2.1
      refine c_aald dX8_clear_14 (Or.inl rfl) (by omega) (by decide) hx ?_
      refine z_ifnonnull (tgt := 22) dX8_clear_15 (by decide) ?_
      refine z_aload_n dX8_clear_22 rfl rfl ?_
      refine z_getR (ci := 8) (kf := 0) dX8_clear_23 rfl (by decide) (by decide) rfl w_182 rfl ?_
      refine z_iload_n dX8_clear_26 rfl rfl ?_
      refine c_aald dX8_clear_27 (Or.inl rfl) (by omega) (by decide) hx ?_
      refine c_getI (ci := 3) (kf := 0) dX8_clear_28 (FA_K1 hx2.1) (by decide) (by decide) rfl w_280 ?_
      refine z_istore_n dX8_clear_31 rfl (by decide) rfl ?_
      refine z_aload_n dX8_clear_32 rfl rfl ?_
      refine z_getR (ci := 8) (kf := 0) dX8_clear_33 rfl (by decide) (by decide) rfl w_182 rfl ?_
      refine z_iload_n dX8_clear_36 rfl rfl ?_
      refine z_null dX8_clear_37 ?_
      refine c_aastN dX8_clear_38 rfl (by omega) (by decide) ?_
      rw [RF_up (Or.inl rfl)]
      refine z_iload_n dX8_clear_39 rfl rfl ?_
      refine c_ireturn dX8_clear_40 rfl ?_
      subst hQ0; unfold aClear; rw [cif_pos (by omega)]
      have hS := WD_slot (s := s.toNat) (nl := 0) (E := fun _ => 0) (x := none) hW (by omega) (Or.inl rfl) (Or.inl ⟨rfl, rfl⟩)
      exact ⟨by first | rw [hx3] | rw [hx2], _, _, _, _, _, _, rfl, WD_mono hS, cs_refl, cs_refl⟩
  · have g1 := (hb1.resolve_left (fun z => by have := z.1; omega)).2
    clear hb1
    refine c_iconst dX8_clear_7 ?_
    refine c_ireturn dX8_clear_8 rfl ?_
    subst hQ0; unfold aClear; rw [cif_neg (by omega)]; exact PW_id hW
set_option maxHeartbeats 4000000 in
set_option maxRecDepth 100000 in
theorem cMX8_entry {s i j a : Int} (hs : rI s) (hi : rI i) (hj : rI j) (ha : rI a) (hW : WD A c Kd J Rd n s0) : ZC g l MX8_entry [.ref 4, .int (iZ s), .int (iZ i), .int (iZ j), .int (iZ a)] (KF Kd, zi J, zj P, RF Rd, n, s0) (PW (aEntry A s i j a).2 (c + 1) J P (.int (iZ (aEntry A s i j a).1))) := by
  refine ZC.of (by decide) (Nat.le_of_ble_eq_true rfl) ?_
  generalize hQ0 : (PW (aEntry A s i j a).2 (c + 1) J P (.int (iZ (aEntry A s i j a).1)) : Option Value → ZH → Prop) = Q0
  show Z g l MX8_entry 0 [some (.ref 4), some (.int (iZ s)), some (.int (iZ i)), some (.int (iZ j)), some (.int (iZ a)), none] [] (KF Kd, zi J, zj P, RF Rd, n, s0) Q0
  refine z_aload_n dX8_entry_0 rfl rfl ?_
  refine z_iload_n dX8_entry_1 rfl rfl ?_
  refine z_callv (N := MX8_held) (ci := 8) (nas := 1) (as := [_]) dX8_entry_2 w_333 w_330 w_332 ws_2 w_1 (by decide +kernel) rfl rfl rfl (by decide) (Nat.le_of_ble_eq_true rfl) (by decide) (by decide) (ZC.mono (cMX8_held (by omega) hW) ?_)
  rintro _ _ ⟨rfl, hd2⟩
  rcases hd2 with ⟨hf2, rfl⟩ | ⟨hf2, r2, rfl, hr2⟩
  · skip
    refine z_astoreN dX8_entry_5 (by decide) rfl ?_
    refine z_aloadN dX8_entry_7 rfl ?_
    refine z_ifnullN (tgt := 44) dX8_entry_9 (by decide) ?_
    refine c_iconst dX8_entry_44 ?_
    refine c_ireturn dX8_entry_45 rfl ?_
    subst hQ0; unfold aEntry; rw [cif_neg (by omega)]; exact PW_id hW
  · have hK2 := FA_K1 hr2.1
    have hE2 := WD_ent hW hr2.1
    have hF2 := FA_okF hW hr2
    have hl2 := hF2.2.1
    refine z_astore dX8_entry_5 (by decide) rfl ?_
    refine z_aload dX8_entry_7 rfl ?_
    refine z_ifnull dX8_entry_9 ?_
    refine z_aload dX8_entry_12 rfl ?_
    refine z_iload_n dX8_entry_14 rfl rfl ?_
    refine z_calls (N := MX8_isLetter) (nas := 2) (as := [_, _]) dX8_entry_15 w_348 w_346 w_347 w_1 (by decide +kernel) rfl rfl (Nat.le_of_ble_eq_true rfl) (by decide) (by decide) (ZC.mono (cMX8_isLetter (by omega) hK2 (by have := hr2.2.1; omega)) ?_)
    rintro _ _ ⟨b15, rfl, rfl, hb15⟩
    rw [hr2.2.1] at hb15
    refine c_if_eq (tgt := 44) dX8_entry_18 (by decide) (by omega) (fun h18 => ?_) (fun h18 => ?_)
    · have g15 := (hb15.resolve_left (fun z => by have := z.1; omega)).2
      clear hb15
      refine c_iconst dX8_entry_44 ?_
      refine c_ireturn dX8_entry_45 rfl ?_
      subst hQ0; unfold aEntry; rw [cif_neg (by omega)]; exact PW_id hW
    · have g15 := (hb15.resolve_right (fun z => by have := z.1; omega)).2
      clear hb15
      refine z_aload dX8_entry_21 rfl ?_
      refine z_iload_n dX8_entry_23 rfl rfl ?_
      refine z_calls (N := MX8_isLetter) (nas := 2) (as := [_, _]) dX8_entry_24 w_348 w_346 w_347 w_1 (by decide +kernel) rfl rfl (Nat.le_of_ble_eq_true rfl) (by decide) (by decide) (ZC.mono (cMX8_isLetter (by omega) hK2 (by have := hr2.2.1; omega)) ?_)
      rintro _ _ ⟨b24, rfl, rfl, hb24⟩
      rw [hr2.2.1] at hb24
      refine c_if_eq (tgt := 44) dX8_entry_27 (by decide) (by omega) (fun h27 => ?_) (fun h27 => ?_)
      · have g24 := (hb24.resolve_left (fun z => by have := z.1; omega)).2
        clear hb24
        refine c_iconst dX8_entry_44 ?_
        refine c_ireturn dX8_entry_45 rfl ?_
        subst hQ0; unfold aEntry; rw [cif_neg (by omega)]; exact PW_id hW
      · have g24 := (hb24.resolve_right (fun z => by have := z.1; omega)).2
        clear hb24
        refine z_iload dX8_entry_30 rfl ?_
        refine c_bipush dX8_entry_32 (by decide) ?_
        refine c_icmp_lt (tgt := 44) dX8_entry_34 (by decide) (by omega) (by omega) (fun h34 => ?_) (fun h34 => ?_)
        · refine c_iconst dX8_entry_44 ?_
          refine c_ireturn dX8_entry_45 rfl ?_
          subst hQ0; unfold aEntry; rw [cif_neg (by omega)]; exact PW_id hW
        · refine z_iload dX8_entry_37 rfl ?_
          refine c_bipush dX8_entry_39 (by decide) ?_
          refine c_icmp_le (tgt := 46) dX8_entry_41 (by decide) (by omega) (by omega) (fun h41 => ?_) (fun h41 => ?_)
          · refine z_aload_n dX8_entry_46 rfl rfl ?_
            refine z_getR (ci := 8) (kf := 6) dX8_entry_47 rfl (by decide) (by decide) rfl w_188 rfl ?_
            refine z_aload dX8_entry_50 rfl ?_
            refine z_callv (N := MX1_load) (ci := 1) (nas := 1) (as := [_]) dX8_entry_52 w_352 w_349 w_350 w_351 w_4 (by decide +kernel) rfl rfl rfl (by decide) (Nat.le_of_ble_eq_true rfl) (by decide) (by decide) (ZC.mono (k_load hW hr2) ?_)
            rintro _ _ ⟨rfl, rfl⟩
            refine z_aload_n dX8_entry_55 rfl rfl ?_
            refine z_getR (ci := 8) (kf := 6) dX8_entry_56 rfl (by decide) (by decide) rfl w_188 rfl ?_
            refine z_iload_n dX8_entry_59 rfl rfl ?_
            refine z_iload_n dX8_entry_60 rfl rfl ?_
            refine z_iload dX8_entry_61 rfl ?_
            refine z_callv (N := MX1_set) (ci := 1) (nas := 3) (as := [_, _, _]) dX8_entry_63 w_230 w_227 w_228 w_229 w_4 (by decide +kernel) rfl rfl rfl (by decide) (Nat.le_of_ble_eq_true rfl) (by decide) (by decide) (ZC.mono (cMX1_set (by omega) (by omega)) ?_)
            rintro _ _ ⟨rfl, rfl⟩
            have hEa : entS (setE (eE A s) i.toNat j.toNat a) := setE_rng hF2.2.2.1.1 (by omega)
            refine z_aload_n dX8_entry_66 rfl rfl ?_
            refine z_iload_n dX8_entry_67 rfl rfl ?_
            refine z_callv (N := MX8_storeDraft) (ci := 8) (nas := 1) (as := [_]) dX8_entry_68 w_234 w_231 w_233 ws_0 w_1 (by decide +kernel) rfl rfl rfl (by decide) (Nat.le_of_ble_eq_true rfl) (by decide) (by decide) (ZC.mono (cMX8_storeDraft (nl := (A 44 s.toNat)) (E := (setE (eE A s) i.toNat j.toNat a)) (by omega) (by omega) (entS_rng hEa) (setE_sym (by omega) (by omega) hF2.2.2.2.1) (setE_zero (by omega) (by omega) (by omega) hF2.2.2.2.2) hW) ?_)
            rintro _ _ ⟨Kd68, J68, P68, Rd68, n68, s68, rfl, ⟨b68, rfl, hst68⟩, hcJ68, hcP68, hold68⟩
            refine c_if_eq (tgt := 84) dX8_entry_71 (by decide) (by omega) (fun h71 => ?_) (fun h71 => ?_)
            · refine c_bipush dX8_entry_84 (by decide) ?_
              refine c_ireturn dX8_entry_86 rfl ?_
              subst hQ0; unfold aEntry; rw [cif_pos (by omega)]; unfold aComes
              rcases hst68 with ⟨z0, z1, z2, z3⟩ | ⟨z0, z1, z2⟩
              · rw [cif_pos z1]; first | (exfalso; omega) | exact ⟨by rw [dput_26 (by decide), z3], _, _, _, _, _, _, rfl, WD_dput z2, cs_dput hcJ68, hcP68⟩
              · rw [cif_neg z1]; first | (exfalso; omega) | exact ⟨rfl, _, _, _, _, _, _, rfl, WD_dput z2, cs_dput hcJ68, hcP68⟩
            · refine z_aload_n dX8_entry_74 rfl rfl ?_
              refine z_getR (ci := 8) (kf := 6) dX8_entry_75 rfl (by decide) (by decide) rfl w_188 rfl ?_
              refine c_getI (ci := 1) (kf := 2) dX8_entry_78 rfl (by decide) (by decide) rfl w_85 ?_
              refine z_goto (tgt := 86) dX8_entry_81 (by decide) ?_
              refine c_ireturn dX8_entry_86 rfl ?_
              subst hQ0; unfold aEntry; rw [cif_pos (by omega)]; unfold aComes
              rcases hst68 with ⟨z0, z1, z2, z3⟩ | ⟨z0, z1, z2⟩
              · rw [cif_pos z1]; first | (exfalso; omega) | exact ⟨by rw [dput_26 (by decide), z3], _, _, _, _, _, _, rfl, WD_dput z2, cs_dput hcJ68, hcP68⟩
              · rw [cif_neg z1]; first | (exfalso; omega) | exact ⟨rfl, _, _, _, _, _, _, rfl, WD_dput z2, cs_dput hcJ68, hcP68⟩
          · refine c_iconst dX8_entry_44 ?_
            refine c_ireturn dX8_entry_45 rfl ?_
            subst hQ0; unfold aEntry; rw [cif_neg (by omega)]; exact PW_id hW
set_option maxHeartbeats 4000000 in
set_option maxRecDepth 100000 in
theorem cMX8_at {s i j : Int} (hs : rI s) (hi : rI i) (hj : rI j) (hW : WD A c Kd J Rd n s0) : ZC g l MX8_at [.ref 4, .int (iZ s), .int (iZ i), .int (iZ j)] (KF Kd, zi J, zj P, RF Rd, n, s0) (PW A (c + 1) J P (.int (iZ (aAt A s i j)))) := by
  refine ZC.of (by decide) (Nat.le_of_ble_eq_true rfl) ?_
  generalize hQ0 : (PW A (c + 1) J P (.int (iZ (aAt A s i j))) : Option Value → ZH → Prop) = Q0
  show Z g l MX8_at 0 [some (.ref 4), some (.int (iZ s)), some (.int (iZ i)), some (.int (iZ j)), none] [] (KF Kd, zi J, zj P, RF Rd, n, s0) Q0
  refine z_aload_n dX8_at_0 rfl rfl ?_
  refine z_iload_n dX8_at_1 rfl rfl ?_
  refine z_callv (N := MX8_held) (ci := 8) (nas := 1) (as := [_]) dX8_at_2 w_333 w_330 w_332 ws_2 w_1 (by decide +kernel) rfl rfl rfl (by decide) (Nat.le_of_ble_eq_true rfl) (by decide) (by decide) (ZC.mono (cMX8_held (by omega) hW) ?_)
  rintro _ _ ⟨rfl, hd2⟩
  rcases hd2 with ⟨hf2, rfl⟩ | ⟨hf2, r2, rfl, hr2⟩
  · skip
    refine z_astoreN dX8_at_5 (by decide) rfl ?_
    refine z_aloadN dX8_at_7 rfl ?_
    refine z_ifnullN (tgt := 30) dX8_at_9 (by decide) ?_
    refine c_ldc (z := -2147483648) dX8_at_30 w_360 (by decide) ?_
    refine c_ireturn dX8_at_32 rfl ?_
    subst hQ0; unfold aAt; rw [cif_neg (by omega)]; exact PW_id hW
  · have hK2 := FA_K1 hr2.1
    have hE2 := WD_ent hW hr2.1
    have hF2 := FA_okF hW hr2
    have hl2 := hF2.2.1
    refine z_astore dX8_at_5 (by decide) rfl ?_
    refine z_aload dX8_at_7 rfl ?_
    refine z_ifnull dX8_at_9 ?_
    refine z_aload dX8_at_12 rfl ?_
    refine z_iload_n dX8_at_14 rfl rfl ?_
    refine z_calls (N := MX8_isLetter) (nas := 2) (as := [_, _]) dX8_at_15 w_348 w_346 w_347 w_1 (by decide +kernel) rfl rfl (Nat.le_of_ble_eq_true rfl) (by decide) (by decide) (ZC.mono (cMX8_isLetter (by omega) hK2 (by have := hr2.2.1; omega)) ?_)
    rintro _ _ ⟨b15, rfl, rfl, hb15⟩
    rw [hr2.2.1] at hb15
    refine c_if_eq (tgt := 30) dX8_at_18 (by decide) (by omega) (fun h18 => ?_) (fun h18 => ?_)
    · have g15 := (hb15.resolve_left (fun z => by have := z.1; omega)).2
      clear hb15
      refine c_ldc (z := -2147483648) dX8_at_30 w_360 (by decide) ?_
      refine c_ireturn dX8_at_32 rfl ?_
      subst hQ0; unfold aAt; rw [cif_neg (by omega)]; exact PW_id hW
    · have g15 := (hb15.resolve_right (fun z => by have := z.1; omega)).2
      clear hb15
      refine z_aload dX8_at_21 rfl ?_
      refine z_iload_n dX8_at_23 rfl rfl ?_
      refine z_calls (N := MX8_isLetter) (nas := 2) (as := [_, _]) dX8_at_24 w_348 w_346 w_347 w_1 (by decide +kernel) rfl rfl (Nat.le_of_ble_eq_true rfl) (by decide) (by decide) (ZC.mono (cMX8_isLetter (by omega) hK2 (by have := hr2.2.1; omega)) ?_)
      rintro _ _ ⟨b24, rfl, rfl, hb24⟩
      rw [hr2.2.1] at hb24
      refine c_if_ne (tgt := 33) dX8_at_27 (by decide) (by omega) (fun h27 => ?_) (fun h27 => ?_)
      · have g24 := (hb24.resolve_right (fun z => by have := z.1; omega)).2
        clear hb24
        refine z_aload dX8_at_33 rfl ?_
        refine z_getR (ci := 3) (kf := 1) dX8_at_35 hK2 (by decide) (by decide) rfl w_286 hE2.1 ?_
        refine c_iconst dX8_at_38 ?_
        refine z_iload_n dX8_at_39 rfl rfl ?_
        refine c_imul dX8_at_40 ?_
        refine z_iload_n dX8_at_41 rfl rfl ?_
        refine c_iadd dX8_at_42 ?_
        refine c_iald dX8_at_43 hE2.2.1 (by omega) (by decide) ?_
        refine c_ireturn dX8_at_44 rfl ?_
        subst hQ0; unfold aAt; rw [cif_pos (by omega), show (4 * i + j).toNat = 4 * i.toNat + j.toNat by omega, hr2.2.2 _ (by omega)]; exact PW_id hW
      · have g24 := (hb24.resolve_left (fun z => by have := z.1; omega)).2
        clear hb24
        refine c_ldc (z := -2147483648) dX8_at_30 w_360 (by decide) ?_
        refine c_ireturn dX8_at_32 rfl ?_
        subst hQ0; unfold aAt; rw [cif_neg (by omega)]; exact PW_id hW
set_option maxHeartbeats 4000000 in
set_option maxRecDepth 100000 in
theorem cMX8_minor {s k : Int} (hs : rI s) (hk : rI k) (hW : WD A c Kd J Rd n s0) : ZC g l MX8_minor [.ref 4, .int (iZ s), .int (iZ k)] (KF Kd, zi J, zj P, RF Rd, n, s0) (PW A (c + 1) J P (.int (iZ (aMinor A s k)))) := by
  refine ZC.of (by decide) (Nat.le_of_ble_eq_true rfl) ?_
  generalize hQ0 : (PW A (c + 1) J P (.int (iZ (aMinor A s k))) : Option Value → ZH → Prop) = Q0
  show Z g l MX8_minor 0 [some (.ref 4), some (.int (iZ s)), some (.int (iZ k)), none] [] (KF Kd, zi J, zj P, RF Rd, n, s0) Q0
  refine z_aload_n dX8_minor_0 rfl rfl ?_
  refine z_iload_n dX8_minor_1 rfl rfl ?_
  refine z_callv (N := MX8_held) (ci := 8) (nas := 1) (as := [_]) dX8_minor_2 w_333 w_330 w_332 ws_2 w_1 (by decide +kernel) rfl rfl rfl (by decide) (Nat.le_of_ble_eq_true rfl) (by decide) (by decide) (ZC.mono (cMX8_held (by omega) hW) ?_)
  rintro _ _ ⟨rfl, hd2⟩
  rcases hd2 with ⟨hf2, rfl⟩ | ⟨hf2, r2, rfl, hr2⟩
  · skip
    refine z_astore_nN dX8_minor_5 rfl (by decide) rfl ?_
    refine z_aload_nN dX8_minor_6 rfl rfl ?_
    refine z_ifnullN (tgt := 22) dX8_minor_7 (by decide) ?_
    refine c_iconst dX8_minor_22 ?_
    refine c_ireturn dX8_minor_23 rfl ?_
    subst hQ0; unfold aMinor; rw [cif_neg (by omega)]; exact PW_id hW
  · have hK2 := FA_K1 hr2.1
    have hE2 := WD_ent hW hr2.1
    have hF2 := FA_okF hW hr2
    have hl2 := hF2.2.1
    refine z_astore_n dX8_minor_5 rfl (by decide) rfl ?_
    refine z_aload_n dX8_minor_6 rfl rfl ?_
    refine z_ifnull dX8_minor_7 ?_
    refine z_iload_n dX8_minor_10 rfl rfl ?_
    refine c_if_lt (tgt := 22) dX8_minor_11 (by decide) (by omega) (fun h11 => ?_) (fun h11 => ?_)
    · refine c_iconst dX8_minor_22 ?_
      refine c_ireturn dX8_minor_23 rfl ?_
      subst hQ0; unfold aMinor; rw [cif_neg (by omega)]; exact PW_id hW
    · refine z_iload_n dX8_minor_14 rfl rfl ?_
      refine z_aload_n dX8_minor_15 rfl rfl ?_
      refine c_getI (ci := 3) (kf := 0) dX8_minor_16 hK2 (by decide) (by decide) rfl w_280 ?_
      rw [hr2.2.1]
      refine c_icmp_le (tgt := 24) dX8_minor_19 (by decide) (by omega) (by omega) (fun h19 => ?_) (fun h19 => ?_)
      · refine z_aload_n dX8_minor_24 rfl rfl ?_
        refine z_getR (ci := 8) (kf := 6) dX8_minor_25 rfl (by decide) (by decide) rfl w_188 rfl ?_
        refine z_aload_n dX8_minor_28 rfl rfl ?_
        refine z_callv (N := MX1_load) (ci := 1) (nas := 1) (as := [_]) dX8_minor_29 w_352 w_349 w_350 w_351 w_4 (by decide +kernel) rfl rfl rfl (by decide) (Nat.le_of_ble_eq_true rfl) (by decide) (by decide) (ZC.mono (k_load hW hr2) ?_)
        rintro _ _ ⟨rfl, rfl⟩
        refine z_aload_n dX8_minor_32 rfl rfl ?_
        refine z_getR (ci := 8) (kf := 6) dX8_minor_33 rfl (by decide) (by decide) rfl w_188 rfl ?_
        refine c_iconst dX8_minor_36 ?_
        refine z_iload_n dX8_minor_37 rfl rfl ?_
        refine z_ishl dX8_minor_38 ?_
        rw [bt_all (by omega)]
        refine c_iconst dX8_minor_39 ?_
        refine c_isub dX8_minor_40 ?_
        rw [← bt_no]
        refine z_callv (N := MX1_determinant) (ci := 1) (nas := 1) (as := [_]) dX8_minor_41 w_246 w_365 w_244 w_245 w_4 (by decide +kernel) rfl rfl rfl (by decide) (Nat.le_of_ble_eq_true rfl) (by decide) (by decide) (ZC.mono (cMX1_determinant (k := k) (but := -1) (by omega) (by omega) hF2.2.2.1.1 hF2.2.2.2.1) ?_)
        rintro _ _ ⟨Ja41, Pa41, rfl, rfl, hJa41, hPa41⟩
        refine c_l2i dX8_minor_44 ?_
        refine c_ireturn dX8_minor_45 rfl ?_
        subst hQ0; unfold aMinor; rw [cif_pos (by omega)]
        exact ⟨rfl, _, _, _, _, _, _, rfl, WD_dput (WD_scr (WD_mono hW) (fun a ha => hJa41 a (ks_ne ha (by decide)))), cs_dput (fun a a1 a2 => hJa41 a (by omega)), fun a a1 a2 => hPa41 a (by omega)⟩
      · refine c_iconst dX8_minor_22 ?_
        refine c_ireturn dX8_minor_23 rfl ?_
        subst hQ0; unfold aMinor; rw [cif_neg (by omega)]; exact PW_id hW
set_option maxHeartbeats 4000000 in
set_option maxRecDepth 100000 in
theorem cMX8_of {s w : Int} (hs : rI s) (hw : rI w) (hW : WD A c Kd J Rd n s0) : ZC g l MX8_of [.ref 4, .int (iZ s), .int (iZ w)] (KF Kd, zi J, zj P, RF Rd, n, s0) (PW A (c + 1) J P (.int (iZ (aOf A s w)))) := by
  refine ZC.of (by decide) (Nat.le_of_ble_eq_true rfl) ?_
  generalize hQ0 : (PW A (c + 1) J P (.int (iZ (aOf A s w))) : Option Value → ZH → Prop) = Q0
  show Z g l MX8_of 0 [some (.ref 4), some (.int (iZ s)), some (.int (iZ w)), none] [] (KF Kd, zi J, zj P, RF Rd, n, s0) Q0
  refine z_iload_n dX8_of_0 rfl rfl ?_
  refine z_calls (N := MX8_isSlot) (nas := 1) (as := [_]) dX8_of_1 w_219 w_217 w_218 w_1 (by decide +kernel) rfl rfl (Nat.le_of_ble_eq_true rfl) (by decide) (by decide) (ZC.mono (cMX8_isSlot (by omega)) ?_)
  rintro _ _ ⟨b1, rfl, rfl, hb1⟩
  refine c_if_eq (tgt := 16) dX8_of_4 (by decide) (by omega) (fun h4 => ?_) (fun h4 => ?_)
  · have g1 := (hb1.resolve_left (fun z => by have := z.1; omega)).2
    clear hb1
    refine c_iconst dX8_of_16 ?_
    refine c_ireturn dX8_of_17 rfl ?_
    subst hQ0; unfold aOf; rw [cif_neg (by omega)]; exact PW_id hW
  · have g1 := (hb1.resolve_right (fun z => by have := z.1; omega)).2
    clear hb1
    refine z_iload_n dX8_of_7 rfl rfl ?_
    refine c_if_lt (tgt := 16) dX8_of_8 (by decide) (by omega) (fun h8 => ?_) (fun h8 => ?_)
    · refine c_iconst dX8_of_16 ?_
      refine c_ireturn dX8_of_17 rfl ?_
      subst hQ0; unfold aOf; rw [cif_neg (by omega)]; exact PW_id hW
    · refine z_iload_n dX8_of_11 rfl rfl ?_
      refine c_iconst dX8_of_12 ?_
      refine c_icmp_le (tgt := 18) dX8_of_13 (by decide) (by omega) (by omega) (fun h13 => ?_) (fun h13 => ?_)
      · refine z_aload_n dX8_of_18 rfl rfl ?_
        refine z_getR (ci := 8) (kf := 0) dX8_of_19 rfl (by decide) (by decide) rfl w_182 rfl ?_
        refine z_iload_n dX8_of_22 rfl rfl ?_
        rcases hW.2.2.1.1 s.toNat (by omega) with ⟨hx, hx2⟩ | ⟨r, hx, hx2⟩
        · refine c_aaldN dX8_of_23 (Or.inl rfl) (by omega) (by decide) hx ?_
          refine z_astore_nN dX8_of_24 rfl (by decide) rfl ?_
          refine z_aload_nN dX8_of_25 rfl rfl ?_
          refine z_ifnonnullN dX8_of_26 ?_
          refine z_iload_n dX8_of_29 rfl rfl ?_
          refine c_if_ne (tgt := 37) dX8_of_30 (by decide) (by omega) (fun h30 => ?_) (fun h30 => ?_)
          · refine c_bipush dX8_of_37 (by decide) ?_
            refine c_ireturn dX8_of_39 rfl ?_
            subst hQ0; unfold aOf; rw [cif_pos (by omega), if_pos hx2]; first | (rw [if_pos (by omega)]; exact PW_id hW) | (rw [if_neg (by omega)]; exact PW_id hW)
          · refine c_iconst dX8_of_33 ?_
            refine z_goto (tgt := 39) dX8_of_34 (by decide) ?_
            refine c_ireturn dX8_of_39 rfl ?_
            subst hQ0; unfold aOf; rw [cif_pos (by omega), if_pos hx2]; first | (rw [if_pos (by omega)]; exact PW_id hW) | (rw [if_neg (by omega)]; exact PW_id hW)
        · have hx3 := hx2.2.1
          have hF := FA_okF hW hx2
          have hl := hF.2.1
          have hE := WD_ent hW hx2.1
          have hG := (WD_GF hW hx2.1).2.1
          refine c_aald dX8_of_23 (Or.inl rfl) (by omega) (by decide) hx ?_
          refine z_astore_n dX8_of_24 rfl (by decide) rfl ?_
          refine z_aload_n dX8_of_25 rfl rfl ?_
          refine z_ifnonnull (tgt := 40) dX8_of_26 (by decide) ?_
          refine z_iload_n dX8_of_40 rfl rfl ?_
          rcases (show w = 0 ∨ w = 1 ∨ w = 2 ∨ (w < 0 ∨ 2 < w) by omega) with hsw | hsw | hsw | hsw
          · subst hsw
            refine c_tableIn (tgt := 68) dX8_of_41 (by decide) (by decide) rfl (by decide) ?_
            refine z_aload_n dX8_of_68 rfl rfl ?_
            refine c_getI (ci := 3) (kf := 0) dX8_of_69 (FA_K1 hx2.1) (by decide) (by decide) rfl w_280 ?_
            refine c_ireturn dX8_of_72 rfl ?_
            subst hQ0; unfold aOf; rw [cif_pos (by omega), if_neg (by omega), if_pos rfl, hx3]; exact PW_id hW
          · subst hsw
            refine c_tableIn (tgt := 73) dX8_of_41 (by decide) (by decide) rfl (by decide) ?_
            refine z_aload_n dX8_of_73 rfl rfl ?_
            refine c_getI (ci := 3) (kf := 2) dX8_of_74 (FA_K1 hx2.1) (by decide) (by decide) rfl w_289 ?_
            refine c_ireturn dX8_of_77 rfl ?_
            subst hQ0; unfold aOf; rw [cif_pos (by omega), if_neg (by omega), if_neg (by decide), if_pos rfl, hG.2.2.1, hx3, detS_congr (F := eE A s) hl (fun k hk => hx2.2.2 k hk)]; exact PW_id hW
          · subst hsw
            refine c_tableIn (tgt := 78) dX8_of_41 (by decide) (by decide) rfl (by decide) ?_
            refine z_aload_n dX8_of_78 rfl rfl ?_
            refine c_getI (ci := 3) (kf := 3) dX8_of_79 (FA_K1 hx2.1) (by decide) (by decide) rfl w_291 ?_
            refine c_ireturn dX8_of_82 rfl ?_
            subst hQ0; unfold aOf; rw [cif_pos (by omega), if_neg (by omega), if_neg (by decide), if_neg (by decide), if_pos rfl, hG.2.2.2, hx3, boxP_congr (F := eE A s) hl (fun k hk => hx2.2.2 k hk)]; exact PW_id hW
          · refine c_tableOut (tgt := 83) dX8_of_41 (by omega) hsw (by decide) ?_
            refine z_aload_n dX8_of_83 rfl rfl ?_
            refine z_callv (N := MX3_greatestSquare) (ci := 3) (nas := 0) (as := []) dX8_of_84 w_373 w_370 w_371 w_372 w_10 (by decide +kernel) rfl rfl (FA_K1 hx2.1) (by decide) (Nat.le_of_ble_eq_true rfl) (by decide) (by decide) (ZC.mono (cMX3_greatestSquare (FA_K1 hx2.1) hE.1 hE.2.1 (by omega) hG.2.1.2.1.1) ?_)
            rintro _ _ ⟨rfl, rfl⟩
            refine c_ireturn dX8_of_87 rfl ?_
            subst hQ0; unfold aOf; rw [cif_pos (by omega), if_neg (by omega), if_neg (by omega), if_neg (by omega), if_neg (by omega), hx3, mostS_cg (F := eE A s) (fun k hk => hx2.2.2 k hk) _ (by omega)]; exact PW_id hW
      · refine c_iconst dX8_of_16 ?_
        refine c_ireturn dX8_of_17 rfl ?_
        subst hQ0; unfold aOf; rw [cif_neg (by omega)]; exact PW_id hW
set_option maxHeartbeats 4000000 in
set_option maxRecDepth 100000 in
theorem cMX8_change {s i j x : Int} (hs : rI s) (hi : rI i) (hj : rI j) (hx : rI x) (hW : WD A c Kd J Rd n s0) : ZC g l MX8_change [.ref 4, .int (iZ s), .int (iZ i), .int (iZ j), .int (iZ x)] (KF Kd, zi J, zj P, RF Rd, n, s0) (PW (aChange A s i j x).2 (c + 1) J P (.int (iZ (aChange A s i j x).1))) := by
  refine ZC.of (by decide) (Nat.le_of_ble_eq_true rfl) ?_
  generalize hQ0 : (PW (aChange A s i j x).2 (c + 1) J P (.int (iZ (aChange A s i j x).1)) : Option Value → ZH → Prop) = Q0
  show Z g l MX8_change 0 [some (.ref 4), some (.int (iZ s)), some (.int (iZ i)), some (.int (iZ j)), some (.int (iZ x)), none] [] (KF Kd, zi J, zj P, RF Rd, n, s0) Q0
  refine z_aload_n dX8_change_0 rfl rfl ?_
  refine z_iload_n dX8_change_1 rfl rfl ?_
  refine z_callv (N := MX8_held) (ci := 8) (nas := 1) (as := [_]) dX8_change_2 w_333 w_330 w_332 ws_2 w_1 (by decide +kernel) rfl rfl rfl (by decide) (Nat.le_of_ble_eq_true rfl) (by decide) (by decide) (ZC.mono (cMX8_held (by omega) hW) ?_)
  rintro _ _ ⟨rfl, hd2⟩
  rcases hd2 with ⟨hf2, rfl⟩ | ⟨hf2, r2, rfl, hr2⟩
  · skip
    refine z_astoreN dX8_change_5 (by decide) rfl ?_
    refine z_aloadN dX8_change_7 rfl ?_
    refine z_ifnullN (tgt := 49) dX8_change_9 (by decide) ?_
    refine c_iconst dX8_change_49 ?_
    refine c_ireturn dX8_change_50 rfl ?_
    subst hQ0; unfold aChange; rw [cif_neg (by omega)]; exact PW_id hW
  · have hK2 := FA_K1 hr2.1
    have hE2 := WD_ent hW hr2.1
    have hF2 := FA_okF hW hr2
    have hl2 := hF2.2.1
    refine z_astore dX8_change_5 (by decide) rfl ?_
    refine z_aload dX8_change_7 rfl ?_
    refine z_ifnull dX8_change_9 ?_
    refine z_aload dX8_change_12 rfl ?_
    refine z_iload_n dX8_change_14 rfl rfl ?_
    refine z_calls (N := MX8_isLetter) (nas := 2) (as := [_, _]) dX8_change_15 w_348 w_346 w_347 w_1 (by decide +kernel) rfl rfl (Nat.le_of_ble_eq_true rfl) (by decide) (by decide) (ZC.mono (cMX8_isLetter (by omega) hK2 (by have := hr2.2.1; omega)) ?_)
    rintro _ _ ⟨b15, rfl, rfl, hb15⟩
    rw [hr2.2.1] at hb15
    refine c_if_eq (tgt := 49) dX8_change_18 (by decide) (by omega) (fun h18 => ?_) (fun h18 => ?_)
    · have g15 := (hb15.resolve_left (fun z => by have := z.1; omega)).2
      clear hb15
      refine c_iconst dX8_change_49 ?_
      refine c_ireturn dX8_change_50 rfl ?_
      subst hQ0; unfold aChange; rw [cif_neg (by omega)]; exact PW_id hW
    · have g15 := (hb15.resolve_right (fun z => by have := z.1; omega)).2
      clear hb15
      refine z_aload dX8_change_21 rfl ?_
      refine z_iload_n dX8_change_23 rfl rfl ?_
      refine z_calls (N := MX8_isLetter) (nas := 2) (as := [_, _]) dX8_change_24 w_348 w_346 w_347 w_1 (by decide +kernel) rfl rfl (Nat.le_of_ble_eq_true rfl) (by decide) (by decide) (ZC.mono (cMX8_isLetter (by omega) hK2 (by have := hr2.2.1; omega)) ?_)
      rintro _ _ ⟨b24, rfl, rfl, hb24⟩
      rw [hr2.2.1] at hb24
      refine c_if_eq (tgt := 49) dX8_change_27 (by decide) (by omega) (fun h27 => ?_) (fun h27 => ?_)
      · have g24 := (hb24.resolve_left (fun z => by have := z.1; omega)).2
        clear hb24
        refine c_iconst dX8_change_49 ?_
        refine c_ireturn dX8_change_50 rfl ?_
        subst hQ0; unfold aChange; rw [cif_neg (by omega)]; exact PW_id hW
      · have g24 := (hb24.resolve_right (fun z => by have := z.1; omega)).2
        clear hb24
        refine z_iload_n dX8_change_30 rfl rfl ?_
        refine z_iload_n dX8_change_31 rfl rfl ?_
        refine c_icmp_eq (tgt := 49) dX8_change_32 (by decide) (by omega) (by omega) (fun h32 => ?_) (fun h32 => ?_)
        · refine c_iconst dX8_change_49 ?_
          refine c_ireturn dX8_change_50 rfl ?_
          subst hQ0; unfold aChange; rw [cif_neg (by omega)]; exact PW_id hW
        · refine z_iload dX8_change_35 rfl ?_
          refine c_bipush dX8_change_37 (by decide) ?_
          refine c_icmp_lt (tgt := 49) dX8_change_39 (by decide) (by omega) (by omega) (fun h39 => ?_) (fun h39 => ?_)
          · refine c_iconst dX8_change_49 ?_
            refine c_ireturn dX8_change_50 rfl ?_
            subst hQ0; unfold aChange; rw [cif_neg (by omega)]; exact PW_id hW
          · refine z_iload dX8_change_42 rfl ?_
            refine c_bipush dX8_change_44 (by decide) ?_
            refine c_icmp_le (tgt := 51) dX8_change_46 (by decide) (by omega) (by omega) (fun h46 => ?_) (fun h46 => ?_)
            · refine z_aload_n dX8_change_51 rfl rfl ?_
              refine z_getR (ci := 8) (kf := 6) dX8_change_52 rfl (by decide) (by decide) rfl w_188 rfl ?_
              refine z_aload dX8_change_55 rfl ?_
              refine z_callv (N := MX1_load) (ci := 1) (nas := 1) (as := [_]) dX8_change_57 w_352 w_349 w_350 w_351 w_4 (by decide +kernel) rfl rfl rfl (by decide) (Nat.le_of_ble_eq_true rfl) (by decide) (by decide) (ZC.mono (k_load hW hr2) ?_)
              rintro _ _ ⟨rfl, rfl⟩
              refine z_aload_n dX8_change_60 rfl rfl ?_
              refine z_getR (ci := 8) (kf := 6) dX8_change_61 rfl (by decide) (by decide) rfl w_188 rfl ?_
              refine z_iload_n dX8_change_64 rfl rfl ?_
              refine z_iload_n dX8_change_65 rfl rfl ?_
              refine z_iload dX8_change_66 rfl ?_
              refine z_callv (N := MX1_addLetter) (ci := 1) (nas := 3) (as := [_, _, _]) dX8_change_68 w_397 w_394 w_395 w_396 w_4 (by decide +kernel) rfl rfl rfl (by decide) (Nat.le_of_ble_eq_true rfl) (by decide) (by decide) (ZC.mono (cMX1_addLetter (by omega) (by omega) (by omega) (by omega)) ?_)
              rintro _ _ ⟨rfl, rfl⟩
              have hEa := chgE_rng (nl := (A 44 s.toNat).toNat) (i := i.toNat) (j := j.toNat) (c := x) hF2.2.2.1.1 (by omega) (by omega) (by omega)
              refine z_aload_n dX8_change_71 rfl rfl ?_
              refine z_iload_n dX8_change_72 rfl rfl ?_
              refine z_callv (N := MX8_storeDraft) (ci := 8) (nas := 1) (as := [_]) dX8_change_73 w_234 w_231 w_233 ws_0 w_1 (by decide +kernel) rfl rfl rfl (by decide) (Nat.le_of_ble_eq_true rfl) (by decide) (by decide) (ZC.mono (cMX8_storeDraft (nl := (A 44 s.toNat)) (E := (chgE (eE A s) (A 44 s.toNat).toNat i.toNat j.toNat x)) (by omega) (by omega) hEa (chg_sym (by omega) (by omega) hF2.2.2.2.1) (chg_zero (by omega) (by omega) hF2.2.2.2.2) hW) ?_)
              rintro _ _ ⟨Kd73, J73, P73, Rd73, n73, s73, rfl, ⟨b73, rfl, hst73⟩, hcJ73, hcP73, hold73⟩
              refine c_if_eq (tgt := 89) dX8_change_76 (by decide) (by omega) (fun h76 => ?_) (fun h76 => ?_)
              · refine c_bipush dX8_change_89 (by decide) ?_
                refine c_ireturn dX8_change_91 rfl ?_
                subst hQ0; unfold aChange; rw [cif_pos (by omega)]; unfold aComes
                rcases hst73 with ⟨z0, z1, z2, z3⟩ | ⟨z0, z1, z2⟩
                · rw [cif_pos z1]; first | (exfalso; omega) | exact ⟨by rw [dput_26 (by decide), z3], _, _, _, _, _, _, rfl, WD_dput z2, cs_dput hcJ73, hcP73⟩
                · rw [cif_neg z1]; first | (exfalso; omega) | exact ⟨rfl, _, _, _, _, _, _, rfl, WD_dput z2, cs_dput hcJ73, hcP73⟩
              · refine z_aload_n dX8_change_79 rfl rfl ?_
                refine z_getR (ci := 8) (kf := 6) dX8_change_80 rfl (by decide) (by decide) rfl w_188 rfl ?_
                refine c_getI (ci := 1) (kf := 2) dX8_change_83 rfl (by decide) (by decide) rfl w_85 ?_
                refine z_goto (tgt := 91) dX8_change_86 (by decide) ?_
                refine c_ireturn dX8_change_91 rfl ?_
                subst hQ0; unfold aChange; rw [cif_pos (by omega)]; unfold aComes
                rcases hst73 with ⟨z0, z1, z2, z3⟩ | ⟨z0, z1, z2⟩
                · rw [cif_pos z1]; first | (exfalso; omega) | exact ⟨by rw [dput_26 (by decide), z3], _, _, _, _, _, _, rfl, WD_dput z2, cs_dput hcJ73, hcP73⟩
                · rw [cif_neg z1]; first | (exfalso; omega) | exact ⟨rfl, _, _, _, _, _, _, rfl, WD_dput z2, cs_dput hcJ73, hcP73⟩
            · refine c_iconst dX8_change_49 ?_
              refine c_ireturn dX8_change_50 rfl ?_
              subst hQ0; unfold aChange; rw [cif_neg (by omega)]; exact PW_id hW
set_option maxHeartbeats 4000000 in
set_option maxRecDepth 100000 in
theorem cMX8_swap {s i j : Int} (hs : rI s) (hi : rI i) (hj : rI j) (hW : WD A c Kd J Rd n s0) : ZC g l MX8_swap [.ref 4, .int (iZ s), .int (iZ i), .int (iZ j)] (KF Kd, zi J, zj P, RF Rd, n, s0) (PW (aSwap A s i j).2 (c + 1) J P (.int (iZ (aSwap A s i j).1))) := by
  refine ZC.of (by decide) (Nat.le_of_ble_eq_true rfl) ?_
  generalize hQ0 : (PW (aSwap A s i j).2 (c + 1) J P (.int (iZ (aSwap A s i j).1)) : Option Value → ZH → Prop) = Q0
  show Z g l MX8_swap 0 [some (.ref 4), some (.int (iZ s)), some (.int (iZ i)), some (.int (iZ j)), none] [] (KF Kd, zi J, zj P, RF Rd, n, s0) Q0
  refine z_aload_n dX8_swap_0 rfl rfl ?_
  refine z_iload_n dX8_swap_1 rfl rfl ?_
  refine z_callv (N := MX8_held) (ci := 8) (nas := 1) (as := [_]) dX8_swap_2 w_333 w_330 w_332 ws_2 w_1 (by decide +kernel) rfl rfl rfl (by decide) (Nat.le_of_ble_eq_true rfl) (by decide) (by decide) (ZC.mono (cMX8_held (by omega) hW) ?_)
  rintro _ _ ⟨rfl, hd2⟩
  rcases hd2 with ⟨hf2, rfl⟩ | ⟨hf2, r2, rfl, hr2⟩
  · skip
    refine z_astoreN dX8_swap_5 (by decide) rfl ?_
    refine z_aloadN dX8_swap_7 rfl ?_
    refine z_ifnullN (tgt := 30) dX8_swap_9 (by decide) ?_
    refine c_iconst dX8_swap_30 ?_
    refine c_ireturn dX8_swap_31 rfl ?_
    subst hQ0; unfold aSwap; rw [cif_neg (by omega)]; exact PW_id hW
  · have hK2 := FA_K1 hr2.1
    have hE2 := WD_ent hW hr2.1
    have hF2 := FA_okF hW hr2
    have hl2 := hF2.2.1
    refine z_astore dX8_swap_5 (by decide) rfl ?_
    refine z_aload dX8_swap_7 rfl ?_
    refine z_ifnull dX8_swap_9 ?_
    refine z_aload dX8_swap_12 rfl ?_
    refine z_iload_n dX8_swap_14 rfl rfl ?_
    refine z_calls (N := MX8_isLetter) (nas := 2) (as := [_, _]) dX8_swap_15 w_348 w_346 w_347 w_1 (by decide +kernel) rfl rfl (Nat.le_of_ble_eq_true rfl) (by decide) (by decide) (ZC.mono (cMX8_isLetter (by omega) hK2 (by have := hr2.2.1; omega)) ?_)
    rintro _ _ ⟨b15, rfl, rfl, hb15⟩
    rw [hr2.2.1] at hb15
    refine c_if_eq (tgt := 30) dX8_swap_18 (by decide) (by omega) (fun h18 => ?_) (fun h18 => ?_)
    · have g15 := (hb15.resolve_left (fun z => by have := z.1; omega)).2
      clear hb15
      refine c_iconst dX8_swap_30 ?_
      refine c_ireturn dX8_swap_31 rfl ?_
      subst hQ0; unfold aSwap; rw [cif_neg (by omega)]; exact PW_id hW
    · have g15 := (hb15.resolve_right (fun z => by have := z.1; omega)).2
      clear hb15
      refine z_aload dX8_swap_21 rfl ?_
      refine z_iload_n dX8_swap_23 rfl rfl ?_
      refine z_calls (N := MX8_isLetter) (nas := 2) (as := [_, _]) dX8_swap_24 w_348 w_346 w_347 w_1 (by decide +kernel) rfl rfl (Nat.le_of_ble_eq_true rfl) (by decide) (by decide) (ZC.mono (cMX8_isLetter (by omega) hK2 (by have := hr2.2.1; omega)) ?_)
      rintro _ _ ⟨b24, rfl, rfl, hb24⟩
      rw [hr2.2.1] at hb24
      refine c_if_ne (tgt := 32) dX8_swap_27 (by decide) (by omega) (fun h27 => ?_) (fun h27 => ?_)
      · have g24 := (hb24.resolve_right (fun z => by have := z.1; omega)).2
        clear hb24
        have hG := (WD_GF hW hr2.1).2.1
        have hj2 := hr2.2.1
        refine z_aload_n dX8_swap_32 rfl rfl ?_
        refine z_getR (ci := 8) (kf := 6) dX8_swap_33 rfl (by decide) (by decide) rfl w_188 rfl ?_
        refine z_aload dX8_swap_36 rfl ?_
        refine z_callv (N := MX1_load) (ci := 1) (nas := 1) (as := [_]) dX8_swap_38 w_352 w_349 w_350 w_351 w_4 (by decide +kernel) rfl rfl rfl (by decide) (Nat.le_of_ble_eq_true rfl) (by decide) (by decide) (ZC.mono (cMX1_load hK2 hE2.1 hE2.2.1 ⟨hr2.1.1, hE2.2.2.1⟩) ?_)
        rintro _ _ ⟨rfl, rfl⟩
        refine z_aload_n dX8_swap_41 rfl rfl ?_
        refine z_getR (ci := 8) (kf := 6) dX8_swap_42 rfl (by decide) (by decide) rfl w_188 rfl ?_
        refine z_aload dX8_swap_45 rfl ?_
        refine z_iload_n dX8_swap_47 rfl rfl ?_
        refine z_iload_n dX8_swap_48 rfl rfl ?_
        refine z_callv (N := MX1_exchange) (ci := 1) (nas := 3) (as := [_, _, _]) dX8_swap_49 w_406 w_403 w_404 w_405 w_4 (by decide +kernel) rfl rfl rfl (by decide) (Nat.le_of_ble_eq_true rfl) (by decide) (by decide) (ZC.mono (cMX1_exchange hK2 hE2.1 hE2.2.1 ⟨hr2.1.1, hE2.2.2.1⟩ (by omega) (by omega) (by omega) hG.2.1.2.2.1) ?_)
        rintro _ _ ⟨rfl, rfl⟩
        rw [hj2, show dput J (A 44 s.toNat) (swpE (J (ent Rd r2)) (A 44 s.toNat).toNat i.toNat j.toNat) = dput J (A 44 s.toNat) (swpE (eE A s) (A 44 s.toNat).toNat i.toNat j.toNat) from dput_ext (fun q hq => by
          have e := swi_lt (i := i.toNat) (j := j.toNat) (k := q / 4) (m := 4) (by omega) (by omega) (by omega)
          have e2 := swi_lt (i := i.toNat) (j := j.toNat) (k := q % 4) (m := 4) (by omega) (by omega) (by omega)
          unfold swpE; rw [show J (ent Rd r2) q = eE A s q from hr2.2.2 q hq, show J (ent Rd r2) (4 * swi i.toNat j.toNat (q / 4) + swi i.toNat j.toNat (q % 4)) = eE A s (4 * swi i.toNat j.toNat (q / 4) + swi i.toNat j.toNat (q % 4)) from hr2.2.2 _ (by omega)])]
        have hsw := swp_law (i := i.toNat) (j := j.toNat) hF2.1 hF2.2 (by omega) (by omega)
        refine z_aload_n dX8_swap_52 rfl rfl ?_
        refine z_iload_n dX8_swap_53 rfl rfl ?_
        refine z_callv (N := MX8_storeDraft) (ci := 8) (nas := 1) (as := [_]) dX8_swap_54 w_234 w_231 w_233 ws_0 w_1 (by decide +kernel) rfl rfl rfl (by decide) (Nat.le_of_ble_eq_true rfl) (by decide) (by decide) (ZC.mono (cMX8_storeDraft (nl := (A 44 s.toNat)) (E := (swpE (eE A s) (A 44 s.toNat).toNat i.toNat j.toNat)) (by omega) (by omega) (entS_rng hsw.1.2.1.1) hsw.1.2.2.1 hsw.1.2.2.2 hW) ?_)
        rintro _ _ ⟨Kd54, J54, P54, Rd54, n54, s54, rfl, ⟨b54, rfl, hst54⟩, hcJ54, hcP54, hold54⟩
        refine c_if_eq (tgt := 68) dX8_swap_57 (by decide) (by omega) (fun h57 => ?_) (fun h57 => ?_)
        · refine c_bipush dX8_swap_68 (by decide) ?_
          refine c_ireturn dX8_swap_70 rfl ?_
          subst hQ0; unfold aSwap; rw [cif_pos (by omega)]
          rcases hst54 with ⟨z0, z1, z2, z3⟩ | ⟨z0, z1, z2⟩
          · first | (exfalso; omega) | exact ⟨by rw [dput_off (by have := hr2.1.1; omega) (by have := hr2.1.1; omega), (hold54 r2 hr2.1.1 hr2.1.2.1).2, hj2], _, _, _, _, _, _, rfl, WD_dput z2, cs_dput hcJ54, hcP54⟩
          · exact absurd hsw.1.2.1 z1
        · refine z_aload dX8_swap_60 rfl ?_
          refine c_getI (ci := 3) (kf := 0) dX8_swap_62 (by rw [KF_dyn hr2.1.1, (hold54 r2 hr2.1.1 hr2.1.2.1).1, hr2.1.2.2]) (by decide) (by decide) rfl w_280 ?_
          refine z_goto (tgt := 70) dX8_swap_65 (by decide) ?_
          refine c_ireturn dX8_swap_70 rfl ?_
          subst hQ0; unfold aSwap; rw [cif_pos (by omega)]
          rcases hst54 with ⟨z0, z1, z2, z3⟩ | ⟨z0, z1, z2⟩
          · first | (exfalso; omega) | exact ⟨by rw [dput_off (by have := hr2.1.1; omega) (by have := hr2.1.1; omega), (hold54 r2 hr2.1.1 hr2.1.2.1).2, hj2], _, _, _, _, _, _, rfl, WD_dput z2, cs_dput hcJ54, hcP54⟩
          · exact absurd hsw.1.2.1 z1
      · have g24 := (hb24.resolve_left (fun z => by have := z.1; omega)).2
        clear hb24
        refine c_iconst dX8_swap_30 ?_
        refine c_ireturn dX8_swap_31 rfl ?_
        subst hQ0; unfold aSwap; rw [cif_neg (by omega)]; exact PW_id hW
set_option maxHeartbeats 4000000 in
set_option maxRecDepth 100000 in
theorem cMX8_scale {s x : Int} (hs : rI s) (hx : rI x) (hW : WD A c Kd J Rd n s0) : ZC g l MX8_scale [.ref 4, .int (iZ s), .int (iZ x)] (KF Kd, zi J, zj P, RF Rd, n, s0) (PW (aScale A s x).2 (c + 1) J P (.int (iZ (aScale A s x).1))) := by
  refine ZC.of (by decide) (Nat.le_of_ble_eq_true rfl) ?_
  generalize hQ0 : (PW (aScale A s x).2 (c + 1) J P (.int (iZ (aScale A s x).1)) : Option Value → ZH → Prop) = Q0
  show Z g l MX8_scale 0 [some (.ref 4), some (.int (iZ s)), some (.int (iZ x)), none] [] (KF Kd, zi J, zj P, RF Rd, n, s0) Q0
  refine z_aload_n dX8_scale_0 rfl rfl ?_
  refine z_iload_n dX8_scale_1 rfl rfl ?_
  refine z_callv (N := MX8_held) (ci := 8) (nas := 1) (as := [_]) dX8_scale_2 w_333 w_330 w_332 ws_2 w_1 (by decide +kernel) rfl rfl rfl (by decide) (Nat.le_of_ble_eq_true rfl) (by decide) (by decide) (ZC.mono (cMX8_held (by omega) hW) ?_)
  rintro _ _ ⟨rfl, hd2⟩
  rcases hd2 with ⟨hf2, rfl⟩ | ⟨hf2, r2, rfl, hr2⟩
  · skip
    refine z_astore_nN dX8_scale_5 rfl (by decide) rfl ?_
    refine z_aload_nN dX8_scale_6 rfl rfl ?_
    refine z_ifnullN (tgt := 21) dX8_scale_7 (by decide) ?_
    refine c_iconst dX8_scale_21 ?_
    refine c_ireturn dX8_scale_22 rfl ?_
    subst hQ0; unfold aScale; rw [cif_neg (by omega)]; exact PW_id hW
  · have hK2 := FA_K1 hr2.1
    have hE2 := WD_ent hW hr2.1
    have hF2 := FA_okF hW hr2
    have hl2 := hF2.2.1
    refine z_astore_n dX8_scale_5 rfl (by decide) rfl ?_
    refine z_aload_n dX8_scale_6 rfl rfl ?_
    refine z_ifnull dX8_scale_7 ?_
    refine z_iload_n dX8_scale_10 rfl rfl ?_
    refine c_iconst dX8_scale_11 ?_
    refine c_icmp_lt (tgt := 21) dX8_scale_12 (by decide) (by omega) (by omega) (fun h12 => ?_) (fun h12 => ?_)
    · refine c_iconst dX8_scale_21 ?_
      refine c_ireturn dX8_scale_22 rfl ?_
      subst hQ0; unfold aScale; rw [cif_neg (by omega)]; exact PW_id hW
    · refine z_iload_n dX8_scale_15 rfl rfl ?_
      refine c_bipush dX8_scale_16 (by decide) ?_
      refine c_icmp_le (tgt := 23) dX8_scale_18 (by decide) (by omega) (by omega) (fun h18 => ?_) (fun h18 => ?_)
      · refine z_aload_n dX8_scale_23 rfl rfl ?_
        refine z_getR (ci := 8) (kf := 6) dX8_scale_24 rfl (by decide) (by decide) rfl w_188 rfl ?_
        refine z_aload_n dX8_scale_27 rfl rfl ?_
        refine z_callv (N := MX1_load) (ci := 1) (nas := 1) (as := [_]) dX8_scale_28 w_352 w_349 w_350 w_351 w_4 (by decide +kernel) rfl rfl rfl (by decide) (Nat.le_of_ble_eq_true rfl) (by decide) (by decide) (ZC.mono (k_load hW hr2) ?_)
        rintro _ _ ⟨rfl, rfl⟩
        refine z_aload_n dX8_scale_31 rfl rfl ?_
        refine z_getR (ci := 8) (kf := 6) dX8_scale_32 rfl (by decide) (by decide) rfl w_188 rfl ?_
        refine z_iload_n dX8_scale_35 rfl rfl ?_
        refine z_callv (N := MX1_multiply) (ci := 1) (nas := 1) (as := [_]) dX8_scale_36 w_414 w_411 w_412 w_413 w_4 (by decide +kernel) rfl rfl rfl (by decide) (Nat.le_of_ble_eq_true rfl) (by decide) (by decide) (ZC.mono (cMX1_multiply) ?_)
        rintro _ _ ⟨rfl, rfl⟩
        refine z_aload_n dX8_scale_39 rfl rfl ?_
        refine z_iload_n dX8_scale_40 rfl rfl ?_
        refine z_callv (N := MX8_storeDraft) (ci := 8) (nas := 1) (as := [_]) dX8_scale_41 w_234 w_231 w_233 ws_0 w_1 (by decide +kernel) rfl rfl rfl (by decide) (Nat.le_of_ble_eq_true rfl) (by decide) (by decide) (ZC.mono (cMX8_storeDraft (nl := (A 44 s.toNat)) (E := (fun k => eE A s k * x)) (by omega) (by omega) (mul_rng hF2.2.2.1.1 (by omega)) (mul_sym hF2.2.2.2.1) (mul_zero hF2.2.2.2.2) hW) ?_)
        rintro _ _ ⟨Kd41, J41, P41, Rd41, n41, s41, rfl, ⟨b41, rfl, hst41⟩, hcJ41, hcP41, hold41⟩
        refine c_if_eq (tgt := 57) dX8_scale_44 (by decide) (by omega) (fun h44 => ?_) (fun h44 => ?_)
        · refine c_bipush dX8_scale_57 (by decide) ?_
          refine c_ireturn dX8_scale_59 rfl ?_
          subst hQ0; unfold aScale; rw [cif_pos (by omega)]; unfold aComes
          rcases hst41 with ⟨z0, z1, z2, z3⟩ | ⟨z0, z1, z2⟩
          · rw [cif_pos z1]; first | (exfalso; omega) | exact ⟨by rw [dput_26 (by decide), z3], _, _, _, _, _, _, rfl, WD_dput z2, cs_dput hcJ41, hcP41⟩
          · rw [cif_neg z1]; first | (exfalso; omega) | exact ⟨rfl, _, _, _, _, _, _, rfl, WD_dput z2, cs_dput hcJ41, hcP41⟩
        · refine z_aload_n dX8_scale_47 rfl rfl ?_
          refine z_getR (ci := 8) (kf := 6) dX8_scale_48 rfl (by decide) (by decide) rfl w_188 rfl ?_
          refine c_getI (ci := 1) (kf := 2) dX8_scale_51 rfl (by decide) (by decide) rfl w_85 ?_
          refine z_goto (tgt := 59) dX8_scale_54 (by decide) ?_
          refine c_ireturn dX8_scale_59 rfl ?_
          subst hQ0; unfold aScale; rw [cif_pos (by omega)]; unfold aComes
          rcases hst41 with ⟨z0, z1, z2, z3⟩ | ⟨z0, z1, z2⟩
          · rw [cif_pos z1]; first | (exfalso; omega) | exact ⟨by rw [dput_26 (by decide), z3], _, _, _, _, _, _, rfl, WD_dput z2, cs_dput hcJ41, hcP41⟩
          · rw [cif_neg z1]; first | (exfalso; omega) | exact ⟨rfl, _, _, _, _, _, _, rfl, WD_dput z2, cs_dput hcJ41, hcP41⟩
      · refine c_iconst dX8_scale_21 ?_
        refine c_ireturn dX8_scale_22 rfl ?_
        subst hQ0; unfold aScale; rw [cif_neg (by omega)]; exact PW_id hW
end Cls5
