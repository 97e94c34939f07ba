section Cls6
variable {g : ZG} {l : Launch} {Kd : ZK} {Rd : ZR} {n s0 c : Nat} {A J P : Nat → Nat → Int}
theorem joinE_cg {E E' F F' : Nat → Int} {a b q : Nat} (h4 : a + b ≤ 4) (hE : ∀ k, k < 16 → E k = E' k) (hF : ∀ k, k < 16 → F k = F' k) (hq : q < 16) : joinE E F a b q = joinE E' F' a b q := by
  unfold joinE
  by_cases h : a ≤ q / 4 ∧ q / 4 < a + b ∧ a ≤ q % 4 ∧ q % 4 < a + b
  · rw [if_pos h, if_pos h]; exact hF _ (by omega)
  · rw [if_neg h, if_neg h]; exact hE q hq
theorem k_reduceOnce {nl : Int} {E : Nat → Int} (hn : 1 ≤ nl ∧ nl ≤ 4) (hg : gdF nl E) : ZC g l MX1_reduceOnce [.ref 26] (KF Kd, zi (dput J nl E), zj P, RF Rd, n, s0) (fun rr hh => ∃ (b : Int) (E' : Nat → Int), hh = (KF Kd, zi (dput J nl E'), zj P, RF Rd, n, s0) ∧ rr = some (.int (iZ b)) ∧ ((b = 0 ∧ nst nl E < 0 ∧ E' = E) ∨ (b = 1 ∧ 0 ≤ nst nl E ∧ E' = red1 nl E (nst nl E).toNat))) := by
  refine ZC.mono (cMX1_reduceOnce hn hg) ?_
  rintro _ _ (⟨h1, rfl, rfl⟩ | ⟨h1, rfl, rfl⟩)
  · exact ⟨0, E, rfl, rfl, Or.inl ⟨rfl, h1, rfl⟩⟩
  · exact ⟨1, _, rfl, rfl, Or.inr ⟨rfl, h1, rfl⟩⟩
set_option maxHeartbeats 4000000 in
set_option maxRecDepth 100000 in
theorem cMX8_join {s t u : Int} (hs : rI s) (ht : rI t) (hu : rI u) (hW : WD A c Kd J Rd n s0) : ZC g l MX8_join [.ref 4, .int (iZ s), .int (iZ t), .int (iZ u)] (KF Kd, zi J, zj P, RF Rd, n, s0) (PW (aJoin A s t u).2 (c + 1) J P (.int (iZ (aJoin A s t u).1))) := by
  refine ZC.of (by decide) (Nat.le_of_ble_eq_true rfl) ?_
  generalize hQ0 : (PW (aJoin A s t u).2 (c + 1) J P (.int (iZ (aJoin A s t u).1)) : Option Value → ZH → Prop) = Q0
  show Z g l MX8_join 0 [some (.ref 4), some (.int (iZ s)), some (.int (iZ t)), some (.int (iZ u)), none, none, none] [] (KF Kd, zi J, zj P, RF Rd, n, s0) Q0
  refine z_aload_n dX8_join_0 rfl rfl ?_
  refine z_iload_n dX8_join_1 rfl rfl ?_
  refine z_callv (N := MX8_held) (ci := 8) (nas := 1) (as := [_]) dX8_join_2 w_333 w_330 w_332 ws_2 w_1 (by decide +kernel) rfl rfl rfl (by decide) (Nat.le_of_ble_eq_true rfl) (by decide) (by decide) (ZC.mono (cMX8_held (by omega) hW) ?_)
  rintro _ _ ⟨rfl, hd2⟩
  rcases hd2 with ⟨hf2, rfl⟩ | ⟨hf2, r2, rfl, hr2⟩
  · skip
    refine z_astoreN dX8_join_5 (by decide) rfl ?_
    refine z_aload_n dX8_join_7 rfl rfl ?_
    refine z_iload_n dX8_join_8 rfl rfl ?_
    refine z_callv (N := MX8_held) (ci := 8) (nas := 1) (as := [_]) dX8_join_9 w_333 w_330 w_332 ws_2 w_1 (by decide +kernel) rfl rfl rfl (by decide) (Nat.le_of_ble_eq_true rfl) (by decide) (by decide) (ZC.mono (cMX8_held (by omega) hW) ?_)
    rintro _ _ ⟨rfl, hd9⟩
    rcases hd9 with ⟨hf9, rfl⟩ | ⟨hf9, r9, rfl, hr9⟩
    · skip
      refine z_astoreN dX8_join_12 (by decide) rfl ?_
      refine z_aloadN dX8_join_14 rfl ?_
      refine z_ifnullN (tgt := 31) dX8_join_16 (by decide) ?_
      refine c_iconst dX8_join_31 ?_
      refine c_ireturn dX8_join_32 rfl ?_
      subst hQ0; unfold aJoin; rw [cif_neg (by omega)]; exact PW_id hW
    · have hK9 := FA_K1 hr9.1
      have hE9 := WD_ent hW hr9.1
      have hF9 := FA_okF hW hr9
      have hl9 := hF9.2.1
      refine z_astore dX8_join_12 (by decide) rfl ?_
      refine z_aloadN dX8_join_14 rfl ?_
      refine z_ifnullN (tgt := 31) dX8_join_16 (by decide) ?_
      refine c_iconst dX8_join_31 ?_
      refine c_ireturn dX8_join_32 rfl ?_
      subst hQ0; unfold aJoin; rw [cif_neg (by omega)]; exact PW_id hW
  · have hK2 := FA_K1 hr2.1
    have hE2 := WD_ent hW hr2.1
    have hF2 := FA_okF hW hr2
    have hl2 := hF2.2.1
    refine z_astore dX8_join_5 (by decide) rfl ?_
    refine z_aload_n dX8_join_7 rfl rfl ?_
    refine z_iload_n dX8_join_8 rfl rfl ?_
    refine z_callv (N := MX8_held) (ci := 8) (nas := 1) (as := [_]) dX8_join_9 w_333 w_330 w_332 ws_2 w_1 (by decide +kernel) rfl rfl rfl (by decide) (Nat.le_of_ble_eq_true rfl) (by decide) (by decide) (ZC.mono (cMX8_held (by omega) hW) ?_)
    rintro _ _ ⟨rfl, hd9⟩
    rcases hd9 with ⟨hf9, rfl⟩ | ⟨hf9, r9, rfl, hr9⟩
    · skip
      refine z_astoreN dX8_join_12 (by decide) rfl ?_
      refine z_aload dX8_join_14 rfl ?_
      refine z_ifnull dX8_join_16 ?_
      refine z_aloadN dX8_join_19 rfl ?_
      refine z_ifnullN (tgt := 31) dX8_join_21 (by decide) ?_
      refine c_iconst dX8_join_31 ?_
      refine c_ireturn dX8_join_32 rfl ?_
      subst hQ0; unfold aJoin; rw [cif_neg (by omega)]; exact PW_id hW
    · have hK9 := FA_K1 hr9.1
      have hE9 := WD_ent hW hr9.1
      have hF9 := FA_okF hW hr9
      have hl9 := hF9.2.1
      refine z_astore dX8_join_12 (by decide) rfl ?_
      refine z_aload dX8_join_14 rfl ?_
      refine z_ifnull dX8_join_16 ?_
      refine z_aload dX8_join_19 rfl ?_
      refine z_ifnull dX8_join_21 ?_
      refine z_iload_n dX8_join_24 rfl rfl ?_
      refine z_calls (N := MX8_isSlot) (nas := 1) (as := [_]) dX8_join_25 w_219 w_217 w_218 w_1 (by decide +kernel) rfl rfl (Nat.le_of_ble_eq_true rfl) (by decide) (by decide) (ZC.mono (cMX8_isSlot (by omega)) ?_)
      rintro _ _ ⟨b25, rfl, rfl, hb25⟩
      refine c_if_ne (tgt := 33) dX8_join_28 (by decide) (by omega) (fun h28 => ?_) (fun h28 => ?_)
      · have g25 := (hb25.resolve_right (fun z => by have := z.1; omega)).2
        clear hb25
        have hj2 := hr2.2.1
        have hj9 := hr9.2.1
        have hG2 := (WD_GF hW hr2.1).2.1
        have hG9 := (WD_GF hW hr9.1).2.1
        refine z_aload dX8_join_33 rfl ?_
        refine c_getI (ci := 3) (kf := 0) dX8_join_35 hK2 (by decide) (by decide) rfl w_280 ?_
        refine z_aload dX8_join_38 rfl ?_
        refine c_getI (ci := 3) (kf := 0) dX8_join_40 hK9 (by decide) (by decide) rfl w_280 ?_
        refine c_iadd dX8_join_43 ?_
        rw [hj2, hj9]
        refine z_istore dX8_join_44 (by decide) rfl ?_
        refine z_iload dX8_join_46 rfl ?_
        refine c_iconst dX8_join_48 ?_
        refine c_icmp_le (tgt := 55) dX8_join_49 (by decide) (by omega) (by omega) (fun h49 => ?_) (fun h49 => ?_)
        · refine z_aload_n dX8_join_55 rfl rfl ?_
          refine z_getR (ci := 8) (kf := 6) dX8_join_56 rfl (by decide) (by decide) rfl w_188 rfl ?_
          refine z_iload dX8_join_59 rfl ?_
          refine z_callv (N := MX1_begin) (ci := 1) (nas := 1) (as := [_]) dX8_join_61 w_223 w_220 w_221 w_222 w_4 (by decide +kernel) rfl rfl rfl (by decide) (Nat.le_of_ble_eq_true rfl) (by decide) (by decide) (ZC.mono (cMX1_begin) ?_)
          rintro _ _ ⟨rfl, rfl⟩
          refine z_aload_n dX8_join_64 rfl rfl ?_
          refine z_getR (ci := 8) (kf := 6) dX8_join_65 rfl (by decide) (by decide) rfl w_188 rfl ?_
          refine z_aload dX8_join_68 rfl ?_
          refine c_iconst dX8_join_70 ?_
          refine z_callv (N := MX1_paste) (ci := 1) (nas := 2) (as := [_, _]) dX8_join_71 w_422 w_419 w_420 w_421 w_4 (by decide +kernel) rfl rfl rfl (by decide) (Nat.le_of_ble_eq_true rfl) (by decide) (by decide) (ZC.mono (cMX1_paste (a := 0) hK2 hE2.1 hE2.2.1 ⟨hr2.1.1, hE2.2.2.1⟩ (by omega) hG2.2.1.2.2.1) ?_)
          rintro _ _ ⟨rfl, rfl⟩
          rw [hj2, show dput J ((A 44 s.toNat) + (A 44 t.toNat)) (joinE (fun _ => 0) (J (ent Rd r2)) (0 : Int).toNat (A 44 s.toNat).toNat) = dput J ((A 44 s.toNat) + (A 44 t.toNat)) (eE A s) from dput_ext (fun q hq => (joinE_cg (by have h0 : (0 : Int).toNat = 0 := rfl; omega) (fun _ _ => rfl) (fun k hk => hr2.2.2 k hk) hq).trans (zero_join hF2.2.2.2.2 (by omega) q hq))]
          refine z_aload_n dX8_join_74 rfl rfl ?_
          refine z_getR (ci := 8) (kf := 6) dX8_join_75 rfl (by decide) (by decide) rfl w_188 rfl ?_
          refine z_aload dX8_join_78 rfl ?_
          refine z_aload dX8_join_80 rfl ?_
          refine c_getI (ci := 3) (kf := 0) dX8_join_82 hK2 (by decide) (by decide) rfl w_280 ?_
          rw [dput_off (by have := hr2.1.1; omega) (by have := hr2.1.1; omega), hj2]
          refine z_callv (N := MX1_paste) (ci := 1) (nas := 2) (as := [_, _]) dX8_join_85 w_422 w_419 w_420 w_421 w_4 (by decide +kernel) rfl rfl rfl (by decide) (Nat.le_of_ble_eq_true rfl) (by decide) (by decide) (ZC.mono (cMX1_paste (J := J) (E := eE A s) hK9 hE9.1 hE9.2.1 ⟨hr9.1.1, hE9.2.2.1⟩ (by omega) hG9.2.1.2.2.1) ?_)
          rintro _ _ ⟨rfl, rfl⟩
          rw [hj9, show dput J ((A 44 s.toNat) + (A 44 t.toNat)) (joinE (eE A s) (J (ent Rd r9)) (A 44 s.toNat).toNat (A 44 t.toNat).toNat) = dput J ((A 44 s.toNat) + (A 44 t.toNat)) (joinE (eE A s) (eE A t) (A 44 s.toNat).toNat (A 44 t.toNat).toNat) from dput_ext (fun q hq => joinE_cg (by omega) (fun _ _ => rfl) (fun k hk => hr9.2.2 k hk) hq)]
          have hEj : entS (joinE (eE A s) (eE A t) (A 44 s.toNat).toNat (A 44 t.toNat).toNat) := fun q hq => by
            unfold joinE; split; exact hF9.2.2.1.1 _ (by omega); exact hF2.2.2.1.1 q hq
          refine z_aload_n dX8_join_88 rfl rfl ?_
          refine z_iload_n dX8_join_89 rfl rfl ?_
          refine z_callv (N := MX8_storeDraft) (ci := 8) (nas := 1) (as := [_]) dX8_join_90 w_234 w_231 w_233 ws_0 w_1 (by decide +kernel) rfl rfl rfl (by decide) (Nat.le_of_ble_eq_true rfl) (by decide) (by decide) (ZC.mono (cMX8_storeDraft (nl := ((A 44 s.toNat) + (A 44 t.toNat))) (E := (joinE (eE A s) (eE A t) (A 44 s.toNat).toNat (A 44 t.toNat).toNat)) (by omega) (by omega) (entS_rng hEj) (joinE_sym hF2.2.2.2.1 hF9.2.2.2.1) (joinE_zero (by omega) hF2.2.2.2.2) hW) ?_)
          rintro _ _ ⟨Kd90, J90, P90, Rd90, n90, s90, rfl, ⟨b90, rfl, hst90⟩, hcJ90, hcP90, hold90⟩
          refine c_if_eq (tgt := 101) dX8_join_93 (by decide) (by omega) (fun h93 => ?_) (fun h93 => ?_)
          · refine c_bipush dX8_join_101 (by decide) ?_
            refine c_ireturn dX8_join_103 rfl ?_
            subst hQ0; unfold aJoin; rw [cif_pos (by omega), cif_pos (by omega)]; unfold aComes
            rcases hst90 with ⟨z0, z1, z2, z3⟩ | ⟨z0, z1, z2⟩
            · rw [cif_pos z1]; first | (exfalso; omega) | exact ⟨rfl, _, _, _, _, _, _, rfl, WD_dput z2, cs_dput hcJ90, hcP90⟩
            · rw [cif_neg z1]; first | (exfalso; omega) | exact ⟨rfl, _, _, _, _, _, _, rfl, WD_dput z2, cs_dput hcJ90, hcP90⟩
          · refine z_iload dX8_join_96 rfl ?_
            refine z_goto (tgt := 103) dX8_join_98 (by decide) ?_
            refine c_ireturn dX8_join_103 rfl ?_
            subst hQ0; unfold aJoin; rw [cif_pos (by omega), cif_pos (by omega)]; unfold aComes
            rcases hst90 with ⟨z0, z1, z2, z3⟩ | ⟨z0, z1, z2⟩
            · rw [cif_pos z1]; first | (exfalso; omega) | exact ⟨rfl, _, _, _, _, _, _, rfl, WD_dput z2, cs_dput hcJ90, hcP90⟩
            · rw [cif_neg z1]; first | (exfalso; omega) | exact ⟨rfl, _, _, _, _, _, _, rfl, WD_dput z2, cs_dput hcJ90, hcP90⟩
        · refine c_bipush dX8_join_52 (by decide) ?_
          refine c_ireturn dX8_join_54 rfl ?_
          subst hQ0; unfold aJoin; rw [cif_pos (by omega), cif_neg (by omega)]; exact PW_id hW
      · have g25 := (hb25.resolve_left (fun z => by have := z.1; omega)).2
        clear hb25
        refine c_iconst dX8_join_31 ?_
        refine c_ireturn dX8_join_32 rfl ?_
        subst hQ0; unfold aJoin; rw [cif_neg (by omega)]; exact PW_id hW
set_option maxHeartbeats 4000000 in
set_option maxRecDepth 100000 in
theorem cMX8_reduce {s : Int} (hs : rI s) (hW : WD A c Kd J Rd n s0) : ZC g l MX8_reduce [.ref 4, .int (iZ s)] (KF Kd, zi J, zj P, RF Rd, n, s0) (PW (aReduce A s).2 (c + 1) J P (.int (iZ (aReduce A s).1))) := by
  refine ZC.of (by decide) (Nat.le_of_ble_eq_true rfl) ?_
  generalize hQ0 : (PW (aReduce A s).2 (c + 1) J P (.int (iZ (aReduce A s).1)) : Option Value → ZH → Prop) = Q0
  show Z g l MX8_reduce 0 [some (.ref 4), some (.int (iZ s)), none, none] [] (KF Kd, zi J, zj P, RF Rd, n, s0) Q0
  refine z_aload_n dX8_reduce_0 rfl rfl ?_
  refine z_iload_n dX8_reduce_1 rfl rfl ?_
  refine z_callv (N := MX8_held) (ci := 8) (nas := 1) (as := [_]) dX8_reduce_2 w_333 w_330 w_332 ws_2 w_1 (by decide +kernel) rfl rfl rfl (by decide) (Nat.le_of_ble_eq_true rfl) (by decide) (by decide) (ZC.mono (cMX8_held (by omega) hW) ?_)
  rintro _ _ ⟨rfl, hd2⟩
  rcases hd2 with ⟨hf2, rfl⟩ | ⟨hf2, r2, rfl, hr2⟩
  · skip
    refine z_astore_nN dX8_reduce_5 rfl (by decide) rfl ?_
    refine z_aload_nN dX8_reduce_6 rfl rfl ?_
    refine z_ifnonnullN dX8_reduce_7 ?_
    refine c_iconst dX8_reduce_10 ?_
    refine c_ireturn dX8_reduce_11 rfl ?_
    subst hQ0; unfold aReduce; rw [cif_neg (by omega)]; exact PW_id hW
  · have hK2 := FA_K1 hr2.1
    have hE2 := WD_ent hW hr2.1
    have hF2 := FA_okF hW hr2
    have hl2 := hF2.2.1
    refine z_astore_n dX8_reduce_5 rfl (by decide) rfl ?_
    refine z_aload_n dX8_reduce_6 rfl rfl ?_
    refine z_ifnonnull (tgt := 12) dX8_reduce_7 (by decide) ?_
    have hgd : gdF (A 44 s.toNat) (eE A s) := gdF_of hF2.1 hF2.2
    have hdd := (gdF_diag hF2.1 hl2 hgd).2
    refine z_aload_n dX8_reduce_12 rfl rfl ?_
    refine z_getR (ci := 8) (kf := 6) dX8_reduce_13 rfl (by decide) (by decide) rfl w_188 rfl ?_
    refine z_aload_n dX8_reduce_16 rfl rfl ?_
    refine z_callv (N := MX1_load) (ci := 1) (nas := 1) (as := [_]) dX8_reduce_17 w_352 w_349 w_350 w_351 w_4 (by decide +kernel) rfl rfl rfl (by decide) (Nat.le_of_ble_eq_true rfl) (by decide) (by decide) (ZC.mono (k_load hW hr2) ?_)
    rintro _ _ ⟨rfl, rfl⟩
    refine c_iconst dX8_reduce_20 ?_
    refine z_istore_n dX8_reduce_21 rfl (by decide) rfl ?_
    have L22 : ∀ (m22 : Nat), ∀ (st : Int) (E1 : Nat → Int) (f : Nat), ((f : Int)).toNat = m22 → (0 ≤ st ∧ st + f ≤ 400) → (gdF (A 44 s.toNat) E1) → (dsum E1 ≤ f) → (redS (A 44 s.toNat) 400 (eE A s) = (st + (redS (A 44 s.toNat) f E1).1, (redS (A 44 s.toNat) f E1).2)) → Z g l MX8_reduce 22 [some (.ref 4), some (.int (iZ s)), some (.ref r2), some (.int (iZ st))] [] (KF Kd, zi (dput J (A 44 s.toNat) E1), zj P, RF Rd, n, s0) Q0 := by
      intro m22
      induction m22 using Nat.strongRecOn with
      | ind m22 ih22 =>
        intro st E1 f hm22 hst hg hf hR
        refine z_iload_n dX8_reduce_22 rfl rfl ?_
        refine c_ldc (z := 4000000) dX8_reduce_23 w_427 (by decide) ?_
        refine c_icmp_ge (tgt := 44) dX8_reduce_25 (by decide) (by omega) (by omega) (fun h25 => ?_) (fun h25 => ?_)
        · exact absurd h25 (by omega)
        · refine z_aload_n dX8_reduce_28 rfl rfl ?_
          refine z_getR (ci := 8) (kf := 6) dX8_reduce_29 rfl (by decide) (by decide) rfl w_188 rfl ?_
          refine z_callv (N := MX1_reduceOnce) (ci := 1) (nas := 0) (as := []) dX8_reduce_32 w_431 w_428 w_429 w_430 w_4 (by decide +kernel) rfl rfl rfl (by decide) (Nat.le_of_ble_eq_true rfl) (by decide) (by decide) (ZC.mono (k_reduceOnce (by omega) hg) ?_)
          rintro _ _ ⟨b32, E32, rfl, rfl, hro32⟩
          refine c_if_eq (tgt := 44) dX8_reduce_35 (by decide) (by omega) (fun h35 => ?_) (fun h35 => ?_)
          · obtain ⟨hb0, hnn, hEE⟩ := hro32.resolve_right (fun z => by have := z.1; omega)
            rw [hEE]
            refine z_aload_n dX8_reduce_44 rfl rfl ?_
            refine z_iload_n dX8_reduce_45 rfl rfl ?_
            refine z_callv (N := MX8_storeDraft) (ci := 8) (nas := 1) (as := [_]) dX8_reduce_46 w_234 w_231 w_233 ws_0 w_1 (by decide +kernel) rfl rfl rfl (by decide) (Nat.le_of_ble_eq_true rfl) (by decide) (by decide) (ZC.mono (cMX8_storeDraft (nl := (A 44 s.toNat)) (E := E1) (by omega) (by omega) (entS_rng hg.1) hg.2.1 hg.2.2.1 hW) ?_)
            rintro _ _ ⟨Kd46, J46, P46, Rd46, n46, s46, rfl, ⟨b46, rfl, hst46⟩, hcJ46, hcP46, hold46⟩
            refine c_if_eq (tgt := 56) dX8_reduce_49 (by decide) (by omega) (fun h49 => ?_) (fun h49 => ?_)
            · refine c_bipush dX8_reduce_56 (by decide) ?_
              refine c_ireturn dX8_reduce_58 rfl ?_
              subst hQ0; unfold aReduce; rw [cif_pos (by omega)]
              have hE0 : redS (A 44 s.toNat) f E1 = (0, E1) := by
                cases f with
                | zero => rfl
                | succ f => rw [redS, cif_pos hnn]
              rw [hR, hE0]; dsimp only; unfold aComes
              rcases hst46 with ⟨z0, z1, z2, z3⟩ | ⟨z0, z1, z2⟩
              · rw [cif_pos z1]; first | (exfalso; omega) | exact ⟨by rw [Int.add_zero], _, _, _, _, _, _, rfl, WD_dput z2, cs_dput hcJ46, hcP46⟩
              · rw [cif_neg z1]; first | (exfalso; omega) | exact ⟨rfl, _, _, _, _, _, _, rfl, WD_dput z2, cs_dput hcJ46, hcP46⟩
            · refine z_iload_n dX8_reduce_52 rfl rfl ?_
              refine z_goto (tgt := 58) dX8_reduce_53 (by decide) ?_
              refine c_ireturn dX8_reduce_58 rfl ?_
              subst hQ0; unfold aReduce; rw [cif_pos (by omega)]
              have hE0 : redS (A 44 s.toNat) f E1 = (0, E1) := by
                cases f with
                | zero => rfl
                | succ f => rw [redS, cif_pos hnn]
              rw [hR, hE0]; dsimp only; unfold aComes
              rcases hst46 with ⟨z0, z1, z2, z3⟩ | ⟨z0, z1, z2⟩
              · rw [cif_pos z1]; first | (exfalso; omega) | exact ⟨by rw [Int.add_zero], _, _, _, _, _, _, rfl, WD_dput z2, cs_dput hcJ46, hcP46⟩
              · rw [cif_neg z1]; first | (exfalso; omega) | exact ⟨rfl, _, _, _, _, _, _, rfl, WD_dput z2, cs_dput hcJ46, hcP46⟩
          · obtain ⟨hb0, hnn, rfl⟩ := hro32.resolve_left (fun z => by have := z.1; omega)
            have hsp := nstD_spec (A 44 s.toNat) E1 16 (by omega)
            have hq : nst (A 44 s.toNat) E1 < 16 ∧ stepB (A 44 s.toNat) E1 (nst (A 44 s.toNat) E1).toNat := by
              unfold nst at *
              rcases hsp with sp | sp
              · omega
              · exact sp.2
            have hst := red_step (by omega) (by omega) hg (q := (nst (A 44 s.toNat) E1).toNat) (by omega) hq.2
            have hd := gdF_diag (by omega) (by omega) hg
            refine c_iinc dX8_reduce_38 rfl (by decide) rfl ?_
            refine z_goto (tgt := 22) dX8_reduce_41 (by decide) ?_
            exact Z.fg2 (ih22 _ (by omega) _ _ (f - 1) rfl (by omega) hst.1 (by have := hst.2.1; omega) (by obtain ⟨f2, rfl⟩ : ∃ f2, f = f2 + 1 := ⟨f - 1, by omega⟩; rw [hR, redS, cif_neg (by omega), Nat.add_sub_cancel]; dsimp only; rw [show ∀ a b : Int, a + (b + 1) = a + 1 + b from fun a b => by omega])) (zs1 rfl (zs1 rfl (zs1 rfl (zs1 rfl zs0))))
    exact Z.fg2 (L22 _ 0 _ 400 rfl (by omega) hgd (by omega) (by rw [Int.zero_add])) (zs1 rfl (zs1 rfl (zs1 rfl (zs1 rfl zs0))))
set_option maxHeartbeats 4000000 in
set_option maxRecDepth 100000 in
theorem cMX8_same {s t : Int} (hs : rI s) (ht : rI t) (hW : WD A c Kd J Rd n s0) : ZC g l MX8_same [.ref 4, .int (iZ s), .int (iZ t)] (KF Kd, zi J, zj P, RF Rd, n, s0) (PW A (c + 1) J P (.int (iZ (aSame A s t)))) := by
  refine ZC.of (by decide) (Nat.le_of_ble_eq_true rfl) ?_
  generalize hQ0 : (PW A (c + 1) J P (.int (iZ (aSame A s t))) : Option Value → ZH → Prop) = Q0
  show Z g l MX8_same 0 [some (.ref 4), some (.int (iZ s)), some (.int (iZ t)), none, none, none] [] (KF Kd, zi J, zj P, RF Rd, n, s0) Q0
  refine z_aload_n dX8_same_0 rfl rfl ?_
  refine z_iload_n dX8_same_1 rfl rfl ?_
  refine z_callv (N := MX8_held) (ci := 8) (nas := 1) (as := [_]) dX8_same_2 w_333 w_330 w_332 ws_2 w_1 (by decide +kernel) rfl rfl rfl (by decide) (Nat.le_of_ble_eq_true rfl) (by decide) (by decide) (ZC.mono (cMX8_held (by omega) hW) ?_)
  rintro _ _ ⟨rfl, hd2⟩
  rcases hd2 with ⟨hf2, rfl⟩ | ⟨hf2, r2, rfl, hr2⟩
  · skip
    refine z_astore_nN dX8_same_5 rfl (by decide) rfl ?_
    refine z_aload_n dX8_same_6 rfl rfl ?_
    refine z_iload_n dX8_same_7 rfl rfl ?_
    refine z_callv (N := MX8_held) (ci := 8) (nas := 1) (as := [_]) dX8_same_8 w_333 w_330 w_332 ws_2 w_1 (by decide +kernel) rfl rfl rfl (by decide) (Nat.le_of_ble_eq_true rfl) (by decide) (by decide) (ZC.mono (cMX8_held (by omega) hW) ?_)
    rintro _ _ ⟨rfl, hd8⟩
    rcases hd8 with ⟨hf8, rfl⟩ | ⟨hf8, r8, rfl, hr8⟩
    · skip
      refine z_astoreN dX8_same_11 (by decide) rfl ?_
      refine z_aload_nN dX8_same_13 rfl rfl ?_
      refine z_ifnullN (tgt := 22) dX8_same_14 (by decide) ?_
      refine c_iconst dX8_same_22 ?_
      refine c_ireturn dX8_same_23 rfl ?_
      subst hQ0; unfold aSame; rw [cif_neg (by omega)]; exact PW_id hW
    · have hK8 := FA_K1 hr8.1
      have hE8 := WD_ent hW hr8.1
      have hF8 := FA_okF hW hr8
      have hl8 := hF8.2.1
      refine z_astore dX8_same_11 (by decide) rfl ?_
      refine z_aload_nN dX8_same_13 rfl rfl ?_
      refine z_ifnullN (tgt := 22) dX8_same_14 (by decide) ?_
      refine c_iconst dX8_same_22 ?_
      refine c_ireturn dX8_same_23 rfl ?_
      subst hQ0; unfold aSame; rw [cif_neg (by omega)]; exact PW_id hW
  · have hK2 := FA_K1 hr2.1
    have hE2 := WD_ent hW hr2.1
    have hF2 := FA_okF hW hr2
    have hl2 := hF2.2.1
    refine z_astore_n dX8_same_5 rfl (by decide) rfl ?_
    refine z_aload_n dX8_same_6 rfl rfl ?_
    refine z_iload_n dX8_same_7 rfl rfl ?_
    refine z_callv (N := MX8_held) (ci := 8) (nas := 1) (as := [_]) dX8_same_8 w_333 w_330 w_332 ws_2 w_1 (by decide +kernel) rfl rfl rfl (by decide) (Nat.le_of_ble_eq_true rfl) (by decide) (by decide) (ZC.mono (cMX8_held (by omega) hW) ?_)
    rintro _ _ ⟨rfl, hd8⟩
    rcases hd8 with ⟨hf8, rfl⟩ | ⟨hf8, r8, rfl, hr8⟩
    · skip
      refine z_astoreN dX8_same_11 (by decide) rfl ?_
      refine z_aload_n dX8_same_13 rfl rfl ?_
      refine z_ifnull dX8_same_14 ?_
      refine z_aloadN dX8_same_17 rfl ?_
      refine z_ifnonnullN dX8_same_19 ?_
      refine c_iconst dX8_same_22 ?_
      refine c_ireturn dX8_same_23 rfl ?_
      subst hQ0; unfold aSame; rw [cif_neg (by omega)]; exact PW_id hW
    · have hK8 := FA_K1 hr8.1
      have hE8 := WD_ent hW hr8.1
      have hF8 := FA_okF hW hr8
      have hl8 := hF8.2.1
      refine z_astore dX8_same_11 (by decide) rfl ?_
      refine z_aload_n dX8_same_13 rfl rfl ?_
      refine z_ifnull dX8_same_14 ?_
      refine z_aload dX8_same_17 rfl ?_
      refine z_ifnonnull (tgt := 24) dX8_same_19 (by decide) ?_
      have hj2 := hr2.2.1
      have hj8 := hr8.2.1
      refine z_aload_n dX8_same_24 rfl rfl ?_
      refine c_getI (ci := 3) (kf := 0) dX8_same_25 hK2 (by decide) (by decide) rfl w_280 ?_
      refine z_aload dX8_same_28 rfl ?_
      refine c_getI (ci := 3) (kf := 0) dX8_same_30 hK8 (by decide) (by decide) rfl w_280 ?_
      rw [hj2, hj8]
      refine c_icmp_eq (tgt := 38) dX8_same_33 (by decide) (by omega) (by omega) (fun h33 => ?_) (fun h33 => ?_)
      · refine c_iconst dX8_same_38 ?_
        refine z_istore dX8_same_39 (by decide) rfl ?_
        have L41 : ∀ (m41 : Nat), ∀ (i : Int), (16 - i).toNat = m41 → (0 ≤ i ∧ i ≤ 16) → (∀ q : Nat, (q : Int) < i → eE A s q = eE A t q) → Z g l MX8_same 41 [some (.ref 4), some (.int (iZ s)), some (.int (iZ t)), some (.ref r2), some (.ref r8), some (.int (iZ i))] [] (KF Kd, zi J, zj P, RF Rd, n, s0) Q0 := by
          intro m41
          induction m41 using Nat.strongRecOn with
          | ind m41 ih41 =>
            intro i hm41 hi hS
            refine z_iload dX8_same_41 rfl ?_
            refine c_bipush dX8_same_43 (by decide) ?_
            refine c_icmp_ge (tgt := 74) dX8_same_45 (by decide) (by omega) (by omega) (fun h45 => ?_) (fun h45 => ?_)
            · refine c_iconst dX8_same_74 ?_
              refine c_ireturn dX8_same_75 rfl ?_
              subst hQ0; unfold aSame; rw [cif_pos (by omega), cif_pos ⟨by omega, fun k hk => hS k (by omega)⟩]; exact PW_id hW
            · refine z_aload_n dX8_same_48 rfl rfl ?_
              refine z_getR (ci := 3) (kf := 1) dX8_same_49 hK2 (by decide) (by decide) rfl w_286 hE2.1 ?_
              refine z_iload dX8_same_52 rfl ?_
              refine c_iald dX8_same_54 hE2.2.1 (by omega) (by decide) ?_
              rw [show J (ent Rd r2) i.toNat = eE A s i.toNat from hr2.2.2 _ (by omega)]
              have e1 := hF2.2.2.1.1 i.toNat (by omega)
              have e1 : -99 ≤ eE A s i.toNat ∧ eE A s i.toNat ≤ 99 := e1
              refine z_aload dX8_same_55 rfl ?_
              refine z_getR (ci := 3) (kf := 1) dX8_same_57 hK8 (by decide) (by decide) rfl w_286 hE8.1 ?_
              refine z_iload dX8_same_60 rfl ?_
              refine c_iald dX8_same_62 hE8.2.1 (by omega) (by decide) ?_
              rw [show J (ent Rd r8) i.toNat = eE A t i.toNat from hr8.2.2 _ (by omega)]
              have e2 : -99 ≤ eE A t i.toNat ∧ eE A t i.toNat ≤ 99 := hF8.2.2.1.1 i.toNat (by omega)
              refine c_icmp_eq (tgt := 68) dX8_same_63 (by decide) (by omega) (by omega) (fun h63 => ?_) (fun h63 => ?_)
              · refine c_iinc dX8_same_68 rfl (by decide) rfl ?_
                refine z_goto (tgt := 41) dX8_same_71 (by decide) ?_
                exact Z.fg2 (ih41 _ (by omega) _ rfl (by omega) (fun q hq => by by_cases hqk : (q : Int) < i; exact hS q hqk; (rw [show q = i.toNat by omega]; omega))) (zs1 rfl (zs1 rfl (zs1 rfl (zs1 rfl (zs1 rfl (zs1 rfl zs0))))))
              · refine c_iconst dX8_same_66 ?_
                refine c_ireturn dX8_same_67 rfl ?_
                subst hQ0; unfold aSame; rw [cif_pos (by omega), cif_neg (fun z => by have := z.2 i.toNat (by omega); omega)]; exact PW_id hW
        exact Z.fg2 (L41 _ _ rfl (by omega) (fun q hq => absurd hq (by omega))) (zs1 rfl (zs1 rfl (zs1 rfl (zs1 rfl (zs1 rfl (zs1 rfl zs0))))))
      · refine c_iconst dX8_same_36 ?_
        refine c_ireturn dX8_same_37 rfl ?_
        subst hQ0; unfold aSame; rw [cif_pos (by omega), cif_neg (fun z => by omega)]; exact PW_id hW
theorem SH_of {A' J' : Nat → Nat → Int} {t : Nat} (ht : t < 4) (h : SH A J) (hA : ∀ q, q ≠ t → A' 63 q = A 63 q ∧ A' 64 q = A 64 q) (hA2 : ∀ q, ¬ (40 * t ≤ q ∧ q < 40 * t + 40) → A' 65 q = A 65 q) (hJ : ∀ a, a ≠ 18 + 2 * t → a ≠ 19 + 2 * t → J' a = J a) (hn : J' (18 + 2 * t) 0 = A' 63 t ∧ J' (18 + 2 * t) 1 = A' 64 t ∧ ∀ i, i < 40 → J' (19 + 2 * t) i = A' 65 (40 * t + i)) : SH A' J' := by
  intro q hq
  by_cases e : q = t
  · subst e; exact hn
  · have h1 := h q hq
    rw [hJ _ (by omega) (by omega), hJ _ (by omega) (by omega), (hA q e).1, (hA q e).2]
    refine ⟨h1.1, h1.2.1, fun i hi => ?_⟩
    rw [hA2 _ (by omega)]; exact h1.2.2 i hi
theorem okS_up {t i : Nat} {v : Int} (h : okS A) (hv : rI v) : okS (zup A 65 i v) := by
  refine ⟨fun q hq => ?_, fun q hq => ?_⟩
  · rw [zzr (by decide), zzr (by decide)]; exact h.1 q hq
  · by_cases e : q = i
    · subst e; rw [zz]; exact hv
    · rw [zzi e]; exact h.2 q hq
theorem lowS_rI {so v : Int} (h : rI v) : rI (lowS so v) := by
  unfold lowS; split
  · have := Int.bmod_lt (x := v) (m := 256) (by decide)
    have := Int.le_bmod (x := v) (m := 256) (by decide)
    omega
  · exact h
theorem WD_become {t : Nat} {so k : Int} (hW : WD A c Kd J Rd n s0) (ht : t < 4) (hso : so = -1 ∨ so = 0 ∨ so = 1) (hk : 0 ≤ k ∧ k ≤ 40) (hm : so = -1 → k = 0) : WD (jsheet A t so k) c Kd (fun b q => if b = 19 + 2 * t ∧ q < 40 then 0 else zup (zup J (18 + 2 * t) 0 so) (18 + 2 * t) 1 k b q) Rd n s0 := by
  have ho := hW.2.2.2.1.2.2
  have e63 : ∀ q, jsheet A t so k 63 q = if q = t then so else A 63 q := fun q => by
    unfold jsheet; by_cases e : q = t
    · rw [if_pos ⟨rfl, e⟩, if_pos e]
    · rw [if_neg (by omega), if_neg (by omega), if_neg (by omega), if_neg e]
  have e64 : ∀ q, jsheet A t so k 64 q = if q = t then k else A 64 q := fun q => by
    unfold jsheet; by_cases e : q = t
    · rw [if_neg (by omega), if_pos ⟨rfl, e⟩, if_pos e]
    · rw [if_neg (by omega), if_neg (by omega), if_neg (by omega), if_neg e]
  have e65 : ∀ q, jsheet A t so k 65 q = if 40 * t ≤ q ∧ q < 40 * t + 40 then 0 else A 65 q := fun q => by
    unfold jsheet; rw [if_neg (by omega), if_neg (by omega)]; exact ifc (by omega)
  refine WD_sheets hW (fun a a1 a2 a3 => ?_) (fun a ha => ?_) ?_ ⟨fun q hq => ?_, fun q hq => ?_⟩
  · funext q; unfold jsheet; rw [if_neg (by omega), if_neg (by omega), if_neg (by omega)]
  · funext q; show (if a = 19 + 2 * t ∧ q < 40 then 0 else _) = _; rw [if_neg (by omega), zzr (by omega), zzr (by omega)]
  · refine SH_of ht hW.2.2.1.2.2.2.2.2.2 (fun q hq => ⟨by rw [e63, if_neg hq], by rw [e64, if_neg hq]⟩) (fun q hq => by rw [e65, if_neg hq]) (fun a a1 a2 => ?_) ⟨?_, ?_, fun i hi => ?_⟩
    · funext q; show (if a = 19 + 2 * t ∧ q < 40 then 0 else _) = _; rw [if_neg (by omega), zzr a1, zzr a1]
    · rw [e63, if_pos rfl]; show (if 18 + 2 * t = 19 + 2 * t ∧ 0 < 40 then 0 else _) = _; rw [if_neg (by omega), zzi (by decide), zz]
    · rw [e64, if_pos rfl]; show (if 18 + 2 * t = 19 + 2 * t ∧ 1 < 40 then 0 else _) = _; rw [if_neg (by omega), zz]
    · show (if 19 + 2 * t = 19 + 2 * t ∧ i < 40 then (0 : Int) else _) = _; rw [if_pos ⟨rfl, hi⟩, e65, if_pos (by omega)]
  · have h1 := ho.1 q hq
    rw [e63, e64]
    by_cases e : q = t
    · rw [if_pos e, if_pos e]; omega
    · rw [if_neg e, if_neg e]; exact h1
  · have h1 := ho.2 q hq
    rw [e65]; split <;> omega
set_option maxHeartbeats 4000000 in
set_option maxRecDepth 100000 in
theorem cMX8_sheet {sh so k : Int} (hsh : rI sh) (hso : rI so) (hk : rI k) (hW : WD A c Kd J Rd n s0) : ZC g l MX8_sheet [.ref 4, .int (iZ sh), .int (iZ so), .int (iZ k)] (KF Kd, zi J, zj P, RF Rd, n, s0) (PW (aSheet A sh so k).2 (c + 1) J P (.int (iZ (aSheet A sh so k).1))) := by
  refine ZC.of (by decide) (Nat.le_of_ble_eq_true rfl) ?_
  generalize hQ0 : (PW (aSheet A sh so k).2 (c + 1) J P (.int (iZ (aSheet A sh so k).1)) : Option Value → ZH → Prop) = Q0
  show Z g l MX8_sheet 0 [some (.ref 4), some (.int (iZ sh)), some (.int (iZ so)), some (.int (iZ k))] [] (KF Kd, zi J, zj P, RF Rd, n, s0) Q0
  refine z_iload_n dX8_sheet_0 rfl rfl ?_
  refine z_calls (N := MX8_isSheet) (nas := 1) (as := [_]) dX8_sheet_1 w_313 w_311 w_312 w_1 (by decide +kernel) rfl rfl (Nat.le_of_ble_eq_true rfl) (by decide) (by decide) (ZC.mono (cMX8_isSheet (by omega)) ?_)
  rintro _ _ ⟨b1, rfl, rfl, hb1⟩
  refine c_if_eq (tgt := 17) dX8_sheet_4 (by decide) (by omega) (fun h4 => ?_) (fun h4 => ?_)
  · have g1 := (hb1.resolve_left (fun z => by have := z.1; omega)).2
    clear hb1
    refine c_iconst dX8_sheet_17 ?_
    refine c_ireturn dX8_sheet_18 rfl ?_
    subst hQ0; unfold aSheet; rw [cif_neg (by omega)]; exact PW_id hW
  · have g1 := (hb1.resolve_right (fun z => by have := z.1; omega)).2
    clear hb1
    refine z_iload_n dX8_sheet_7 rfl rfl ?_
    refine c_iconst dX8_sheet_8 ?_
    refine c_icmp_lt (tgt := 17) dX8_sheet_9 (by decide) (by omega) (by omega) (fun h9 => ?_) (fun h9 => ?_)
    · refine c_iconst dX8_sheet_17 ?_
      refine c_ireturn dX8_sheet_18 rfl ?_
      subst hQ0; unfold aSheet; rw [cif_neg (by omega)]; exact PW_id hW
    · refine z_iload_n dX8_sheet_12 rfl rfl ?_
      refine c_iconst dX8_sheet_13 ?_
      refine c_icmp_le (tgt := 19) dX8_sheet_14 (by decide) (by omega) (by omega) (fun h14 => ?_) (fun h14 => ?_)
      · refine z_iload_n dX8_sheet_19 rfl rfl ?_
        refine c_iconst dX8_sheet_20 ?_
        refine c_icmp_ne (tgt := 37) dX8_sheet_21 (by decide) (by omega) (by omega) (fun h21 => ?_) (fun h21 => ?_)
        · refine z_iload_n dX8_sheet_37 rfl rfl ?_
          refine c_bipush dX8_sheet_38 (by decide) ?_
          refine c_icmp_le (tgt := 45) dX8_sheet_40 (by decide) (by omega) (by omega) (fun h40 => ?_) (fun h40 => ?_)
          · refine z_iload_n dX8_sheet_45 rfl rfl ?_
            refine c_if_ge (tgt := 52) dX8_sheet_46 (by decide) (by omega) (fun h46 => ?_) (fun h46 => ?_)
            · refine z_aload_n dX8_sheet_52 rfl rfl ?_
              refine z_getR (ci := 8) (kf := 5) dX8_sheet_53 rfl (by decide) (by decide) rfl w_187 rfl ?_
              refine z_iload_n dX8_sheet_56 rfl rfl ?_
              refine c_aald dX8_sheet_57 (Or.inr rfl) (by omega) (by decide) (sh_R (by omega)) ?_
              refine z_iload_n dX8_sheet_58 rfl rfl ?_
              refine z_iload_n dX8_sheet_59 rfl rfl ?_
              refine z_callv (N := MX5_become) (ci := 5) (nas := 2) (as := [_, _]) dX8_sheet_60 w_730 w_727 w_728 w_729 w_3 (by decide +kernel) rfl rfl (sh_K1 (by omega)) (by decide) (Nat.le_of_ble_eq_true rfl) (by decide) (by decide) (ZC.mono (cMX5_become (t := sh.toNat) (by omega)) ?_)
              rintro _ _ ⟨rfl, rfl⟩
              refine c_iconst dX8_sheet_63 ?_
              refine c_ireturn dX8_sheet_64 rfl ?_
              subst hQ0; unfold aSheet; rw [cif_pos (by omega), cif_neg (by omega)]
              rw [if_neg (by omega)]
              refine ⟨rfl, _, _, _, _, _, _, rfl, WD_mono (WD_become hW (by omega) (by omega) (by omega) (by omega)), fun a a1 a2 => ?_, cs_refl⟩
              funext q; show (if a = 19 + 2 * sh.toNat ∧ q < 40 then 0 else _) = _; rw [if_neg (by omega), zzr (by omega), zzr (by omega)]
            · refine c_bipush dX8_sheet_49 (by decide) ?_
              refine c_ireturn dX8_sheet_51 rfl ?_
              subst hQ0; unfold aSheet; rw [cif_pos (by omega), cif_pos (by omega)]; exact PW_id hW
          · refine c_iconst dX8_sheet_43 ?_
            refine c_ireturn dX8_sheet_44 rfl ?_
            subst hQ0; unfold aSheet; rw [cif_neg (by omega)]; exact PW_id hW
        · have hso1 : so = -1 := by omega
          subst hso1
          refine z_aload_n dX8_sheet_24 rfl rfl ?_
          refine z_getR (ci := 8) (kf := 5) dX8_sheet_25 rfl (by decide) (by decide) rfl w_187 rfl ?_
          refine z_iload_n dX8_sheet_28 rfl rfl ?_
          refine c_aald dX8_sheet_29 (Or.inr rfl) (by omega) (by decide) (sh_R (by omega)) ?_
          refine c_iconst dX8_sheet_30 ?_
          refine c_iconst dX8_sheet_31 ?_
          refine z_callv (N := MX5_become) (ci := 5) (nas := 2) (as := [_, _]) dX8_sheet_32 w_730 w_727 w_728 w_729 w_3 (by decide +kernel) rfl rfl (sh_K1 (by omega)) (by decide) (Nat.le_of_ble_eq_true rfl) (by decide) (by decide) (ZC.mono (cMX5_become (t := sh.toNat) (by omega)) ?_)
          rintro _ _ ⟨rfl, rfl⟩
          refine c_iconst dX8_sheet_35 ?_
          refine c_ireturn dX8_sheet_36 rfl ?_
          subst hQ0; unfold aSheet; rw [cif_pos (by omega), cif_neg (by omega)]
          rw [if_pos (by omega)]
          refine ⟨rfl, _, _, _, _, _, _, rfl, WD_mono (WD_become hW (by omega) (by omega) (by omega) (by omega)), fun a a1 a2 => ?_, cs_refl⟩
          funext q; show (if a = 19 + 2 * sh.toNat ∧ q < 40 then 0 else _) = _; rw [if_neg (by omega), zzr (by omega), zzr (by omega)]
      · refine c_iconst dX8_sheet_17 ?_
        refine c_ireturn dX8_sheet_18 rfl ?_
        subst hQ0; unfold aSheet; rw [cif_neg (by omega)]; exact PW_id hW
end Cls6
