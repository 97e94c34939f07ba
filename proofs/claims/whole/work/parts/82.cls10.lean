section Cls10
variable {g : ZG} {l : Launch} {Kd : ZK} {Rd : ZR} {n s0 c : Nat} {A J P : Nat → Nat → Int}
theorem WD_node (hW : WD A c Kd J Rd n s0) {k : Nat} (hk : (k : Int) < A 42 2) : ∃ r, Rd 8 k = some r ∧ FA A Kd J Rd n (6 + k) r := by
  have h0 := hW.2.2.2.1.2.1.2.2.2.1 k hk
  rcases (hW.2.2.1.2.2.1.2 k hk).1 with ⟨_, h⟩ | h
  · omega
  · exact h
theorem WD_un (hW : WD A c Kd J Rd n s0) : J 7 0 = A 42 2 ∧ (∀ q : Nat, (q : Int) < A 42 2 → J 9 q = A 45 q) ∧ okU (A 42 2) (A 45) ∧ 0 ≤ A 42 2 ∧ A 42 2 ≤ 30 := ⟨hW.2.2.1.2.2.1.1, fun q hq => (hW.2.2.1.2.2.1.2 q hq).2.1, okT_U hW.2.2.2.1.2.1, hW.2.2.2.1.2.1.1.1, hW.2.2.2.1.2.1.1.2.1⟩
theorem FA_det (hW : WD A c Kd J Rd n s0) {q r : Nat} (hf : FA A Kd J Rd n q r) : J r 2 = detS (fun k => A 43 (16 * q + k)) (A 44 q) (-1) := by
  have hG := (WD_GF hW hf.1).2.1
  have hF := FA_okF hW hf
  rw [hG.2.2.1, hf.2.1, detS_congr (F := fun k => A 43 (16 * q + k)) hF.2.1 (fun k hk => hf.2.2 k hk)]
set_option maxHeartbeats 4000000 in
set_option maxRecDepth 100000 in
theorem cMX8_nodeTo {x s : Int} (hx : rI x) (hs : rI s) (hW : WD A c Kd J Rd n s0) : ZC g l MX8_nodeTo [.ref 4, .int (iZ x), .int (iZ s)] (KF Kd, zi J, zj P, RF Rd, n, s0) (PW (aNodeTo A x s).2 (c + 1) J P (.int (iZ (aNodeTo A x s).1))) := by
  refine ZC.of (by decide) (Nat.le_of_ble_eq_true rfl) ?_
  generalize hQ0 : (PW (aNodeTo A x s).2 (c + 1) J P (.int (iZ (aNodeTo A x s).1)) : Option Value → ZH → Prop) = Q0
  show Z g l MX8_nodeTo 0 [some (.ref 4), some (.int (iZ x)), some (.int (iZ s))] [] (KF Kd, zi J, zj P, RF Rd, n, s0) Q0
  have hun := WD_un hW
  have h3a := hun.2.2.2.1
  have h3b := hun.2.2.2.2
  refine z_aload_n dX8_nodeTo_0 rfl rfl ?_
  refine z_getR (ci := 8) (kf := 2) dX8_nodeTo_1 rfl (by decide) (by decide) rfl w_184 rfl ?_
  refine z_iload_n dX8_nodeTo_4 rfl rfl ?_
  refine z_callv (N := MX7_isNode) (ci := 7) (nas := 1) (as := [_]) dX8_nodeTo_5 w_669 w_666 w_667 w_668 w_2 (by decide +kernel) rfl rfl rfl (by decide) (Nat.le_of_ble_eq_true rfl) (by decide) (by decide) (ZC.mono (cMX7_isNode (by omega) hun.1 (by omega)) ?_)
  rintro _ _ ⟨b5, rfl, rfl, hb5⟩
  refine c_if_eq (tgt := 18) dX8_nodeTo_8 (by decide) (by omega) (fun h8 => ?_) (fun h8 => ?_)
  · have g5 := (hb5.resolve_left (fun z => by have := z.1; omega)).2
    clear hb5
    refine c_iconst dX8_nodeTo_18 ?_
    refine c_ireturn dX8_nodeTo_19 rfl ?_
    subst hQ0; unfold aNodeTo; rw [cif_neg (by omega)]; exact PW_id hW
  · have g5 := (hb5.resolve_right (fun z => by have := z.1; omega)).2
    clear hb5
    refine z_iload_n dX8_nodeTo_11 rfl rfl ?_
    refine z_calls (N := MX8_isSlot) (nas := 1) (as := [_]) dX8_nodeTo_12 w_219 w_217 w_218 w_1 (by decide +kernel) rfl rfl (Nat.le_of_ble_eq_true rfl) (by decide) (by decide) (ZC.mono (cMX8_isSlot (by omega)) ?_)
    rintro _ _ ⟨b12, rfl, rfl, hb12⟩
    refine c_if_ne (tgt := 20) dX8_nodeTo_15 (by decide) (by omega) (fun h15 => ?_) (fun h15 => ?_)
    · have g12 := (hb12.resolve_right (fun z => by have := z.1; omega)).2
      clear hb12
      obtain ⟨r, hx1, hx2⟩ := WD_node hW (k := x.toNat) (by omega)
      have hF := FA_okF hW hx2
      refine z_aload_n dX8_nodeTo_20 rfl rfl ?_
      refine z_getR (ci := 8) (kf := 0) dX8_nodeTo_21 rfl (by decide) (by decide) rfl w_182 rfl ?_
      refine z_iload_n dX8_nodeTo_24 rfl rfl ?_
      refine z_aload_n dX8_nodeTo_25 rfl rfl ?_
      refine z_getR (ci := 8) (kf := 2) dX8_nodeTo_26 rfl (by decide) (by decide) rfl w_184 rfl ?_
      refine z_getR (ci := 7) (kf := 1) dX8_nodeTo_29 rfl (by decide) (by decide) rfl w_34 rfl ?_
      refine z_iload_n dX8_nodeTo_32 rfl rfl ?_
      refine c_aald dX8_nodeTo_33 (Or.inl rfl) (by omega) (by decide) hx1 ?_
      refine c_aast (ci := 3) dX8_nodeTo_34 rfl (by decide) (by omega) (by decide) (FA_K1 hx2.1) ?_
      rw [RF_up (Or.inl rfl)]
      refine z_aload_n dX8_nodeTo_35 rfl rfl ?_
      refine z_getR (ci := 8) (kf := 2) dX8_nodeTo_36 rfl (by decide) (by decide) rfl w_184 rfl ?_
      refine z_getR (ci := 7) (kf := 1) dX8_nodeTo_39 rfl (by decide) (by decide) rfl w_34 rfl ?_
      refine z_iload_n dX8_nodeTo_42 rfl rfl ?_
      refine c_aald dX8_nodeTo_43 (Or.inl rfl) (by omega) (by decide) (by show zup Rd 5 s.toNat (some r) 8 x.toNat = some r; rw [zzr (by decide)]; exact hx1) ?_
      refine c_getI (ci := 3) (kf := 2) dX8_nodeTo_44 (FA_K1 hx2.1) (by decide) (by decide) rfl w_289 ?_
      refine c_ireturn dX8_nodeTo_47 rfl ?_
      subst hQ0; unfold aNodeTo; rw [cif_pos (by omega), FA_det hW hx2]; unfold eE
      rw [show (6 + x).toNat = 6 + x.toNat by omega]
      exact ⟨rfl, _, _, _, _, _, _, rfl, WD_mono (WD_slot (s := s.toNat) hW (by omega) (Or.inr hF) (Or.inr ⟨r, rfl, hx2.1, hx2.2.1, hx2.2.2⟩)), cs_refl, cs_refl⟩
    · have g12 := (hb12.resolve_left (fun z => by have := z.1; omega)).2
      clear hb12
      refine c_iconst dX8_nodeTo_18 ?_
      refine c_ireturn dX8_nodeTo_19 rfl ?_
      subst hQ0; unfold aNodeTo; rw [cif_neg (by omega)]; exact PW_id hW
set_option maxHeartbeats 4000000 in
set_option maxRecDepth 100000 in
theorem cMX8_plant {s : Int} (hs : rI s) (hW : WD A c Kd J Rd n s0) : ZC g l MX8_plant [.ref 4, .int (iZ s)] (KF Kd, zi J, zj P, RF Rd, n, s0) (PW (aPlant A s).2 (c + 1) J P (.int (iZ (aPlant A s).1))) := by
  refine ZC.of (by decide) (Nat.le_of_ble_eq_true rfl) ?_
  generalize hQ0 : (PW (aPlant A s).2 (c + 1) J P (.int (iZ (aPlant A s).1)) : Option Value → ZH → Prop) = Q0
  show Z g l MX8_plant 0 [some (.ref 4), some (.int (iZ s)), none, none] [] (KF Kd, zi J, zj P, RF Rd, n, s0) Q0
  have hun := WD_un hW
  have h3a := hun.2.2.2.1
  have h3b := hun.2.2.2.2
  refine z_aload_n dX8_plant_0 rfl rfl ?_
  refine z_iload_n dX8_plant_1 rfl rfl ?_
  refine z_callv (N := MX8_held) (ci := 8) (nas := 1) (as := [_]) dX8_plant_2 w_333 w_330 w_332 ws_2 w_1 (by decide +kernel) rfl rfl rfl (by decide) (Nat.le_of_ble_eq_true rfl) (by decide) (by decide) (ZC.mono (cMX8_held (by omega) hW) ?_)
  rintro _ _ ⟨rfl, hd2⟩
  rcases hd2 with ⟨hf2, rfl⟩ | ⟨hf2, r2, rfl, hr2⟩
  · skip
    refine z_astore_nN dX8_plant_5 rfl (by decide) rfl ?_
    refine z_aload_nN dX8_plant_6 rfl rfl ?_
    refine z_ifnonnullN dX8_plant_7 ?_
    refine c_iconst dX8_plant_10 ?_
    refine c_ireturn dX8_plant_11 rfl ?_
    subst hQ0; unfold aPlant; rw [cif_neg (by omega)]; exact PW_id hW
  · have hK2 := FA_K1 hr2.1
    have hE2 := WD_ent hW hr2.1
    have hF2 := FA_okF hW hr2
    have hl2 := hF2.2.1
    refine z_astore_n dX8_plant_5 rfl (by decide) rfl ?_
    refine z_aload_n dX8_plant_6 rfl rfl ?_
    refine z_ifnonnull (tgt := 12) dX8_plant_7 (by decide) ?_
    refine z_aload_n dX8_plant_12 rfl rfl ?_
    refine z_getR (ci := 8) (kf := 2) dX8_plant_13 rfl (by decide) (by decide) rfl w_184 rfl ?_
    refine c_getI (ci := 7) (kf := 0) dX8_plant_16 rfl (by decide) (by decide) rfl w_32 ?_
    rw [hun.1]
    refine z_istore_n dX8_plant_19 rfl (by decide) rfl ?_
    refine z_aload_n dX8_plant_20 rfl rfl ?_
    refine z_getR (ci := 8) (kf := 2) dX8_plant_21 rfl (by decide) (by decide) rfl w_184 rfl ?_
    refine c_iconst dX8_plant_24 ?_
    refine z_callv (N := MX7_truncate) (ci := 7) (nas := 1) (as := [_]) dX8_plant_25 w_657 w_654 w_655 w_656 w_2 (by decide +kernel) rfl rfl rfl (by decide) (Nat.le_of_ble_eq_true rfl) (by decide) (by decide) (ZC.mono (cMX7_truncate (m := 0) (by omega)) ?_)
    rintro _ _ ⟨rfl, R25, rfl, hR25, hRo25⟩
    refine z_aload_n dX8_plant_28 rfl rfl ?_
    refine z_getR (ci := 8) (kf := 2) dX8_plant_29 rfl (by decide) (by decide) rfl w_184 rfl ?_
    refine z_aload_n dX8_plant_32 rfl rfl ?_
    refine c_bipush dX8_plant_33 (by decide) ?_
    refine c_bipush dX8_plant_35 (by decide) ?_
    refine z_callv (N := MX7_add) (ci := 7) (nas := 3) (as := [_, _, _]) dX8_plant_37 w_661 w_658 w_659 w_660 w_2 (by decide +kernel) rfl rfl rfl (by decide) (Nat.le_of_ble_eq_true rfl) (by decide) (by decide) (ZC.mono (cMX7_add (nd := 0) hK2 (by rw [zz]) (by omega)) ?_)
    rintro _ _ ⟨rfl, rfl⟩
    refine z_pop dX8_plant_40 rfl ?_
    refine z_iload_n dX8_plant_41 rfl rfl ?_
    refine c_ireturn dX8_plant_42 rfl ?_
    subst hQ0; unfold aPlant; rw [cif_pos (by omega)]
    have hok := OK_add (A := A) (x := -2) (k := -2) (m := 0) (nl := A 44 s.toNat) (E := eE A s) hW.2.2.2.1 (by omega) (by omega) hF2 (by omega) (by omega) ⟨fun _ => rfl, fun z => by omega⟩
    have hjo : ∀ a, a ≠ 42 → a ≠ 43 → a ≠ 44 → a ≠ 45 → a ≠ 46 → jplant A s a = A a := fun a a1 a2 a3 a4 a5 => by unfold jplant; rw [zup_ne a1, zup_ne a5, zup_ne a4, jput_off a2 a3]
    have hT := WD_tree (A' := jplant A s) (J' := zup (zup (zup (zup J 7 0 0) 9 (0 : Int).toNat (-2)) 10 (0 : Int).toNat (-2)) 7 0 (0 + 1)) (Rd' := zup R25 8 (0 : Int).toNat (some r2)) hW hjo
      (fun q hq => by unfold jplant; rw [zzi hq, zzr (by decide), zzr (by decide), jput_off (by decide) (by decide)])
      (fun q hq => by unfold jplant; rw [zzr (by decide), zzr (by decide), zzr (by decide), jput_let_ne (by omega)])
      (fun q hq => by unfold jplant; rw [zzr (by decide), zzr (by decide), zzr (by decide), jput_43 (by omega)])
      (fun a a1 a2 a3 a4 => by rw [zup_ne a1, zup_ne a3, zup_ne a2, zup_ne a1])
      (fun a ha => by rw [zup_ne ha]; exact hRo25 a ha)
      ⟨by unfold jplant; rw [zz, zz]; rfl, fun k hk => by
        have hk0 : k = 0 := by unfold jplant at hk; rw [zz] at hk; omega
        subst hk0
        refine ⟨Or.inr ⟨r2, zz, hr2.1, ?_, fun q hq => ?_⟩, ?_, ?_⟩
        · show J r2 0 = jput A 6 (A 44 s.toNat) (eE A s) 44 6; rw [jput_let]; exact hr2.2.1
        · show J (ent Rd r2) q = jput A 6 (A 44 s.toNat) (eE A s) 43 (16 * 6 + q); rw [jput_in hq]; exact hr2.2.2 q hq
        · rfl
        · rfl⟩
      (fun k hk => by
        by_cases e : k = 0
        · subst e; exact Or.inr ⟨r2, zz, hr2.1⟩
        · left; rw [zzi (show k ≠ (0 : Int).toNat from e), hR25, if_pos (by omega)]) hok
    exact ⟨rfl, _, _, _, _, _, _, rfl, WD_mono hT, fun a a1 a2 => by rw [zup_ne (by omega), zup_ne (by omega), zup_ne (by omega), zup_ne (by omega)], cs_refl⟩
set_option maxHeartbeats 4000000 in
set_option maxRecDepth 100000 in
theorem cMX8_keep (hW : WD A c Kd J Rd n s0) : ZC g l MX8_keep [.ref 4] (KF Kd, zi J, zj P, RF Rd, n, s0) (PW (aKeep A).2 (c + 1) J P (.int (iZ (aKeep A).1))) := by
  refine ZC.of (by decide) (Nat.le_of_ble_eq_true rfl) ?_
  generalize hQ0 : (PW (aKeep A).2 (c + 1) J P (.int (iZ (aKeep A).1)) : Option Value → ZH → Prop) = Q0
  show Z g l MX8_keep 0 [some (.ref 4), none] [] (KF Kd, zi J, zj P, RF Rd, n, s0) Q0
  refine c_iconst dX8_keep_0 ?_
  refine z_istore_n dX8_keep_1 rfl (by decide) rfl ?_
  have L2 : ∀ (m2 : Nat), ∀ (k : Int) (R1 : ZR), (6 - k).toNat = m2 → (0 ≤ k ∧ k ≤ 6) → (∀ q : Nat, (q : Int) < k → R1 6 q = Rd 5 q) → (∀ a, a ≠ 6 → R1 a = Rd a) → Z g l MX8_keep 2 [some (.ref 4), some (.int (iZ k))] [] (KF Kd, zi J, zj P, RF R1, n, s0) Q0 := by
    intro m2
    induction m2 using Nat.strongRecOn with
    | ind m2 ih2 =>
      intro k R1 hm2 hk hc hoR
      refine z_iload_n dX8_keep_2 rfl rfl ?_
      refine c_bipush dX8_keep_3 (by decide) ?_
      refine c_icmp_ge (tgt := 26) dX8_keep_5 (by decide) (by omega) (by omega) (fun h5 => ?_) (fun h5 => ?_)
      · refine z_aload_n dX8_keep_26 rfl rfl ?_
        refine z_getR (ci := 8) (kf := 3) dX8_keep_27 rfl (by decide) (by decide) rfl w_185 rfl ?_
        refine z_aload_n dX8_keep_30 rfl rfl ?_
        refine z_getR (ci := 8) (kf := 2) dX8_keep_31 rfl (by decide) (by decide) rfl w_184 rfl ?_
        refine z_callv (N := MX7_become) (ci := 7) (nas := 1) (as := [_]) dX8_keep_34 w_753 w_750 w_751 w_752 w_2 (by decide +kernel) rfl rfl rfl (by decide) (Nat.le_of_ble_eq_true rfl) (by decide) (by decide) (ZC.mono (cMX7_become_12 (fun q hq => by rw [hoR 8 (by decide)]; exact (hW.2.2.1.2.2.2.2.1 q hq).1)) ?_)
        rintro _ _ ⟨rfl, J34, R34, rfl, hs34, hc34, hJ34, hR34⟩
        refine z_aload_n dX8_keep_37 rfl rfl ?_
        refine c_iconst dX8_keep_38 ?_
        refine c_putZ (ci := 8) (kf := 4) dX8_keep_39 rfl (by decide) (by decide) rfl (by decide) (by omega) w_186 ?_
        have hWk : WD (jkeep A) c Kd (zup J34 4 4 1) R34 n s0 := WD_keep hW (fun q hq => by rw [hR34 6 (by decide)]; exact hc q (by omega)) (fun q hq => by rw [(hc34 q hq).2.2, hoR 8 (by decide)]) (fun a a1 a2 => by rw [hR34 a a2]; exact hoR a a1)
          (by rw [zzr (by decide)]; exact hs34) (fun q hq => by rw [zzr (by decide), zzr (by decide)]; exact ⟨(hc34 q hq).1, (hc34 q hq).2.1⟩) (by rw [zz]) (fun a a1 a2 a3 a4 => by rw [zup_ne a1]; exact hJ34 a a2 a3 a4)
        refine z_aload_n dX8_keep_42 rfl rfl ?_
        refine z_callv (N := MX8_heldSlots) (ci := 8) (nas := 0) (as := []) dX8_keep_43 w_757 w_754 w_756 ws_18 w_1 (by decide +kernel) rfl rfl rfl (by decide) (Nat.le_of_ble_eq_true rfl) (by decide) (by decide) (ZC.mono (cMX8_heldSlots hWk) ?_)
        rintro _ _ ⟨rfl, rfl⟩
        refine c_ireturn dX8_keep_46 rfl ?_
        subst hQ0; unfold aKeep
        exact ⟨by rw [heldN_congr 6 (fun q hq => by unfold jkeep; rw [if_neg (by omega), if_neg (by omega), if_neg (by omega), if_neg (by omega), if_neg (by omega), if_neg (by omega)])], _, _, _, _, _, _, rfl, WD_mono hWk, fun a a1 a2 => by rw [zup_ne (by omega)]; exact hJ34 a (by omega) (by omega) (by omega), cs_refl⟩
      · refine z_aload_n dX8_keep_8 rfl rfl ?_
        refine z_getR (ci := 8) (kf := 1) dX8_keep_9 rfl (by decide) (by decide) rfl w_183 rfl ?_
        refine z_iload_n dX8_keep_12 rfl rfl ?_
        refine z_aload_n dX8_keep_13 rfl rfl ?_
        refine z_getR (ci := 8) (kf := 0) dX8_keep_14 rfl (by decide) (by decide) rfl w_182 rfl ?_
        refine z_iload_n dX8_keep_17 rfl rfl ?_
        have hx0 : RF R1 5 k.toNat = Rd 5 k.toNat := by show R1 5 k.toNat = _; rw [hoR 5 (by decide)]
        rcases hW.2.2.1.1 k.toNat (by omega) with ⟨hx, hx2⟩ | ⟨r, hx, hx2⟩
        · refine c_aaldN dX8_keep_18 (Or.inl rfl) (by omega) (by decide) (hx0.trans hx) ?_
          refine c_aastN dX8_keep_19 rfl (by omega) (by decide) ?_
          rw [RF_up (Or.inl rfl)]
          refine c_iinc dX8_keep_20 rfl (by decide) rfl ?_
          refine z_goto (tgt := 2) dX8_keep_23 (by decide) ?_
          exact Z.fg2 (ih2 _ (by omega) _ _ rfl (by omega) (fun q hq => by by_cases e : q = k.toNat; (subst e; rw [zz, hx]); (rw [zzi e]; exact hc q (by omega))) (fun a ha => by rw [zup_ne ha]; exact hoR a ha)) (zs1 rfl (zs1 rfl zs0))
        · refine c_aald dX8_keep_18 (Or.inl rfl) (by omega) (by decide) (hx0.trans hx) ?_
          refine c_aast (ci := 3) dX8_keep_19 rfl (by decide) (by omega) (by decide) (FA_K1 hx2.1) ?_
          rw [RF_up (Or.inl rfl)]
          refine c_iinc dX8_keep_20 rfl (by decide) rfl ?_
          refine z_goto (tgt := 2) dX8_keep_23 (by decide) ?_
          exact Z.fg2 (ih2 _ (by omega) _ _ rfl (by omega) (fun q hq => by by_cases e : q = k.toNat; (subst e; rw [zz, hx]); (rw [zzi e]; exact hc q (by omega))) (fun a ha => by rw [zup_ne ha]; exact hoR a ha)) (zs1 rfl (zs1 rfl zs0))
  exact Z.fg2 (L2 _ _ _ rfl (by omega) (fun q hq => absurd hq (by omega)) (fun _ _ => rfl)) (zs1 rfl (zs1 rfl zs0))
set_option maxHeartbeats 4000000 in
set_option maxRecDepth 100000 in
theorem cMX8_back (hW : WD A c Kd J Rd n s0) : ZC g l MX8_back [.ref 4] (KF Kd, zi J, zj P, RF Rd, n, s0) (PW (aBack A).2 (c + 1) J P (.int (iZ (aBack A).1))) := by
  refine ZC.of (by decide) (Nat.le_of_ble_eq_true rfl) ?_
  generalize hQ0 : (PW (aBack A).2 (c + 1) J P (.int (iZ (aBack A).1)) : Option Value → ZH → Prop) = Q0
  show Z g l MX8_back 0 [some (.ref 4), none] [] (KF Kd, zi J, zj P, RF Rd, n, s0) Q0
  refine z_aload_n dX8_back_0 rfl rfl ?_
  refine c_getI (ci := 8) (kf := 4) dX8_back_1 rfl (by decide) (by decide) rfl w_186 ?_
  rw [hW.2.2.1.2.2.2.2.2.1]
  have hkq := hW.2.2.2.1.2.1.2.2.1
  refine c_if_ne (tgt := 10) dX8_back_4 (by decide) (by omega) (fun h4 => ?_) (fun h4 => ?_)
  · refine c_iconst dX8_back_10 ?_
    refine z_istore_n dX8_back_11 rfl (by decide) rfl ?_
    have L12 : ∀ (m12 : Nat), ∀ (k : Int) (R1 : ZR), (6 - k).toNat = m12 → (0 ≤ k ∧ k ≤ 6) → (∀ q : Nat, (q : Int) < k → R1 5 q = Rd 6 q) → (∀ a, a ≠ 5 → R1 a = Rd a) → Z g l MX8_back 12 [some (.ref 4), some (.int (iZ k))] [] (KF Kd, zi J, zj P, RF R1, n, s0) Q0 := by
      intro m12
      induction m12 using Nat.strongRecOn with
      | ind m12 ih12 =>
        intro k R1 hm12 hk hc hoR
        refine z_iload_n dX8_back_12 rfl rfl ?_
        refine c_bipush dX8_back_13 (by decide) ?_
        refine c_icmp_ge (tgt := 36) dX8_back_15 (by decide) (by omega) (by omega) (fun h15 => ?_) (fun h15 => ?_)
        · refine z_aload_n dX8_back_36 rfl rfl ?_
          refine z_getR (ci := 8) (kf := 2) dX8_back_37 rfl (by decide) (by decide) rfl w_184 rfl ?_
          refine z_aload_n dX8_back_40 rfl rfl ?_
          refine z_getR (ci := 8) (kf := 3) dX8_back_41 rfl (by decide) (by decide) rfl w_185 rfl ?_
          refine z_callv (N := MX7_become) (ci := 7) (nas := 1) (as := [_]) dX8_back_44 w_753 w_750 w_751 w_752 w_2 (by decide +kernel) rfl rfl rfl (by decide) (Nat.le_of_ble_eq_true rfl) (by decide) (by decide) (ZC.mono (cMX7_become_7 (fun q hq => by rw [hoR 13 (by decide)]; exact (hW.2.2.1.2.2.2.2.1 q hq).2)) ?_)
          rintro _ _ ⟨rfl, J44, R44, rfl, hs44, hc44, hJ44, hR44⟩
          have hWk : WD (jback A) c Kd J44 R44 n s0 := WD_back hW (fun q hq => by rw [hR44 5 (by decide)]; exact hc q (by omega)) (fun q hq => by rw [(hc44 q hq).2.2, hoR 13 (by decide)]) (fun a a1 a2 => by rw [hR44 a a2]; exact hoR a a1)
            hs44 (fun q hq => ⟨(hc44 q hq).1, (hc44 q hq).2.1⟩) hJ44
          refine z_aload_n dX8_back_47 rfl rfl ?_
          refine z_callv (N := MX8_heldSlots) (ci := 8) (nas := 0) (as := []) dX8_back_48 w_757 w_754 w_756 ws_18 w_1 (by decide +kernel) rfl rfl rfl (by decide) (Nat.le_of_ble_eq_true rfl) (by decide) (by decide) (ZC.mono (cMX8_heldSlots hWk) ?_)
          rintro _ _ ⟨rfl, rfl⟩
          refine c_ireturn dX8_back_51 rfl ?_
          subst hQ0; unfold aBack; rw [cif_neg (by omega)]
          exact ⟨rfl, _, _, _, _, _, _, rfl, WD_mono hWk, fun a a1 a2 => hJ44 a (by omega) (by omega) (by omega), cs_refl⟩
        · refine z_aload_n dX8_back_18 rfl rfl ?_
          refine z_getR (ci := 8) (kf := 0) dX8_back_19 rfl (by decide) (by decide) rfl w_182 rfl ?_
          refine z_iload_n dX8_back_22 rfl rfl ?_
          refine z_aload_n dX8_back_23 rfl rfl ?_
          refine z_getR (ci := 8) (kf := 1) dX8_back_24 rfl (by decide) (by decide) rfl w_183 rfl ?_
          refine z_iload_n dX8_back_27 rfl rfl ?_
          have hx0 : RF R1 6 k.toNat = Rd 6 k.toNat := by show R1 6 k.toNat = _; rw [hoR 6 (by decide)]
          rcases hW.2.2.1.2.1 k.toNat (by omega) with ⟨hx, hx2⟩ | ⟨r, hx, hx2⟩
          · refine c_aaldN dX8_back_28 (Or.inl rfl) (by omega) (by decide) (hx0.trans hx) ?_
            refine c_aastN dX8_back_29 rfl (by omega) (by decide) ?_
            rw [RF_up (Or.inl rfl)]
            refine c_iinc dX8_back_30 rfl (by decide) rfl ?_
            refine z_goto (tgt := 12) dX8_back_33 (by decide) ?_
            exact Z.fg2 (ih12 _ (by omega) _ _ rfl (by omega) (fun q hq => by by_cases e : q = k.toNat; (subst e; rw [zz, hx]); (rw [zzi e]; exact hc q (by omega))) (fun a ha => by rw [zup_ne ha]; exact hoR a ha)) (zs1 rfl (zs1 rfl zs0))
          · refine c_aald dX8_back_28 (Or.inl rfl) (by omega) (by decide) (hx0.trans hx) ?_
            refine c_aast (ci := 3) dX8_back_29 rfl (by decide) (by omega) (by decide) (FA_K1 hx2.1) ?_
            rw [RF_up (Or.inl rfl)]
            refine c_iinc dX8_back_30 rfl (by decide) rfl ?_
            refine z_goto (tgt := 12) dX8_back_33 (by decide) ?_
            exact Z.fg2 (ih12 _ (by omega) _ _ rfl (by omega) (fun q hq => by by_cases e : q = k.toNat; (subst e; rw [zz, hx]); (rw [zzi e]; exact hc q (by omega))) (fun a ha => by rw [zup_ne ha]; exact hoR a ha)) (zs1 rfl (zs1 rfl zs0))
    exact Z.fg2 (L12 _ _ _ rfl (by omega) (fun q hq => absurd hq (by omega)) (fun _ _ => rfl)) (zs1 rfl (zs1 rfl zs0))
  · refine c_bipush dX8_back_7 (by decide) ?_
    refine c_ireturn dX8_back_9 rfl ?_
    subst hQ0; unfold aBack; rw [cif_pos (by omega)]; exact PW_id hW
set_option maxHeartbeats 4000000 in
set_option maxRecDepth 100000 in
theorem cMX8_walk {i : Int} (hi : rI i) (hW : WD A c Kd J Rd n s0) : ZC g l MX8_walk [.ref 4, .int (iZ i)] (KF Kd, zi J, zj P, RF Rd, n, s0) (PW A (c + 1) J P (.int (iZ (aWalk A i)))) := by
  refine ZC.of (by decide) (Nat.le_of_ble_eq_true rfl) ?_
  generalize hQ0 : (PW A (c + 1) J P (.int (iZ (aWalk A i))) : Option Value → ZH → Prop) = Q0
  show Z g l MX8_walk 0 [some (.ref 4), some (.int (iZ i)), none, none] [] (KF Kd, zi J, zj P, RF Rd, n, s0) Q0
  have hun := WD_un hW
  have h3a := hun.2.2.2.1
  have h3b := hun.2.2.2.2
  refine z_iload_n dX8_walk_0 rfl rfl ?_
  refine c_if_lt (tgt := 15) dX8_walk_1 (by decide) (by omega) (fun h1 => ?_) (fun h1 => ?_)
  · refine c_bipush dX8_walk_15 (by decide) ?_
    refine c_ireturn dX8_walk_17 rfl ?_
    subst hQ0; unfold aWalk; rw [cif_neg (by omega)]; exact PW_id hW
  · refine z_iload_n dX8_walk_4 rfl rfl ?_
    refine z_aload_n dX8_walk_5 rfl rfl ?_
    refine z_getR (ci := 8) (kf := 2) dX8_walk_6 rfl (by decide) (by decide) rfl w_184 rfl ?_
    refine c_getI (ci := 7) (kf := 0) dX8_walk_9 rfl (by decide) (by decide) rfl w_32 ?_
    rw [hun.1]
    refine c_icmp_lt (tgt := 18) dX8_walk_12 (by decide) (by omega) (by omega) (fun h12 => ?_) (fun h12 => ?_)
    · refine c_iconst dX8_walk_18 ?_
      refine z_istore_n dX8_walk_19 rfl (by decide) rfl ?_
      refine c_iconst dX8_walk_20 ?_
      refine z_istore_n dX8_walk_21 rfl (by decide) rfl ?_
      have L22 : ∀ (m22 : Nat), ∀ (w k : Int), (i - k).toNat = m22 → (0 ≤ k ∧ k ≤ i) → (w = wlk (A 42 2) (A 45) k.toNat) → (0 ≤ w ∧ w < A 42 2) → Z g l MX8_walk 22 [some (.ref 4), some (.int (iZ i)), some (.int (iZ w)), some (.int (iZ k))] [] (KF Kd, zi J, zj P, RF Rd, n, s0) Q0 := by
        intro m22
        induction m22 using Nat.strongRecOn with
        | ind m22 ih22 =>
          intro w k hm22 hk hw hwb
          refine z_iload_n dX8_walk_22 rfl rfl ?_
          refine z_iload_n dX8_walk_23 rfl rfl ?_
          refine c_icmp_ge (tgt := 42) dX8_walk_24 (by decide) (by omega) (by omega) (fun h24 => ?_) (fun h24 => ?_)
          · refine z_iload_n dX8_walk_42 rfl rfl ?_
            refine c_ireturn dX8_walk_43 rfl ?_
            subst hQ0; unfold aWalk; rw [cif_pos (by omega), hw, show k = i by omega]; exact PW_id hW
          · refine z_aload_n dX8_walk_27 rfl rfl ?_
            refine z_getR (ci := 8) (kf := 2) dX8_walk_28 rfl (by decide) (by decide) rfl w_184 rfl ?_
            refine z_iload_n dX8_walk_31 rfl rfl ?_
            refine z_callv (N := MX7_following) (ci := 7) (nas := 1) (as := [_]) dX8_walk_32 w_709 w_706 w_707 w_708 w_2 (by decide +kernel) rfl rfl rfl (by decide) (Nat.le_of_ble_eq_true rfl) (by decide) (by decide) (ZC.mono (cMX7_following hun.1 hun.2.1 hun.2.2.1 (by omega)) ?_)
            rintro _ _ ⟨rfl, rfl⟩
            have hw1 := wlk_nn hun.2.2.1 (k := (k + 1).toNat) (by omega)
            have hw2 := wlk_bd hun.2.2.1 (by omega) (k + 1).toNat
            have hw3 : wlk (A 42 2) (A 45) (k + 1).toNat = behS (A 42 2) (A 45) w := by rw [show (k + 1).toNat = k.toNat + 1 by omega, hw]; rfl
            rw [← hw3, if_neg (by omega)]
            refine z_istore_n dX8_walk_35 rfl (by decide) rfl ?_
            refine c_iinc dX8_walk_36 rfl (by decide) rfl ?_
            refine z_goto (tgt := 22) dX8_walk_39 (by decide) ?_
            exact Z.fg2 (ih22 _ (by omega) _ _ rfl (by omega) rfl (by omega)) (zs1 rfl (zs1 rfl (zs1 rfl (zs1 rfl zs0))))
      exact Z.fg2 (L22 _ 0 0 rfl (by omega) rfl (by omega)) (zs1 rfl (zs1 rfl (zs1 rfl (zs1 rfl zs0))))
    · refine c_bipush dX8_walk_15 (by decide) ?_
      refine c_ireturn dX8_walk_17 rfl ?_
      subst hQ0; unfold aWalk; rw [cif_neg (by omega)]; exact PW_id hW
end Cls10
