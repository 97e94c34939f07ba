section Cls28
variable {g : ZG} {l : Launch} {Kd : ZK} {Rd : ZR} {n s0 c : Nat} {A J P : Nat → Nat → Int}
section Kc
variable {nl t k : Int} {E F : Nat → Int}
theorem setE_cg {i j : Nat} {a : Int} (h : ∀ k, k < 16 → E k = F k) : ∀ k, k < 16 → setE E i j a k = setE F i j a k := fun k hk => by unfold setE; rw [h k hk]
theorem chR_cgE {m : Nat} {v : V4} (h : ∀ k, k < 16 → E k = F k) : ∀ i : Nat, ∀ k, k < 16 → chR m E v i k = chR m F v i k
  | 0 => h
  | i + 1 => setE_cg (chR_cgE h i)
theorem chE_cgE {m : Nat} {v : V4} (h : ∀ k, k < 16 → E k = F k) : ∀ k, k < 16 → chE m E t v k = chE m F t v k := setE_cg (chR_cgE h m)
theorem lawb_cg (h4 : nl ≤ 4) (h : ∀ k, k < 16 → E k = F k) : lawb nl E = lawb nl F := by
  cases e : lawb nl F with
  | true => exact lawb_t ((lawS_congr h4 h).mpr (lawb_of e))
  | false => exact lawb_f (fun z => by rw [lawb_t ((lawS_congr h4 h).mp z)] at e; cases e)
theorem bndC_cg (h : ∀ k, k < 16 → E k = F k) {i : Nat} (hi : i < 3) : bndC nl E t i = bndC nl F t i := by unfold bndC; rw [h (5 * i) (by omega)]
theorem kids_cg (h3 : nl ≤ 3) (h : ∀ k, k < 16 → E k = F k) : kids nl E = kids nl F := by
  unfold kids kidF
  rw [truF_congr (by omega) h, bndC_cg h (by omega), bndC_cg h (by omega), bndC_cg h (by omega)]
  refine List.filter_congr (fun v _ => lawb_cg (by omega) (chE_cgE h))
theorem kidE_cg (h3 : nl ≤ 3) (h : ∀ k, k < 16 → E k = F k) : ∀ q, q < 16 → kidE nl E k q = kidE nl F k q := by
  unfold kidE
  rw [truF_congr (by omega) h, kids_cg h3 h]
  exact chE_cgE h
theorem grow_cg (h4 : nl ≤ 4) (h : ∀ k, k < 16 → E k = F k) : grow nl E = grow nl F := by unfold grow; rw [truF_congr h4 h]
theorem kid_ok (h1 : 1 ≤ nl) (h3 : nl ≤ 3) (h : okF nl E) (hk : 0 ≤ k ∧ k < ((kids nl E).length : Int)) : okF (nl + 1) (kidE nl E k) := by
  obtain ⟨X, hX⟩ : ∃ X, (kids nl E)[k.toNat]? = some X := ⟨_, List.getElem?_eq_getElem (by omega)⟩
  have hm := List.mem_of_getElem? hX
  unfold kidE
  rw [hX]
  unfold kids kidF at hm
  exact chE_ok ⟨h1, h3⟩ h (lawb_of (List.mem_filter.mp hm).2)
theorem kidE_L {X : V4} (hX : (kids nl E)[k.toNat]? = some X) : kidL nl E X = glD (cF (nl + 1) (kidE nl E k)) 9 := by unfold kidL kidE; rw [hX]; rfl
end Kc
theorem FA_grow {s : Int} {r : Nat} (hW : WD A c Kd J Rd n s0) (hf : FA A Kd J Rd n s.toNat r) : grow (J r 0) (J (ent Rd r)) = grow (A 44 s.toNat) (eE A s) := by
  rw [hf.2.1]; exact grow_cg (FA_okF hW hf).2.1 (fun k hk => hf.2.2 k hk)
theorem FA_ref {s : Int} {r : Nat} (hW : WD A c Kd J Rd n s0) (hf : FA A Kd J Rd n s.toNat r) : ZC g l MX8_refusalToGrow [.ref 4, .ref r] (KF Kd, zi J, zj P, RF Rd, n, s0) (fun rr hh => ∃ (Kd' : ZK) (J' P' : Nat → Nat → Int) (Rd' : ZR) (n' s0' : Nat), hh = (KF Kd', zi J', zj P', RF Rd', n', s0') ∧ rr = some (.int (iZ (grow (A 44 s.toNat) (eE A s)))) ∧ WD A c Kd' J' Rd' n' s0' ∧ Ev Kd J Rd n Kd' J' Rd' n' ∧ FA A Kd' J' Rd' n' s.toNat r ∧ (∀ a, 35 ≤ a → a < 66 → P' a = P a)) := by
  refine ZC.mono (cMX8_refusalToGrow hf.1 hW) ?_
  rintro _ _ ⟨K1, J1, P1, R1, n1, s1, rfl, rfl, hW1, hE1, hk1, hP1⟩
  rw [FA_grow hW hf]
  exact ⟨_, _, _, _, _, _, rfl, rfl, hW1, hE1, Ev_FA hE1 hf, hP1⟩
theorem FA_brood {s : Int} {r : Nat} (hW : WD A c Kd J Rd n s0) (hf : FA A Kd J Rd n s.toNat r) (hg : grow (A 44 s.toNat) (eE A s) = 0) : ZC g l MX8_broodOf [.ref 4, .ref r] (KF Kd, zi J, zj P, RF Rd, n, s0) (fun rr hh => rr = some (.ref 40) ∧ ∃ (Kd' : ZK) (J' P' : Nat → Nat → Int) (Rd' : ZR) (n' s0' : Nat), hh = (KF Kd', zi J', zj P', RF Rd', n', s0') ∧ WD A c Kd' J' Rd' n' s0' ∧ Ev Kd J Rd n Kd' J' Rd' n' ∧ FA A Kd' J' Rd' n' s.toNat r ∧ Rd' 40 0 = some r ∧ J' 40 1 = ((kids (A 44 s.toNat) (eE A s)).length : Int) ∧ ∀ a, 35 ≤ a → a < 66 → P' a = P a) := by
  refine ZC.mono (cMX8_broodOf hf.1 (by rw [FA_grow hW hf]; exact hg) hW) ?_
  rintro _ _ ⟨rfl, K1, J1, P1, R1, n1, s1, rfl, hW1, hE1, hp1, hP1⟩
  have hf1 := Ev_FA hE1 hf
  have hF := FA_okF hW hf
  have h3 := (grow_0 hg hF.1 hF.2.1).2
  obtain ⟨_, rw9, j9, _, _, _, hb1, _⟩ := WD_BrOK hW1 hp1
  rw [hf1.2.1, kids_cg (F := eE A s) h3 (fun k hk => hf1.2.2 k hk)] at hb1
  exact ⟨rfl, _, _, _, _, _, _, rfl, hW1, hE1, hf1, hp1, hb1, hP1⟩
theorem FA_shape {k s : Int} {r : Nat} (hk : rI k) (hW : WD A c Kd J Rd n s0) (hp : Rd 40 0 = some r) (hf : FA A Kd J Rd n s.toNat r) (hg : grow (A 44 s.toNat) (eE A s) = 0) : ZC g l MX0_shape [.ref 40, .int (iZ k), .ref 26] (KF Kd, zi J, zj P, RF Rd, n, s0) (fun rr hh => ∃ (J' : Nat → Nat → Int) (b : Int), hh = (KF Kd, zi J', zj P, RF Rd, n, s0) ∧ rr = some (.int (iZ b)) ∧ ((b = 1 ∧ (0 ≤ k ∧ k < ((kids (A 44 s.toNat) (eE A s)).length : Int)) ∧ J' = dput J (A 44 s.toNat + 1) (kidE (A 44 s.toNat) (eE A s) k)) ∨ (b = 0 ∧ ¬ (0 ≤ k ∧ k < ((kids (A 44 s.toNat) (eE A s)).length : Int)) ∧ J' = J))) := by
  have hF := FA_okF hW hf
  have h3 := (grow_0 hg hF.1 hF.2.1).2
  refine ZC.mono (cMX0_shape hk hW hp hf.2.1 rfl) ?_
  rintro _ _ ⟨J1, b, rfl, rfl, h⟩
  refine ⟨J1, b, rfl, rfl, ?_⟩
  rw [kids_cg (F := eE A s) h3 (fun k hk => hf.2.2 k hk)] at h
  rcases h with ⟨z1, z2, z3⟩ | h
  · exact Or.inl ⟨z1, z2, by rw [z3]; exact dput_ext (kidE_cg (F := eE A s) h3 (fun k hk => hf.2.2 k hk))⟩
  · exact Or.inr h
theorem grow_bd (nl : Int) (E : Nat → Int) : -4 ≤ grow nl E ∧ grow nl E ≤ 0 := by unfold grow; split <;> (try split) <;> omega
set_option maxHeartbeats 4000000 in
set_option maxRecDepth 100000 in
theorem cMX8_children {s : Int} (hs : rI s) (hW : WD A c Kd J Rd n s0) : ZC g l MX8_children [.ref 4, .int (iZ s)] (KF Kd, zi J, zj P, RF Rd, n, s0) (PW A (c + 1) J P (.int (iZ (aChildren A s)))) := by
  refine ZC.of (by decide) (Nat.le_of_ble_eq_true rfl) ?_
  generalize hQ0 : (PW A (c + 1) J P (.int (iZ (aChildren A s))) : Option Value → ZH → Prop) = Q0
  show Z g l MX8_children 0 [some (.ref 4), some (.int (iZ s)), none, none] [] (KF Kd, zi J, zj P, RF Rd, n, s0) Q0
  refine z_aload_n dX8_children_0 rfl rfl ?_
  refine z_iload_n dX8_children_1 rfl rfl ?_
  refine z_callv (N := MX8_held) (ci := 8) (nas := 1) (as := [_]) dX8_children_2 w_333 w_330 w_332 ws_2 w_1 (by decide +kernel) rfl rfl rfl (by decide) (Nat.le_of_ble_eq_true rfl) (by decide) (by decide) (ZC.mono (cMX8_held (by omega) hW) ?_)
  rintro _ _ ⟨rfl, hd2⟩
  rcases hd2 with ⟨hf2, rfl⟩ | ⟨hf2, r2, rfl, hr2⟩
  · skip
    refine z_astore_nN dX8_children_5 rfl (by decide) rfl ?_
    refine z_aload_nN dX8_children_6 rfl rfl ?_
    refine z_ifnonnullN dX8_children_7 ?_
    refine c_iconst dX8_children_10 ?_
    refine c_ireturn dX8_children_11 rfl ?_
    subst hQ0; unfold aChildren; rw [cif_neg (by omega)]; exact PW_id hW
  · have hK2 := FA_K1 hr2.1
    have hE2 := WD_ent hW hr2.1
    have hF2 := FA_okF hW hr2
    have hl2 := hF2.2.1
    refine z_astore_n dX8_children_5 rfl (by decide) rfl ?_
    refine z_aload_n dX8_children_6 rfl rfl ?_
    refine z_ifnonnull (tgt := 12) dX8_children_7 (by decide) ?_
    refine z_aload_n dX8_children_12 rfl rfl ?_
    refine z_aload_n dX8_children_13 rfl rfl ?_
    refine z_callv (N := MX8_refusalToGrow) (ci := 8) (nas := 1) (as := [_]) dX8_children_14 w_597 w_594 w_596 ws_12 w_1 (by decide +kernel) rfl rfl rfl (by decide) (Nat.le_of_ble_eq_true rfl) (by decide) (by decide) (ZC.mono (FA_ref hW hr2) ?_)
    rintro _ _ ⟨K14, J14, P14, R14, n14, s14, rfl, rfl, hW14, hE14, hf14, hP14⟩
    have hgb14 := grow_bd (A 44 s.toNat) (eE A s)
    refine z_istore_n dX8_children_17 rfl (by decide) rfl ?_
    refine z_iload_n dX8_children_18 rfl rfl ?_
    refine c_if_eq (tgt := 26) dX8_children_19 (by decide) (by omega) (fun h19 => ?_) (fun h19 => ?_)
    · refine z_aload_n dX8_children_26 rfl rfl ?_
      refine z_aload_n dX8_children_27 rfl rfl ?_
      refine z_callv (N := MX8_broodOf) (ci := 8) (nas := 1) (as := [_]) dX8_children_28 w_601 w_598 w_600 ws_13 w_1 (by decide +kernel) rfl rfl rfl (by decide) (Nat.le_of_ble_eq_true rfl) (by decide) (by decide) (ZC.mono (FA_brood hW14 hf14 (by omega)) ?_)
      rintro _ _ ⟨rfl, K28, J28, P28, R28, n28, s28, rfl, hW28, hE28, hf28, hp28, hs28, hP28⟩
      refine c_getI (ci := 0) (kf := 1) dX8_children_31 rfl (by decide) (by decide) rfl w_170 ?_
      rw [hs28]
      refine c_ireturn dX8_children_34 rfl ?_
      subst hQ0; unfold aChildren; rw [cif_pos (by omega)]; first | (rw [if_pos (by omega)]; exact ⟨rfl, _, _, _, _, _, _, rfl, WD_mono hW28, cs_Ev (Ev_trans hE14 hE28), fun a a1 a2 => (hP28 a (by omega) a2).trans (hP14 a (by omega) a2)⟩) | (rw [if_neg (by omega)]; exact ⟨rfl, _, _, _, _, _, _, rfl, WD_mono hW14, cs_Ev hE14, fun a a1 a2 => hP14 a (by omega) a2⟩)
    · refine z_iload_n dX8_children_22 rfl rfl ?_
      refine z_goto (tgt := 34) dX8_children_23 (by decide) ?_
      refine c_ireturn dX8_children_34 rfl ?_
      subst hQ0; unfold aChildren; rw [cif_pos (by omega)]; first | (rw [if_pos (by omega)]; exact ⟨rfl, _, _, _, _, _, _, rfl, WD_mono hW28, cs_Ev (Ev_trans hE14 hE28), fun a a1 a2 => (hP28 a (by omega) a2).trans (hP14 a (by omega) a2)⟩) | (rw [if_neg (by omega)]; exact ⟨rfl, _, _, _, _, _, _, rfl, WD_mono hW14, cs_Ev hE14, fun a a1 a2 => hP14 a (by omega) a2⟩)
set_option maxHeartbeats 4000000 in
set_option maxRecDepth 100000 in
theorem cMX8_child {s k t : Int} (hs : rI s) (hk : rI k) (ht : rI t) (hW : WD A c Kd J Rd n s0) : ZC g l MX8_child [.ref 4, .int (iZ s), .int (iZ k), .int (iZ t)] (KF Kd, zi J, zj P, RF Rd, n, s0) (PW (aChild A s k t).2 (c + 1) J P (.int (iZ (aChild A s k t).1))) := by
  refine ZC.of (by decide) (Nat.le_of_ble_eq_true rfl) ?_
  generalize hQ0 : (PW (aChild A s k t).2 (c + 1) J P (.int (iZ (aChild A s k t).1)) : Option Value → ZH → Prop) = Q0
  show Z g l MX8_child 0 [some (.ref 4), some (.int (iZ s)), some (.int (iZ k)), some (.int (iZ t)), none, none] [] (KF Kd, zi J, zj P, RF Rd, n, s0) Q0
  refine z_aload_n dX8_child_0 rfl rfl ?_
  refine z_iload_n dX8_child_1 rfl rfl ?_
  refine z_callv (N := MX8_held) (ci := 8) (nas := 1) (as := [_]) dX8_child_2 w_333 w_330 w_332 ws_2 w_1 (by decide +kernel) rfl rfl rfl (by decide) (Nat.le_of_ble_eq_true rfl) (by decide) (by decide) (ZC.mono (cMX8_held (by omega) hW) ?_)
  rintro _ _ ⟨rfl, hd2⟩
  rcases hd2 with ⟨hf2, rfl⟩ | ⟨hf2, r2, rfl, hr2⟩
  · skip
    refine z_astoreN dX8_child_5 (by decide) rfl ?_
    refine z_aloadN dX8_child_7 rfl ?_
    refine z_ifnullN (tgt := 19) dX8_child_9 (by decide) ?_
    refine c_iconst dX8_child_19 ?_
    refine c_ireturn dX8_child_20 rfl ?_
    subst hQ0; unfold aChild; rw [cif_neg (by omega)]; exact PW_id hW
  · have hK2 := FA_K1 hr2.1
    have hE2 := WD_ent hW hr2.1
    have hF2 := FA_okF hW hr2
    have hl2 := hF2.2.1
    refine z_astore dX8_child_5 (by decide) rfl ?_
    refine z_aload dX8_child_7 rfl ?_
    refine z_ifnull dX8_child_9 ?_
    refine z_iload_n dX8_child_12 rfl rfl ?_
    refine z_calls (N := MX8_isSlot) (nas := 1) (as := [_]) dX8_child_13 w_219 w_217 w_218 w_1 (by decide +kernel) rfl rfl (Nat.le_of_ble_eq_true rfl) (by decide) (by decide) (ZC.mono (cMX8_isSlot (by omega)) ?_)
    rintro _ _ ⟨b13, rfl, rfl, hb13⟩
    refine c_if_ne (tgt := 21) dX8_child_16 (by decide) (by omega) (fun h16 => ?_) (fun h16 => ?_)
    · have g13 := (hb13.resolve_right (fun z => by have := z.1; omega)).2
      clear hb13
      refine z_aload_n dX8_child_21 rfl rfl ?_
      refine z_aload dX8_child_22 rfl ?_
      refine z_callv (N := MX8_refusalToGrow) (ci := 8) (nas := 1) (as := [_]) dX8_child_24 w_597 w_594 w_596 ws_12 w_1 (by decide +kernel) rfl rfl rfl (by decide) (Nat.le_of_ble_eq_true rfl) (by decide) (by decide) (ZC.mono (FA_ref hW hr2) ?_)
      rintro _ _ ⟨K24, J24, P24, R24, n24, s24, rfl, rfl, hW24, hE24, hf24, hP24⟩
      have hgb24 := grow_bd (A 44 s.toNat) (eE A s)
      refine z_istore dX8_child_27 (by decide) rfl ?_
      refine z_iload dX8_child_29 rfl ?_
      refine c_if_eq (tgt := 37) dX8_child_31 (by decide) (by omega) (fun h31 => ?_) (fun h31 => ?_)
      · refine z_aload_n dX8_child_37 rfl rfl ?_
        refine z_aload dX8_child_38 rfl ?_
        refine z_callv (N := MX8_broodOf) (ci := 8) (nas := 1) (as := [_]) dX8_child_40 w_601 w_598 w_600 ws_13 w_1 (by decide +kernel) rfl rfl rfl (by decide) (Nat.le_of_ble_eq_true rfl) (by decide) (by decide) (ZC.mono (FA_brood hW24 hf24 (by omega)) ?_)
        rintro _ _ ⟨rfl, K40, J40, P40, R40, n40, s40, rfl, hW40, hE40, hf40, hp40, hs40, hP40⟩
        refine z_iload_n dX8_child_43 rfl rfl ?_
        refine z_aload_n dX8_child_44 rfl rfl ?_
        refine z_getR (ci := 8) (kf := 6) dX8_child_45 rfl (by decide) (by decide) rfl w_188 rfl ?_
        refine z_callv (N := MX0_shape) (ci := 0) (nas := 2) (as := [_, _]) dX8_child_48 w_636 w_633 w_634 w_635 w_7 (by decide +kernel) rfl rfl rfl (by decide) (Nat.le_of_ble_eq_true rfl) (by decide) (by decide) (ZC.mono (FA_shape hk hW40 hp40 hf40 (by omega)) ?_)
        rintro _ _ ⟨J48, b48, rfl, rfl, hb48⟩
        refine c_if_ne (tgt := 57) dX8_child_51 (by decide) (by omega) (fun h51 => ?_) (fun h51 => ?_)
        · obtain ⟨hb1, hkk, rfl⟩ := hb48.resolve_right (fun z => h51 z.1)
          have hg3 := grow_0 (show grow (A 44 s.toNat) (eE A s) = 0 by omega) hF2.1 hF2.2.1
          have hko := kid_ok hF2.1 hg3.2 hF2.2 hkk
          refine z_aload_n dX8_child_57 rfl rfl ?_
          refine z_iload_n dX8_child_58 rfl rfl ?_
          refine z_callv (N := MX8_storeDraft) (ci := 8) (nas := 1) (as := [_]) dX8_child_59 w_234 w_231 w_233 ws_0 w_1 (by decide +kernel) rfl rfl rfl (by decide) (Nat.le_of_ble_eq_true rfl) (by decide) (by decide) (ZC.mono (cMX8_storeDraft (nl := (A 44 s.toNat + 1)) (E := (kidE (A 44 s.toNat) (eE A s) k)) (by omega) (by omega) (entS_rng hko.2.1.1) hko.2.2.1 hko.2.2.2 hW40) ?_)
          rintro _ _ ⟨Kd59, J59, P59, Rd59, n59, s59, rfl, ⟨b59, rfl, hst59⟩, hcJ59, hcP59, hold59⟩
          refine c_if_eq (tgt := 75) dX8_child_62 (by decide) (by omega) (fun h62 => ?_) (fun h62 => ?_)
          · refine c_bipush dX8_child_75 (by decide) ?_
            refine c_ireturn dX8_child_77 rfl ?_
            subst hQ0; unfold aChild; rw [cif_pos (by omega), cif_pos (by omega), cif_pos hkk]
            rcases hst59 with ⟨z0, z1, z2, z3⟩ | ⟨z0, z1, z2⟩
            · first | (exfalso; omega) | exact ⟨by rw [dput_26 (by decide), z3], _, _, _, _, _, _, rfl, WD_dput z2, cs_dput (cs_trans (cs_Ev (Ev_trans hE24 hE40)) hcJ59), cs_trans (fun a a1 a2 => (hP40 a (by omega) a2).trans (hP24 a (by omega) a2)) hcP59⟩
            · exact absurd hko.2.1 z1
          · refine z_aload_n dX8_child_65 rfl rfl ?_
            refine z_getR (ci := 8) (kf := 6) dX8_child_66 rfl (by decide) (by decide) rfl w_188 rfl ?_
            refine c_getI (ci := 1) (kf := 2) dX8_child_69 rfl (by decide) (by decide) rfl w_85 ?_
            refine z_goto (tgt := 77) dX8_child_72 (by decide) ?_
            refine c_ireturn dX8_child_77 rfl ?_
            subst hQ0; unfold aChild; rw [cif_pos (by omega), cif_pos (by omega), cif_pos hkk]
            rcases hst59 with ⟨z0, z1, z2, z3⟩ | ⟨z0, z1, z2⟩
            · first | (exfalso; omega) | exact ⟨by rw [dput_26 (by decide), z3], _, _, _, _, _, _, rfl, WD_dput z2, cs_dput (cs_trans (cs_Ev (Ev_trans hE24 hE40)) hcJ59), cs_trans (fun a a1 a2 => (hP40 a (by omega) a2).trans (hP24 a (by omega) a2)) hcP59⟩
            · exact absurd hko.2.1 z1
        · refine c_bipush dX8_child_54 (by decide) ?_
          refine c_ireturn dX8_child_56 rfl ?_
          subst hQ0; unfold aChild
          obtain ⟨_, hkk, rfl⟩ := hb48.resolve_left (fun z => by have := z.1; omega)
          rw [cif_pos (by omega), cif_pos (by omega), cif_neg hkk]; exact ⟨rfl, _, _, _, _, _, _, rfl, WD_mono hW40, cs_Ev (Ev_trans hE24 hE40), fun a a1 a2 => (hP40 a (by omega) a2).trans (hP24 a (by omega) a2)⟩
      · refine z_iload dX8_child_34 rfl ?_
        refine c_ireturn dX8_child_36 rfl ?_
        subst hQ0; unfold aChild; rw [cif_pos (by omega), cif_neg (by omega)]; exact ⟨rfl, _, _, _, _, _, _, rfl, WD_mono hW24, cs_Ev hE24, fun a a1 a2 => hP24 a (by omega) a2⟩
    · have g13 := (hb13.resolve_left (fun z => by have := z.1; omega)).2
      clear hb13
      refine c_iconst dX8_child_19 ?_
      refine c_ireturn dX8_child_20 rfl ?_
      subst hQ0; unfold aChild; rw [cif_neg (by omega)]; exact PW_id hW
end Cls28
