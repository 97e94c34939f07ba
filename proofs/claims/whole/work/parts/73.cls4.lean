section Cls4
variable {g : ZG} {l : Launch} {Kd : ZK} {Rd : ZR} {n s0 c : Nat} {A J P : Nat → Nat → Int}
theorem sh_K1 {t : Nat} (h : t < 4) : (KF Kd (18 + 2 * t)).1 = 15 := by
  rcases (show t = 0 ∨ t = 1 ∨ t = 2 ∨ t = 3 by omega) with rfl | rfl | rfl | rfl <;> rfl
theorem sh_R2 {t : Nat} (h : t < 4) : RF Rd (18 + 2 * t) 2 = some (19 + 2 * t) := by
  rcases (show t = 0 ∨ t = 1 ∨ t = 2 ∨ t = 3 by omega) with rfl | rfl | rfl | rfl <;> rfl
theorem sh_K3 {t : Nat} (h : t < 4) : KF Kd (19 + 2 * t) = (1, 40) := by
  rcases (show t = 0 ∨ t = 1 ∨ t = 2 ∨ t = 3 by omega) with rfl | rfl | rfl | rfl <;> rfl
set_option maxHeartbeats 4000000 in
set_option maxRecDepth 100000 in
theorem cMX5_isMissing {t : Nat} (ht : t < 4) (hso : rI (J (18 + 2 * t) 0)) : ZC g l MX5_isMissing [.ref (18 + 2 * t)] (KF Kd, zi J, zj P, RF Rd, n, s0) (fun rr hh => ∃ b : Int, hh = (KF Kd, zi J, zj P, RF Rd, n, s0) ∧ rr = some (.int (iZ b)) ∧ (b = 1 ∧ (J (18 + 2 * t) 0 = -1) ∨ b = 0 ∧ ¬ (J (18 + 2 * t) 0 = -1))) := by
  refine ZC.of (by decide) (Nat.le_of_ble_eq_true rfl) ?_
  generalize hQ0 : (fun rr hh => ∃ b : Int, hh = (KF Kd, zi J, zj P, RF Rd, n, s0) ∧ rr = some (.int (iZ b)) ∧ (b = 1 ∧ (J (18 + 2 * t) 0 = -1) ∨ b = 0 ∧ ¬ (J (18 + 2 * t) 0 = -1)) : Option Value → ZH → Prop) = Q0
  show Z g l MX5_isMissing 0 [some (.ref (18 + 2 * t))] [] (KF Kd, zi J, zj P, RF Rd, n, s0) Q0
  refine z_aload_n dX5_isMissing_0 rfl rfl ?_
  refine c_getI (ci := 5) (kf := 0) dX5_isMissing_1 (sh_K1 ht) (by decide) (by decide) rfl w_59 ?_
  refine c_iconst dX5_isMissing_4 ?_
  refine c_icmp_ne (tgt := 12) dX5_isMissing_5 (by decide) (by omega) (by omega) (fun h5 => ?_) (fun h5 => ?_)
  · refine c_iconst dX5_isMissing_12 ?_
    refine c_zreturn dX5_isMissing_13 rfl (by omega) ?_
    subst hQ0; refine ⟨_, rfl, rfl, ?_⟩; omega
  · refine c_iconst dX5_isMissing_8 ?_
    refine z_goto (tgt := 13) dX5_isMissing_9 (by decide) ?_
    refine c_zreturn dX5_isMissing_13 rfl (by omega) ?_
    subst hQ0; refine ⟨_, rfl, rfl, ?_⟩; omega
set_option maxHeartbeats 4000000 in
set_option maxRecDepth 100000 in
theorem cMX5_has {t : Nat} (ht : t < 4) {f k : Int} (hf : rI f) (hk : rI k) (hz : 0 ≤ J (18 + 2 * t) 1 ∧ J (18 + 2 * t) 1 ≤ 40) : ZC g l MX5_has [.ref (18 + 2 * t), .int (iZ f), .int (iZ k)] (KF Kd, zi J, zj P, RF Rd, n, s0) (fun rr hh => ∃ b : Int, hh = (KF Kd, zi J, zj P, RF Rd, n, s0) ∧ rr = some (.int (iZ b)) ∧ (b = 1 ∧ (0 ≤ k ∧ k ≤ J (18 + 2 * t) 1 ∧ 0 ≤ f ∧ f ≤ J (18 + 2 * t) 1 - k) ∨ b = 0 ∧ ¬ (0 ≤ k ∧ k ≤ J (18 + 2 * t) 1 ∧ 0 ≤ f ∧ f ≤ J (18 + 2 * t) 1 - k))) := by
  refine ZC.of (by decide) (Nat.le_of_ble_eq_true rfl) ?_
  generalize hQ0 : (fun rr hh => ∃ b : Int, hh = (KF Kd, zi J, zj P, RF Rd, n, s0) ∧ rr = some (.int (iZ b)) ∧ (b = 1 ∧ (0 ≤ k ∧ k ≤ J (18 + 2 * t) 1 ∧ 0 ≤ f ∧ f ≤ J (18 + 2 * t) 1 - k) ∨ b = 0 ∧ ¬ (0 ≤ k ∧ k ≤ J (18 + 2 * t) 1 ∧ 0 ≤ f ∧ f ≤ J (18 + 2 * t) 1 - k)) : Option Value → ZH → Prop) = Q0
  show Z g l MX5_has 0 [some (.ref (18 + 2 * t)), some (.int (iZ f)), some (.int (iZ k))] [] (KF Kd, zi J, zj P, RF Rd, n, s0) Q0
  refine z_iload_n dX5_has_0 rfl rfl ?_
  refine c_if_lt (tgt := 30) dX5_has_1 (by decide) (by omega) (fun h1 => ?_) (fun h1 => ?_)
  · refine c_iconst dX5_has_30 ?_
    refine c_zreturn dX5_has_31 rfl (by omega) ?_
    subst hQ0; refine ⟨_, rfl, rfl, ?_⟩; omega
  · refine z_iload_n dX5_has_4 rfl rfl ?_
    refine z_aload_n dX5_has_5 rfl rfl ?_
    refine c_getI (ci := 5) (kf := 1) dX5_has_6 (sh_K1 ht) (by decide) (by decide) rfl w_61 ?_
    refine c_icmp_gt (tgt := 30) dX5_has_9 (by decide) (by omega) (by omega) (fun h9 => ?_) (fun h9 => ?_)
    · refine c_iconst dX5_has_30 ?_
      refine c_zreturn dX5_has_31 rfl (by omega) ?_
      subst hQ0; refine ⟨_, rfl, rfl, ?_⟩; omega
    · refine z_iload_n dX5_has_12 rfl rfl ?_
      refine c_if_lt (tgt := 30) dX5_has_13 (by decide) (by omega) (fun h13 => ?_) (fun h13 => ?_)
      · refine c_iconst dX5_has_30 ?_
        refine c_zreturn dX5_has_31 rfl (by omega) ?_
        subst hQ0; refine ⟨_, rfl, rfl, ?_⟩; omega
      · refine z_iload_n dX5_has_16 rfl rfl ?_
        refine z_aload_n dX5_has_17 rfl rfl ?_
        refine c_getI (ci := 5) (kf := 1) dX5_has_18 (sh_K1 ht) (by decide) (by decide) rfl w_61 ?_
        refine z_iload_n dX5_has_21 rfl rfl ?_
        refine c_isub dX5_has_22 ?_
        refine c_icmp_gt (tgt := 30) dX5_has_23 (by decide) (by omega) (by omega) (fun h23 => ?_) (fun h23 => ?_)
        · refine c_iconst dX5_has_30 ?_
          refine c_zreturn dX5_has_31 rfl (by omega) ?_
          subst hQ0; refine ⟨_, rfl, rfl, ?_⟩; omega
        · refine c_iconst dX5_has_26 ?_
          refine z_goto (tgt := 31) dX5_has_27 (by decide) ?_
          refine c_zreturn dX5_has_31 rfl (by omega) ?_
          subst hQ0; refine ⟨_, rfl, rfl, ?_⟩; omega
set_option maxHeartbeats 4000000 in
set_option maxRecDepth 100000 in
theorem cMX5_put {t : Nat} (ht : t < 4) {i v : Int} (hi : 0 ≤ i ∧ i < 40) (hso : rI (J (18 + 2 * t) 0)) : ZC g l MX5_put [.ref (18 + 2 * t), .int (iZ i), .int (iZ v)] (KF Kd, zi J, zj P, RF Rd, n, s0) (fun rr hh => rr = none ∧ hh = (KF Kd, zi (zup J (19 + 2 * t) i.toNat (lowS (J (18 + 2 * t) 0) v)), zj P, RF Rd, n, s0)) := by
  refine ZC.of (by decide) (Nat.le_of_ble_eq_true rfl) ?_
  generalize hQ0 : (fun rr hh => rr = none ∧ hh = (KF Kd, zi (zup J (19 + 2 * t) i.toNat (lowS (J (18 + 2 * t) 0) v)), zj P, RF Rd, n, s0) : Option Value → ZH → Prop) = Q0
  show Z g l MX5_put 0 [some (.ref (18 + 2 * t)), some (.int (iZ i)), some (.int (iZ v))] [] (KF Kd, zi J, zj P, RF Rd, n, s0) Q0
  refine z_aload_n dX5_put_0 rfl rfl ?_
  refine z_getR (ci := 5) (kf := 2) dX5_put_1 (sh_K1 ht) (by decide) (by decide) rfl w_62 (sh_R2 ht) ?_
  refine z_iload_n dX5_put_4 rfl rfl ?_
  refine z_aload_n dX5_put_5 rfl rfl ?_
  refine c_getI (ci := 5) (kf := 0) dX5_put_6 (sh_K1 ht) (by decide) (by decide) rfl w_59 ?_
  refine c_if_ne (tgt := 17) dX5_put_9 (by decide) (by omega) (fun h9 => ?_) (fun h9 => ?_)
  · refine z_iload_n dX5_put_17 rfl rfl ?_
    refine c_iast dX5_put_18 (sh_K3 ht) (by omega) (by decide) ?_
    refine z_return dX5_put_19 rfl ?_
    subst hQ0; refine ⟨rfl, ?_⟩; unfold lowS; first | rw [if_pos (by omega)] | rw [if_neg (by omega)]
  · refine z_iload_n dX5_put_12 rfl rfl ?_
    refine c_i2b dX5_put_13 ?_
    refine z_goto (tgt := 18) dX5_put_14 (by decide) ?_
    refine c_iast dX5_put_18 (sh_K3 ht) (by omega) (by decide) ?_
    refine z_return dX5_put_19 rfl ?_
    subst hQ0; refine ⟨rfl, ?_⟩; unfold lowS; first | rw [if_pos (by omega)] | rw [if_neg (by omega)]
set_option maxHeartbeats 4000000 in
set_option maxRecDepth 100000 in
theorem cMX5_become {t : Nat} (ht : t < 4) {so k : Int} : ZC g l MX5_become [.ref (18 + 2 * t), .int (iZ so), .int (iZ k)] (KF Kd, zi J, zj P, RF Rd, n, s0) (fun rr hh => rr = none ∧ hh = (KF Kd, zi (fun b q => if b = 19 + 2 * t ∧ q < 40 then 0 else zup (zup J (18 + 2 * t) 0 so) (18 + 2 * t) 1 k b q), zj P, RF Rd, n, s0)) := by
  refine ZC.of (by decide) (Nat.le_of_ble_eq_true rfl) ?_
  generalize hQ0 : (fun rr hh => rr = none ∧ hh = (KF Kd, zi (fun b q => if b = 19 + 2 * t ∧ q < 40 then 0 else zup (zup J (18 + 2 * t) 0 so) (18 + 2 * t) 1 k b q), zj P, RF Rd, n, s0) : Option Value → ZH → Prop) = Q0
  show Z g l MX5_become 0 [some (.ref (18 + 2 * t)), some (.int (iZ so)), some (.int (iZ k))] [] (KF Kd, zi J, zj P, RF Rd, n, s0) Q0
  refine z_aload_n dX5_become_0 rfl rfl ?_
  refine z_iload_n dX5_become_1 rfl rfl ?_
  refine c_putI (ci := 5) (kf := 0) dX5_become_2 (sh_K1 ht) (by decide) (by decide) rfl (by decide) w_59 ?_
  refine z_aload_n dX5_become_5 rfl rfl ?_
  refine z_iload_n dX5_become_6 rfl rfl ?_
  refine c_putI (ci := 5) (kf := 1) dX5_become_7 (sh_K1 ht) (by decide) (by decide) rfl (by decide) w_61 ?_
  refine z_aload_n dX5_become_10 rfl rfl ?_
  refine z_getR (ci := 5) (kf := 2) dX5_become_11 (sh_K1 ht) (by decide) (by decide) rfl w_62 (sh_R2 ht) ?_
  refine c_iconst dX5_become_14 ?_
  refine z_calls (N := MJ7_fill_53178) (nas := 2) (as := [_, _]) dX5_become_15 w_226 w_731 w_225 w_9 (by decide +kernel) rfl rfl (Nat.le_of_ble_eq_true rfl) (by decide) (by decide) (ZC.mono (cMJ7_fill_53178 (sh_K3 ht) (by decide)) ?_)
  rintro _ _ ⟨rfl, rfl⟩
  refine z_return dX5_become_18 rfl ?_
  subst hQ0; exact ⟨rfl, rfl⟩
set_option maxHeartbeats 4000000 in
set_option maxRecDepth 100000 in
theorem cMX8_held {s : Int} (hs : rI s) (hW : WD A c Kd J Rd n s0) : ZC g l MX8_held [.ref 4, .int (iZ s)] (KF Kd, zi J, zj P, RF Rd, n, s0) (fun rr hh => hh = (KF Kd, zi J, zj P, RF Rd, n, s0) ∧ ((¬ (0 ≤ s ∧ s < 6 ∧ 0 < A 44 s.toNat) ∧ rr = some .null) ∨ ((0 ≤ s ∧ s < 6 ∧ 0 < A 44 s.toNat) ∧ ∃ r, rr = some (.ref r) ∧ FA A Kd J Rd n s.toNat r))) := by
  refine ZC.of (by decide) (Nat.le_of_ble_eq_true rfl) ?_
  generalize hQ0 : (fun rr hh => hh = (KF Kd, zi J, zj P, RF Rd, n, s0) ∧ ((¬ (0 ≤ s ∧ s < 6 ∧ 0 < A 44 s.toNat) ∧ rr = some .null) ∨ ((0 ≤ s ∧ s < 6 ∧ 0 < A 44 s.toNat) ∧ ∃ r, rr = some (.ref r) ∧ FA A Kd J Rd n s.toNat r)) : Option Value → ZH → Prop) = Q0
  show Z g l MX8_held 0 [some (.ref 4), some (.int (iZ s))] [] (KF Kd, zi J, zj P, RF Rd, n, s0) Q0
  refine z_iload_n dX8_held_0 rfl rfl ?_
  refine z_calls (N := MX8_isSlot) (nas := 1) (as := [_]) dX8_held_1 w_219 w_217 w_218 w_1 (by decide +kernel) rfl rfl (Nat.le_of_ble_eq_true rfl) (by decide) (by decide) (ZC.mono (cMX8_isSlot (by omega)) ?_)
  rintro _ _ ⟨b1, rfl, rfl, hb1⟩
  refine c_if_eq (tgt := 16) dX8_held_4 (by decide) (by omega) (fun h4 => ?_) (fun h4 => ?_)
  · have g1 := (hb1.resolve_left (fun z => by have := z.1; omega)).2
    clear hb1
    refine z_null dX8_held_16 ?_
    refine z_areturnN dX8_held_17 rfl (Or.inl ⟨_, rfl⟩) ?_
    subst hQ0; first | exact ⟨rfl, Or.inr ⟨⟨by omega, by omega, by have := (FA_okF hW hx2).1; omega⟩, r, rfl, hx2⟩⟩ | exact ⟨rfl, Or.inl ⟨by omega, rfl⟩⟩
  · have g1 := (hb1.resolve_right (fun z => by have := z.1; omega)).2
    clear hb1
    refine z_aload_n dX8_held_7 rfl rfl ?_
    refine z_getR (ci := 8) (kf := 0) dX8_held_8 rfl (by decide) (by decide) rfl w_182 rfl ?_
    refine z_iload_n dX8_held_11 rfl rfl ?_
    rcases hW.2.2.1.1 s.toNat (by omega) with ⟨hx, hx2⟩ | ⟨r, hx, hx2⟩
    · refine c_aaldN dX8_held_12 (Or.inl rfl) (by omega) (by decide) hx ?_
      refine z_goto (tgt := 17) dX8_held_13 (by decide) ?_
      refine z_areturnN dX8_held_17 rfl (Or.inl ⟨_, rfl⟩) ?_
      subst hQ0; first | exact ⟨rfl, Or.inr ⟨⟨by omega, by omega, by have := (FA_okF hW hx2).1; omega⟩, r, rfl, hx2⟩⟩ | exact ⟨rfl, Or.inl ⟨by omega, rfl⟩⟩
    · refine c_aald dX8_held_12 (Or.inl rfl) (by omega) (by decide) hx ?_
      refine z_goto (tgt := 17) dX8_held_13 (by decide) ?_
      refine z_areturn dX8_held_17 rfl (Or.inl ⟨_, rfl⟩) ?_
      subst hQ0; first | exact ⟨rfl, Or.inr ⟨⟨by omega, by omega, by have := (FA_okF hW hx2).1; omega⟩, r, rfl, hx2⟩⟩ | exact ⟨rfl, Or.inl ⟨by omega, rfl⟩⟩
set_option maxHeartbeats 4000000 in
set_option maxRecDepth 100000 in
theorem cMX8_heldSlots (hW : WD A c Kd J Rd n s0) : ZC g l MX8_heldSlots [.ref 4] (KF Kd, zi J, zj P, RF Rd, n, s0) (fun rr hh => rr = some (.int (iZ (heldN A 6))) ∧ hh = (KF Kd, zi J, zj P, RF Rd, n, s0)) := by
  refine ZC.of (by decide) (Nat.le_of_ble_eq_true rfl) ?_
  generalize hQ0 : (fun rr hh => rr = some (.int (iZ (heldN A 6))) ∧ hh = (KF Kd, zi J, zj P, RF Rd, n, s0) : Option Value → ZH → Prop) = Q0
  show Z g l MX8_heldSlots 0 [some (.ref 4), none, none] [] (KF Kd, zi J, zj P, RF Rd, n, s0) Q0
  refine c_iconst dX8_heldSlots_0 ?_
  refine z_istore_n dX8_heldSlots_1 rfl (by decide) rfl ?_
  refine c_iconst dX8_heldSlots_2 ?_
  refine z_istore_n dX8_heldSlots_3 rfl (by decide) rfl ?_
  have L4 : ∀ (m4 : Nat), ∀ (k w : Int), (6 - k).toNat = m4 → (0 ≤ k ∧ k ≤ 6) → (w = heldN A k.toNat) → Z g l MX8_heldSlots 4 [some (.ref 4), some (.int (iZ w)), some (.int (iZ k))] [] (KF Kd, zi J, zj P, RF Rd, n, s0) Q0 := by
    intro m4
    induction m4 using Nat.strongRecOn with
    | ind m4 ih4 =>
      intro k w hm4 hk hw
      refine z_iload_n dX8_heldSlots_4 rfl rfl ?_
      refine c_bipush dX8_heldSlots_5 (by decide) ?_
      refine c_icmp_ge (tgt := 28) dX8_heldSlots_7 (by decide) (by omega) (by omega) (fun h7 => ?_) (fun h7 => ?_)
      · refine z_iload_n dX8_heldSlots_28 rfl rfl ?_
        refine c_ireturn dX8_heldSlots_29 rfl ?_
        subst hQ0; refine ⟨?_, rfl⟩; rw [hw, show k.toNat = 6 by omega]
      · refine z_aload_n dX8_heldSlots_10 rfl rfl ?_
        refine z_getR (ci := 8) (kf := 0) dX8_heldSlots_11 rfl (by decide) (by decide) rfl w_182 rfl ?_
        refine z_iload_n dX8_heldSlots_14 rfl rfl ?_
        rcases hW.2.2.1.1 k.toNat (by omega) with ⟨hx, hx2⟩ | ⟨r, hx, hx2⟩
        · have he : heldN A (k.toNat + 1) = heldN A k.toNat := by rw [heldN, if_neg (by omega), Int.add_zero]
          refine c_aaldN dX8_heldSlots_15 (Or.inl rfl) (by omega) (by decide) hx ?_
          refine z_ifnullN (tgt := 22) dX8_heldSlots_16 (by decide) ?_
          refine c_iinc dX8_heldSlots_22 rfl (by decide) rfl ?_
          refine z_goto (tgt := 4) dX8_heldSlots_25 (by decide) ?_
          exact Z.fg2 (ih4 _ (by omega) _ _ rfl (by omega) (by rw [show (k + 1).toNat = k.toNat + 1 by omega, he]; omega)) (zs1 rfl (zs1 rfl (zs1 rfl zs0)))
        · have he : heldN A (k.toNat + 1) = heldN A k.toNat + 1 := by
            have := (FA_okF hW hx2).1
            rw [heldN, if_pos (by omega)]
          refine c_aald dX8_heldSlots_15 (Or.inl rfl) (by omega) (by decide) hx ?_
          refine z_ifnull dX8_heldSlots_16 ?_
          refine c_iinc dX8_heldSlots_19 rfl (by decide) rfl ?_
          refine c_iinc dX8_heldSlots_22 rfl (by decide) rfl ?_
          refine z_goto (tgt := 4) dX8_heldSlots_25 (by decide) ?_
          exact Z.fg2 (ih4 _ (by omega) _ _ rfl (by omega) (by rw [show (k + 1).toNat = k.toNat + 1 by omega, he]; omega)) (zs1 rfl (zs1 rfl (zs1 rfl zs0)))
  exact Z.fg2 (L4 _ _ _ rfl (by omega) rfl) (zs1 rfl (zs1 rfl (zs1 rfl zs0)))
theorem WD_sh (hW : WD A c Kd J Rd n s0) {t : Nat} (ht : t < 4) : J (18 + 2 * t) 0 = A 63 t ∧ J (18 + 2 * t) 1 = A 64 t ∧ (A 63 t = -1 ∨ A 63 t = 0 ∨ A 63 t = 1) ∧ 0 ≤ A 64 t ∧ A 64 t ≤ 40 ∧ (A 63 t = -1 → A 64 t = 0) := by
  have h1 := hW.2.2.1.2.2.2.2.2.2 t ht
  have h2 := hW.2.2.2.1.2.2.1 t ht
  refine ⟨h1.1, h1.2.1, by omega, h2.2.1, h2.2.2, by omega⟩
set_option maxHeartbeats 4000000 in
set_option maxRecDepth 100000 in
theorem cMX8_presentSheets (hW : WD A c Kd J Rd n s0) : ZC g l MX8_presentSheets [.ref 4] (KF Kd, zi J, zj P, RF Rd, n, s0) (fun rr hh => rr = some (.int (iZ (sheetN A 4))) ∧ hh = (KF Kd, zi J, zj P, RF Rd, n, s0)) := by
  refine ZC.of (by decide) (Nat.le_of_ble_eq_true rfl) ?_
  generalize hQ0 : (fun rr hh => rr = some (.int (iZ (sheetN A 4))) ∧ hh = (KF Kd, zi J, zj P, RF Rd, n, s0) : Option Value → ZH → Prop) = Q0
  show Z g l MX8_presentSheets 0 [some (.ref 4), none, none] [] (KF Kd, zi J, zj P, RF Rd, n, s0) Q0
  refine c_iconst dX8_presentSheets_0 ?_
  refine z_istore_n dX8_presentSheets_1 rfl (by decide) rfl ?_
  refine c_iconst dX8_presentSheets_2 ?_
  refine z_istore_n dX8_presentSheets_3 rfl (by decide) rfl ?_
  have L4 : ∀ (m4 : Nat), ∀ (k w : Int), (4 - k).toNat = m4 → (0 ≤ k ∧ k ≤ 4) → (w = sheetN A k.toNat) → Z g l MX8_presentSheets 4 [some (.ref 4), some (.int (iZ w)), some (.int (iZ k))] [] (KF Kd, zi J, zj P, RF Rd, n, s0) Q0 := by
    intro m4
    induction m4 using Nat.strongRecOn with
    | ind m4 ih4 =>
      intro k w hm4 hk hw
      refine z_iload_n dX8_presentSheets_4 rfl rfl ?_
      refine c_iconst dX8_presentSheets_5 ?_
      refine c_icmp_ge (tgt := 30) dX8_presentSheets_6 (by decide) (by omega) (by omega) (fun h6 => ?_) (fun h6 => ?_)
      · refine z_iload_n dX8_presentSheets_30 rfl rfl ?_
        refine c_ireturn dX8_presentSheets_31 rfl ?_
        subst hQ0; refine ⟨?_, rfl⟩; rw [hw, show k.toNat = 4 by omega]
      · refine z_aload_n dX8_presentSheets_9 rfl rfl ?_
        refine z_getR (ci := 8) (kf := 5) dX8_presentSheets_10 rfl (by decide) (by decide) rfl w_187 rfl ?_
        refine z_iload_n dX8_presentSheets_13 rfl rfl ?_
        refine c_aald dX8_presentSheets_14 (Or.inr rfl) (by omega) (by decide) (sh_R (by omega)) ?_
        have hs15 := WD_sh hW (t := k.toNat) (by omega)
        refine z_callv (N := MX5_isMissing) (ci := 5) (nas := 0) (as := []) dX8_presentSheets_15 w_317 w_314 w_315 w_316 w_3 (by decide +kernel) rfl rfl (sh_K1 (by omega)) (by decide) (Nat.le_of_ble_eq_true rfl) (by decide) (by decide) (ZC.mono (cMX5_isMissing (by omega) (by omega)) ?_)
        rintro _ _ ⟨b15, rfl, rfl, hb15⟩
        refine c_if_ne (tgt := 24) dX8_presentSheets_18 (by decide) (by omega) (fun h18 => ?_) (fun h18 => ?_)
        · have g15 := (hb15.resolve_right (fun z => by have := z.1; omega)).2
          clear hb15
          refine c_iinc dX8_presentSheets_24 rfl (by decide) rfl ?_
          refine z_goto (tgt := 4) dX8_presentSheets_27 (by decide) ?_
          exact Z.fg2 (ih4 _ (by omega) _ _ rfl (by omega) (by rw [show (k + 1).toNat = k.toNat + 1 by omega, sheetN]; first | (rw [if_pos (by omega)]; omega) | (rw [if_neg (by omega)]; omega))) (zs1 rfl (zs1 rfl (zs1 rfl zs0)))
        · have g15 := (hb15.resolve_left (fun z => by have := z.1; omega)).2
          clear hb15
          refine c_iinc dX8_presentSheets_21 rfl (by decide) rfl ?_
          refine c_iinc dX8_presentSheets_24 rfl (by decide) rfl ?_
          refine z_goto (tgt := 4) dX8_presentSheets_27 (by decide) ?_
          exact Z.fg2 (ih4 _ (by omega) _ _ rfl (by omega) (by rw [show (k + 1).toNat = k.toNat + 1 by omega, sheetN]; first | (rw [if_pos (by omega)]; omega) | (rw [if_neg (by omega)]; omega))) (zs1 rfl (zs1 rfl (zs1 rfl zs0)))
  exact Z.fg2 (L4 _ _ _ rfl (by omega) rfl) (zs1 rfl (zs1 rfl (zs1 rfl zs0)))
set_option maxHeartbeats 4000000 in
set_option maxRecDepth 100000 in
theorem cMX3_init {r : Nat} (hK : (KF Kd r).1 = 13) (hr : 66 ≤ r ∧ 66 ≤ n ∧ r ≠ n) : ZC g l MX3_init [.ref r, .ref 26] (KF Kd, zi J, zj P, RF Rd, n, s0) (fun rr hh => rr = none ∧ ∃ J' : Nat → Nat → Int, hh = (KF (zkp Kd n (1, 16)), zi J', zj P, RF (zup Rd r 1 (some n)), n + 1, s0 + 16) ∧ J' r 0 = J 26 0 ∧ J' r 2 = J 26 2 ∧ J' r 3 = J 26 3 ∧ (∀ k, J' n k = J 27 k) ∧ ∀ a, a ≠ r → a ≠ n → J' a = J a) := by
  refine ZC.of (by decide) (Nat.le_of_ble_eq_true rfl) ?_
  generalize hQ0 : (fun rr hh => rr = none ∧ ∃ J' : Nat → Nat → Int, hh = (KF (zkp Kd n (1, 16)), zi J', zj P, RF (zup Rd r 1 (some n)), n + 1, s0 + 16) ∧ J' r 0 = J 26 0 ∧ J' r 2 = J 26 2 ∧ J' r 3 = J 26 3 ∧ (∀ k, J' n k = J 27 k) ∧ ∀ a, a ≠ r → a ≠ n → J' a = J a : Option Value → ZH → Prop) = Q0
  show Z g l MX3_init 0 [some (.ref r), some (.ref 26)] [] (KF Kd, zi J, zj P, RF Rd, n, s0) Q0
  refine z_aload_n dX3_init_0 rfl rfl ?_
  refine z_objInit dX3_init_1 w_266 w_20 w_21 (by decide) (Nat.le_of_ble_eq_true rfl) ?_
  refine z_aload_n dX3_init_4 rfl rfl ?_
  refine z_aload_n dX3_init_5 rfl rfl ?_
  refine c_getI (ci := 1) (kf := 0) dX3_init_6 rfl (by decide) (by decide) rfl w_77 ?_
  refine c_putI (ci := 3) (kf := 0) dX3_init_9 hK (by decide) (by decide) rfl (by decide) w_274 ?_
  refine z_aload_n dX3_init_12 rfl rfl ?_
  refine z_aload_n dX3_init_13 rfl rfl ?_
  refine z_getR (ci := 1) (kf := 1) dX3_init_14 rfl (by decide) (by decide) rfl w_82 rfl ?_
  refine c_clone dX3_init_17 w_267 w_268 w_269 w_270 w_271 rfl (by decide) (Nat.le_of_ble_eq_true rfl) ?_
  rw [KF_kp (by omega)]
  have hK2 : (KF (zkp Kd n (1, 16)) r).1 = 13 := by rw [KF_zk hr.2.2]; exact hK
  refine z_castA dX3_init_20 w_273 (by rw [KF_dyn (by omega)]; exact zkp_eq) ?_
  refine z_putR (ci := 3) (kf := 1) dX3_init_23 hK2 (by decide) (by decide) rfl (by decide) (fun _ => rfl) (fun _ => rfl) w_281 ?_
  rw [RF_up (Or.inr (by omega))]
  refine z_aload_n dX3_init_26 rfl rfl ?_
  refine z_aload_n dX3_init_27 rfl rfl ?_
  refine c_getI (ci := 1) (kf := 2) dX3_init_28 rfl (by decide) (by decide) rfl w_84 ?_
  refine c_putI (ci := 3) (kf := 2) dX3_init_31 hK2 (by decide) (by decide) rfl (by decide) w_287 ?_
  refine z_aload_n dX3_init_34 rfl rfl ?_
  refine z_aload_n dX3_init_35 rfl rfl ?_
  refine c_getI (ci := 1) (kf := 3) dX3_init_36 rfl (by decide) (by decide) rfl w_87 ?_
  refine c_putI (ci := 3) (kf := 3) dX3_init_39 hK2 (by decide) (by decide) rfl (by decide) w_290 ?_
  refine z_return dX3_init_42 rfl ?_
  subst hQ0
  have n1 : ¬ 26 = r := by omega
  have n2 : ¬ 26 = n := by omega
  have n3 : ¬ 27 = r := by omega
  have n4 : ¬ n = r := fun e => hr.2.2 e.symm
  have n5 : ¬ r = n := hr.2.2
  refine ⟨rfl, _, rfl, ?_, ?_, ?_, fun k => ?_, fun a h1 h2 => ?_⟩
  · simp [zup, zupA, n5]
  · simp [zup, zupA, n1, n2]
  · simp [zup, zupA, n1, n2]
  · simp [zup, zupA, n3, n4]
  · rw [zup_ne h1, zup_ne h1]
    show (if a = n then _ else _) = _
    rw [if_neg h2, zup_ne h1]
set_option maxHeartbeats 4000000 in
set_option maxRecDepth 100000 in
theorem cMX3_greatestSquare {r e : Nat} (hK : (KF Kd r).1 = 13) (hR : RF Rd r 1 = some e) (hKe : KF Kd e = (1, 16)) (hl : 1 ≤ J r 0 ∧ J r 0 ≤ 4) (hE : entS (J e)) : ZC g l MX3_greatestSquare [.ref r] (KF Kd, zi J, zj P, RF Rd, n, s0) (fun rr hh => rr = some (.int (iZ (mostS (J e) (J r 0).toNat))) ∧ hh = (KF Kd, zi J, zj P, RF Rd, n, s0)) := by
  refine ZC.of (by decide) (Nat.le_of_ble_eq_true rfl) ?_
  generalize hQ0 : (fun rr hh => rr = some (.int (iZ (mostS (J e) (J r 0).toNat))) ∧ hh = (KF Kd, zi J, zj P, RF Rd, n, s0) : Option Value → ZH → Prop) = Q0
  show Z g l MX3_greatestSquare 0 [some (.ref r), none, none] [] (KF Kd, zi J, zj P, RF Rd, n, s0) Q0
  refine c_iconst dX3_greatestSquare_0 ?_
  refine z_istore_n dX3_greatestSquare_1 rfl (by decide) rfl ?_
  refine c_iconst dX3_greatestSquare_2 ?_
  refine z_istore_n dX3_greatestSquare_3 rfl (by decide) rfl ?_
  have L4 : ∀ (m4 : Nat), ∀ (k w : Int), (J r 0 - k).toNat = m4 → (0 ≤ k ∧ k ≤ J r 0) → (w = mostS (J e) k.toNat) → Z g l MX3_greatestSquare 4 [some (.ref r), some (.int (iZ w)), some (.int (iZ k))] [] (KF Kd, zi J, zj P, RF Rd, n, s0) Q0 := by
    intro m4
    induction m4 using Nat.strongRecOn with
    | ind m4 ih4 =>
      intro k w hm4 hk hw
      refine z_iload_n dX3_greatestSquare_4 rfl rfl ?_
      refine z_aload_n dX3_greatestSquare_5 rfl rfl ?_
      refine c_getI (ci := 3) (kf := 0) dX3_greatestSquare_6 hK (by decide) (by decide) rfl w_274 ?_
      refine c_icmp_ge (tgt := 33) dX3_greatestSquare_9 (by decide) (by omega) (by omega) (fun h9 => ?_) (fun h9 => ?_)
      · refine z_iload_n dX3_greatestSquare_33 rfl rfl ?_
        refine c_ireturn dX3_greatestSquare_34 rfl ?_
        subst hQ0; refine ⟨?_, rfl⟩; rw [hw, show k = J r 0 by omega]
      · refine z_iload_n dX3_greatestSquare_12 rfl rfl ?_
        refine z_aload_n dX3_greatestSquare_13 rfl rfl ?_
        refine z_getR (ci := 3) (kf := 1) dX3_greatestSquare_14 hK (by decide) (by decide) rfl w_281 hR ?_
        refine c_iconst dX3_greatestSquare_17 ?_
        refine z_iload_n dX3_greatestSquare_18 rfl rfl ?_
        refine c_imul dX3_greatestSquare_19 ?_
        refine z_iload_n dX3_greatestSquare_20 rfl rfl ?_
        refine c_iadd dX3_greatestSquare_21 ?_
        refine c_iald dX3_greatestSquare_22 hKe (by omega) (by decide) ?_
        rw [show (4 * k + k).toNat = 5 * k.toNat by omega]
        have e23 := hE (5 * k.toNat) (by omega)
        have m23 := mostS_bd hE k.toNat (by omega)
        refine z_calls (N := MJ9_max_7cf53) (nas := 2) (as := [_, _]) dX3_greatestSquare_23 w_376 w_374 w_375 w_12 (by decide +kernel) rfl rfl (Nat.le_of_ble_eq_true rfl) (by decide) (by decide) (ZC.mono (cMJ9_max_7cf53 (by omega) (by omega)) ?_)
        rintro _ _ ⟨rfl, rfl⟩
        refine z_istore_n dX3_greatestSquare_26 rfl (by decide) rfl ?_
        refine c_iinc dX3_greatestSquare_27 rfl (by decide) rfl ?_
        refine z_goto (tgt := 4) dX3_greatestSquare_30 (by decide) ?_
        exact Z.fg2 (ih4 _ (by omega) _ _ rfl (by omega) (by rw [show (k + 1).toNat = k.toNat + 1 by omega, mostS]; split <;> omega)) (zs1 rfl (zs1 rfl (zs1 rfl zs0)))
  exact Z.fg2 (L4 _ _ _ rfl (by omega) rfl) (zs1 rfl (zs1 rfl (zs1 rfl zs0)))
set_option maxHeartbeats 4000000 in
set_option maxRecDepth 100000 in
theorem cMX8_storeDraft {s nl : Int} {E : Nat → Int} (hs : 0 ≤ s ∧ s < 6) (hn : 1 ≤ nl ∧ nl ≤ 4) (hR : ∀ k, k < 16 → -2147483647 ≤ E k ∧ E k ≤ 2147483647) (hsy : symS E) (hz : zeroS nl E) (hW : WD A c Kd J Rd n s0) : ZC g l MX8_storeDraft [.ref 4, .int (iZ s)] (KF Kd, zi (dput J nl E), zj P, RF Rd, n, s0) (fun rr hh => ∃ (Kd' : ZK) (J' P' : Nat → Nat → Int) (Rd' : ZR) (n' s0' : Nat), hh = (KF Kd', zi (dput J' nl E), zj P', RF Rd', n', s0') ∧ (∃ b : Int, rr = some (.int (iZ b)) ∧ ((b = 1 ∧ lawS nl E ∧ WD (jput A s.toNat nl E) (c + 1) Kd' J' Rd' n' s0' ∧ J' 26 2 = detS E nl (-1)) ∨ (b = 0 ∧ ¬ lawS nl E ∧ WD A (c + 1) Kd' J' Rd' n' s0'))) ∧ cs J J' ∧ cs P P' ∧ ∀ a, 66 ≤ a → a < n → Kd' a = Kd a ∧ J' a = J a) := by
  refine ZC.of (by decide) (Nat.le_of_ble_eq_true rfl) ?_
  generalize hQ0 : (fun rr hh => ∃ (Kd' : ZK) (J' P' : Nat → Nat → Int) (Rd' : ZR) (n' s0' : Nat), hh = (KF Kd', zi (dput J' nl E), zj P', RF Rd', n', s0') ∧ (∃ b : Int, rr = some (.int (iZ b)) ∧ ((b = 1 ∧ lawS nl E ∧ WD (jput A s.toNat nl E) (c + 1) Kd' J' Rd' n' s0' ∧ J' 26 2 = detS E nl (-1)) ∨ (b = 0 ∧ ¬ lawS nl E ∧ WD A (c + 1) Kd' J' Rd' n' s0'))) ∧ cs J J' ∧ cs P P' ∧ ∀ a, 66 ≤ a → a < n → Kd' a = Kd a ∧ J' a = J a : Option Value → ZH → Prop) = Q0
  show Z g l MX8_storeDraft 0 [some (.ref 4), some (.int (iZ s))] [] (KF Kd, zi (dput J nl E), zj P, RF Rd, n, s0) Q0
  have h66 := hW.1
  refine z_iload_n dX8_storeDraft_0 rfl rfl ?_
  refine z_calls (N := MX8_isSlot) (nas := 1) (as := [_]) dX8_storeDraft_1 w_219 w_217 w_218 w_1 (by decide +kernel) rfl rfl (Nat.le_of_ble_eq_true rfl) (by decide) (by decide) (ZC.mono (cMX8_isSlot (by omega)) ?_)
  rintro _ _ ⟨b1, rfl, rfl, hb1⟩
  refine c_if_eq (tgt := 17) dX8_storeDraft_4 (by decide) (by omega) (fun h4 => ?_) (fun h4 => ?_)
  · have g1 := (hb1.resolve_left (fun z => by have := z.1; omega)).2
    clear hb1
    exact absurd hs g1 --done
  · have g1 := (hb1.resolve_right (fun z => by have := z.1; omega)).2
    clear hb1
    refine z_aload_n dX8_storeDraft_7 rfl rfl ?_
    refine z_getR (ci := 8) (kf := 6) dX8_storeDraft_8 rfl (by decide) (by decide) rfl w_188 rfl ?_
    refine z_callv (N := MX1_isLawful) (ci := 1) (nas := 0) (as := []) dX8_storeDraft_11 w_238 w_235 w_236 w_237 w_4 (by decide +kernel) rfl rfl rfl (by decide) (Nat.le_of_ble_eq_true rfl) (by decide) (by decide) (ZC.mono (cMX1_isLawful hn hR hsy) ?_)
    rintro _ _ ⟨Ja11, Pa11, b11, rfl, rfl, hb11, hlw11, hJa11, hPa11⟩
    refine c_if_ne (tgt := 19) dX8_storeDraft_14 (by decide) (by omega) (fun h14 => ?_) (fun h14 => ?_)
    · have g11 := (hb11.resolve_right (fun z => by have := z.1; omega)).2
      clear hb11
      refine z_aload_n dX8_storeDraft_19 rfl rfl ?_
      refine z_getR (ci := 8) (kf := 0) dX8_storeDraft_20 rfl (by decide) (by decide) rfl w_182 rfl ?_
      refine z_iload_n dX8_storeDraft_23 rfl rfl ?_
      refine c_new (ci := 3) dX8_storeDraft_24 (by decide) w_22 w_262 w_10 ?_
      rw [KF_kp h66, RF_upA h66]
      refine z_dup dX8_storeDraft_27 rfl ?_
      refine z_aload_n dX8_storeDraft_28 rfl rfl ?_
      refine z_getR (ci := 8) (kf := 6) dX8_storeDraft_29 rfl (by decide) (by decide) rfl w_188 rfl ?_
      refine z_calli (N := MX3_init) (nas := 1) (as := [_]) dX8_storeDraft_32 rfl rfl w_265 w_263 w_264 w_10 (by decide +kernel) rfl rfl (Nat.le_of_ble_eq_true rfl) (by decide) (by decide) (ZC.mono (cMX3_init (r := n) (by rw [KF_dyn hW.1]; rw [zkp_eq]) (by omega)) ?_)
      rintro _ _ ⟨rfl, Jf32, rfl, f032, f232, f332, fe32, fo32⟩
      refine c_aast (ci := 3) dX8_storeDraft_35 rfl (by decide) (by omega) (by decide) (by rw [KF_zk (by omega), KF_dyn hW.1, zkp_eq]) ?_
      rw [RF_up (Or.inl rfl)]
      refine c_iconst dX8_storeDraft_36 ?_
      refine c_zreturn dX8_storeDraft_37 rfl (by omega) ?_
      subst hQ0
      have hlw := hlw11 g11
      have hbase : ∀ a, a ≠ n → a ≠ n + 1 → Jf32 a = dput Ja11 nl E a := fun a a1 a2 => by
        rw [fo32 a a1 a2]; show (if a = n then _ else _) = _; rw [if_neg a1]
      have hWa : WD A c Kd (dput Ja11 nl E) Rd n s0 := WD_dput (WD_scr hW (fun a ha => hJa11 a (ks_ne ha (by decide)) (ks_ne ha (by decide))))
      have n26 : ¬ 26 = n := by omega
      have n27 : ¬ 27 = n := by omega
      have hN := WD_newF (Kd' := zkp (zkp Kd n (13, 0)) (n + 1) (1, 16)) (J' := Jf32) (Rd' := zup (zupA Rd n (fun _ => none)) n 1 (some (n + 1))) (nl := nl) (E := E) hWa hn.1 ⟨hn.2, g11, hsy, hz⟩ rfl hbase
        (by rw [f032]; simp [zupA, n26, dput]) (by rw [f232]; simp [zupA, n26, dput]; exact hlw.1) (by rw [f332]; simp [zupA, n26, dput]; exact hlw.2) (fun k hk => by rw [fe32]; simp [zupA, n27, dput, hk])
        (fun a ha => by rw [zup_ne ha]; simp [zupA, ha]) (by rw [zz]) (by simp [zup, zupA]) (by simp [zup, zupA])
      have hS := WD_slot (s := s.toNat) (nl := nl) (E := E) (x := some n) hN.1 (by omega) (Or.inr ⟨hn.1, hn.2, g11, hsy, hz⟩) (Or.inr ⟨n, rfl, hN.2.1, by rw [f032]; simp [zupA, n26, dput], fun k hk => by rw [hN.2.2, fe32]; simp [zupA, n27, dput, hk]⟩)
      refine ⟨_, Jf32, zupA Pa11 n (fun _ => 0), _, _, _, by rw [dput_id (J := Jf32) (by rw [hbase 26 (by omega) (by omega)]; exact dput_let) (fun k hk => by rw [hbase 27 (by omega) (by omega)]; exact dput_in hk)]; rfl, ⟨1, rfl, Or.inl ⟨rfl, g11, hS, ?_⟩⟩, fun a a1 a2 => ?_, fun a a1 a2 => ?_, fun a a1 a2 => ⟨?_, ?_⟩⟩
      · rw [hbase 26 (by omega) (by omega), dput_26 (by decide)]; exact hlw.1
      · rw [hbase a (by omega) (by omega), dput_off (by omega) (by omega)]; exact hJa11 a (by omega) (by omega)
      · show (if a = n then _ else _) = _
        rw [if_neg (by omega)]; exact hPa11 a (by omega)
      · rw [zkp_ne (by omega), zkp_ne (by omega)]
      · rw [hbase a (by omega) (by omega), dput_off (by omega) (by omega)]; exact hJa11 a (by omega) (by omega)
    · have g11 := (hb11.resolve_left (fun z => by have := z.1; omega)).2
      clear hb11
      refine c_iconst dX8_storeDraft_17 ?_
      refine c_zreturn dX8_storeDraft_18 rfl (by omega) ?_
      subst hQ0
      exact ⟨Kd, Ja11, Pa11, Rd, n, s0, rfl, ⟨0, rfl, Or.inr ⟨rfl, g11, WD_mono (WD_scr hW (fun a ha => hJa11 a (ks_ne ha (by decide)) (ks_ne ha (by decide))))⟩⟩, fun a a1 a2 => hJa11 a (by omega) (by omega), fun a a1 a2 => hPa11 a (by omega), fun a a1 a2 => ⟨rfl, hJa11 a (by omega) (by omega)⟩⟩
end Cls4
