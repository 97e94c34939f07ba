section Ref17
variable {g : ZG} {l : Launch} {Kd : ZK} {Rd : ZR} {n s0 : Nat} {J P : Nat → Nat → Int}
theorem offC_trans {J J1 J2 : Nat → Nat → Int} (h : offC J J1) (h2 : offC J1 J2) : offC J J2 := ⟨fun a a1 a2 a3 => (h2.1 a a1 a2 a3).trans (h.1 a a1 a2 a3), fun q q1 q2 q3 => (h2.2 q q1 q2 q3).trans (h.2 q q1 q2 q3)⟩
theorem offP_trans {P P1 P2 : Nat → Nat → Int} (h : offP P P1) (h2 : offP P1 P2) : offP P P2 := fun a a1 a2 a3 => (h2 a a1 a2 a3).trans (h a a1 a2 a3)
theorem clB_f {J : Nat → Nat → Int} {x : Int} {k : Nat} (h : ¬ climb 30 (J 45) x k = x) : clB J x k = false := by unfold clB; rw [decide_eq_false h]; rfl
theorem clB_t {J : Nat → Nat → Int} {x : Int} {k : Nat} (h : climb 30 (J 45) x k = x) (h2 : lackN (cF (J 44 (6 + k)) (eE J (6 + k))) 0 9 = 0) : clB J x k = true := by unfold clB; rw [decide_eq_true h, decide_eq_true h2]; rfl
theorem clB_n {J : Nat → Nat → Int} {x : Int} {k : Nat} (h2 : ¬ lackN (cF (J 44 (6 + k)) (eE J (6 + k))) 0 9 = 0) : clB J x k = false := by unfold clB; rw [decide_eq_false h2, Bool.and_false]
theorem clB_at {J : Nat → Nat → Int} {k : Int} (h : 0 ≤ k) : lackN (cF (J 44 (6 + k.toNat)) (eE J (6 + (k.toNat : Nat)))) 0 9 = lackN (cF (J 44 (6 + k).toNat) (eE J (6 + k))) 0 (ruleN 0).toNat := by
  rw [show (6 + k).toNat = 6 + k.toNat by omega, show (6 : Int) + ((k.toNat : Nat) : Int) = 6 + k by omega]; rfl
set_option maxHeartbeats 4000000 in
set_option maxRecDepth 100000 in
theorem cMX9_isBelow {k x : Int} (hU : okU (J 42 2) (J 45)) (hk : 0 ≤ k ∧ k < J 42 2) (hx : 0 ≤ x ∧ x < 30) : ZC g l MX9_isBelow [.ref 42, .int (iZ k), .int (iZ x)] (KF Kd, zi J, zj P, RF Rd, n, s0) (fun rr hh => ∃ b : Int, rr = some (.int (iZ b)) ∧ hh = (KF Kd, zi J, zj P, RF Rd, n, s0) ∧ ((b = 1 ∧ (climb 30 (J 45) x k = x)) ∨ (b = 0 ∧ ¬ (climb 30 (J 45) x k = x)))) := by
  refine ZC.of (by decide) (Nat.le_of_ble_eq_true rfl) ?_
  generalize hQ0 : (fun rr hh => ∃ b : Int, rr = some (.int (iZ b)) ∧ hh = (KF Kd, zi J, zj P, RF Rd, n, s0) ∧ ((b = 1 ∧ (climb 30 (J 45) x k = x)) ∨ (b = 0 ∧ ¬ (climb 30 (J 45) x k = x))) : Option Value → ZH → Prop) = Q0
  show Z g l MX9_isBelow 0 [some (.ref 42), some (.int (iZ k)), some (.int (iZ x)), none] [] (KF Kd, zi J, zj P, RF Rd, n, s0) Q0
  have h30 := hU.2.1
  refine z_iload_n dX9_isBelow_0 rfl rfl ?_
  refine z_istore_n dX9_isBelow_1 rfl (by decide) rfl ?_
  have L2 : ∀ (m2 : Nat), ∀ (u : Int), (u).toNat = m2 → (0 ≤ u ∧ u < J 42 2) → (climb 30 (J 45) x k = climb 30 (J 45) x u) → Z g l MX9_isBelow 2 [some (.ref 42), some (.int (iZ k)), some (.int (iZ x)), some (.int (iZ u))] [] (KF Kd, zi J, zj P, RF Rd, n, s0) Q0 := by
    intro m2
    induction m2 using Nat.strongRecOn with
    | ind m2 ih2 =>
      intro u hm2 hu hc
      refine z_iload_n dX9_isBelow_2 rfl rfl ?_
      refine z_iload_n dX9_isBelow_3 rfl rfl ?_
      refine c_icmp_le (tgt := 17) dX9_isBelow_4 (by decide) (by omega) (by omega) (fun h4 => ?_) (fun h4 => ?_)
      · refine z_iload_n dX9_isBelow_17 rfl rfl ?_
        refine z_iload_n dX9_isBelow_18 rfl rfl ?_
        refine c_icmp_ne (tgt := 26) dX9_isBelow_19 (by decide) (by omega) (by omega) (fun h19 => ?_) (fun h19 => ?_)
        · refine c_iconst dX9_isBelow_26 ?_
          refine c_zreturn dX9_isBelow_27 rfl (by omega) ?_
          subst hQ0; refine ⟨_, rfl, rfl, ?_⟩; rw [hc, climb_stop (by omega)]; omega
        · refine c_iconst dX9_isBelow_22 ?_
          refine z_goto (tgt := 27) dX9_isBelow_23 (by decide) ?_
          refine c_zreturn dX9_isBelow_27 rfl (by omega) ?_
          subst hQ0; refine ⟨_, rfl, rfl, ?_⟩; rw [hc, climb_stop (by omega)]; omega
      · have hst := climb_step hU hx.1 (show x < u by omega) (by omega)
        have hun := hU.2.2.2 u.toNat (by omega) (by omega)
        refine z_aload_n dX9_isBelow_7 rfl rfl ?_
        refine z_getR (ci := 9) (kf := 3) dX9_isBelow_8 rfl (by decide) (by decide) rfl w_779 rfl ?_
        refine z_iload_n dX9_isBelow_11 rfl rfl ?_
        refine c_iald dX9_isBelow_12 rfl (by omega) (by decide) ?_
        refine z_istore_n dX9_isBelow_13 rfl (by decide) rfl ?_
        refine z_goto (tgt := 2) dX9_isBelow_14 (by decide) ?_
        exact Z.fg2 (ih2 _ (by omega) _ rfl (by omega) (by rw [hc, hst])) (zs1 rfl (zs1 rfl (zs1 rfl (zs1 rfl zs0))))
  exact Z.fg2 (L2 _ _ rfl (by omega) rfl) (zs1 rfl (zs1 rfl (zs1 rfl (zs1 rfl zs0))))
set_option maxHeartbeats 4000000 in
set_option maxRecDepth 100000 in
theorem cMX9_firstUnder {x b : Int} (hx : rI x) (hn : 0 ≤ J 42 2 ∧ J 42 2 ≤ 30) (hb : -1 ≤ b ∧ b < 30) (hu : ∀ k, k < 30 → rI (J 45 k)) : ZC g l MX9_firstUnder [.ref 42, .int (iZ x), .int (iZ b)] (KF Kd, zi J, zj P, RF Rd, n, s0) (fun rr hh => rr = some (.int (iZ (fund (J 42 2 - (b + 1)).toNat (J 45) x (b + 1)))) ∧ hh = (KF Kd, zi J, zj P, RF Rd, n, s0)) := by
  refine ZC.of (by decide) (Nat.le_of_ble_eq_true rfl) ?_
  generalize hQ0 : (fun rr hh => rr = some (.int (iZ (fund (J 42 2 - (b + 1)).toNat (J 45) x (b + 1)))) ∧ hh = (KF Kd, zi J, zj P, RF Rd, n, s0) : Option Value → ZH → Prop) = Q0
  show Z g l MX9_firstUnder 0 [some (.ref 42), some (.int (iZ x)), some (.int (iZ b)), none] [] (KF Kd, zi J, zj P, RF Rd, n, s0) Q0
  refine z_iload_n dX9_firstUnder_0 rfl rfl ?_
  refine c_iconst dX9_firstUnder_1 ?_
  refine c_iadd dX9_firstUnder_2 ?_
  refine z_istore_n dX9_firstUnder_3 rfl (by decide) rfl ?_
  have L4 : ∀ (m4 : Nat), ∀ (k : Int), (J 42 2 - k).toNat = m4 → (0 ≤ k ∧ k ≤ 30) → (fund (J 42 2 - (b + 1)).toNat (J 45) x (b + 1) = fund (J 42 2 - k).toNat (J 45) x k) → Z g l MX9_firstUnder 4 [some (.ref 42), some (.int (iZ x)), some (.int (iZ b)), some (.int (iZ k))] [] (KF Kd, zi J, zj P, RF Rd, n, s0) Q0 := by
    intro m4
    induction m4 using Nat.strongRecOn with
    | ind m4 ih4 =>
      intro k hm4 hk hc
      refine z_iload_n dX9_firstUnder_4 rfl rfl ?_
      refine z_aload_n dX9_firstUnder_5 rfl rfl ?_
      refine c_getI (ci := 9) (kf := 2) dX9_firstUnder_6 rfl (by decide) (by decide) rfl w_778 ?_
      refine c_icmp_ge (tgt := 30) dX9_firstUnder_9 (by decide) (by omega) (by omega) (fun h9 => ?_) (fun h9 => ?_)
      · refine c_bipush dX9_firstUnder_30 (by decide) ?_
        refine c_ireturn dX9_firstUnder_32 rfl ?_
        subst hQ0; refine ⟨?_, rfl⟩; rw [hc, show (J 42 2 - k).toNat = 0 by omega, fund]
      · have hun := hu k.toNat (by omega)
        have hfe : (J 42 2 - k).toNat = (J 42 2 - (k + 1)).toNat + 1 := by omega
        refine z_aload_n dX9_firstUnder_12 rfl rfl ?_
        refine z_getR (ci := 9) (kf := 3) dX9_firstUnder_13 rfl (by decide) (by decide) rfl w_779 rfl ?_
        refine z_iload_n dX9_firstUnder_16 rfl rfl ?_
        refine c_iald dX9_firstUnder_17 rfl (by omega) (by decide) ?_
        refine z_iload_n dX9_firstUnder_18 rfl rfl ?_
        refine c_icmp_ne (tgt := 24) dX9_firstUnder_19 (by decide) (by omega) (by omega) (fun h19 => ?_) (fun h19 => ?_)
        · refine c_iinc dX9_firstUnder_24 rfl (by decide) rfl ?_
          refine z_goto (tgt := 4) dX9_firstUnder_27 (by decide) ?_
          exact Z.fg2 (ih4 _ (by omega) _ rfl (by omega) (by rw [hc, hfe, fund, if_neg (by omega)])) (zs1 rfl (zs1 rfl (zs1 rfl (zs1 rfl zs0))))
        · refine z_iload_n dX9_firstUnder_22 rfl rfl ?_
          refine c_ireturn dX9_firstUnder_23 rfl ?_
          subst hQ0; refine ⟨?_, rfl⟩; rw [hc, hfe, fund, if_pos (by omega)]
  exact Z.fg2 (L4 _ _ rfl (by omega) rfl) (zs1 rfl (zs1 rfl (zs1 rfl (zs1 rfl zs0))))
set_option maxHeartbeats 4000000 in
set_option maxRecDepth 100000 in
theorem cMX9_behind {x : Int} (hx : -2 ≤ x ∧ x < J 42 2) (hU : okU (J 42 2) (J 45)) (hu : ∀ k, k < 30 → rI (J 45 k)) : ZC g l MX9_behind [.ref 42, .int (iZ x)] (KF Kd, zi J, zj P, RF Rd, n, s0) (fun rr hh => rr = some (.int (iZ (behS (J 42 2) (J 45) x))) ∧ hh = (KF Kd, zi J, zj P, RF Rd, n, s0)) := by
  refine ZC.of (by decide) (Nat.le_of_ble_eq_true rfl) ?_
  generalize hQ0 : (fun rr hh => rr = some (.int (iZ (behS (J 42 2) (J 45) x))) ∧ hh = (KF Kd, zi J, zj P, RF Rd, n, s0) : Option Value → ZH → Prop) = Q0
  show Z g l MX9_behind 0 [some (.ref 42), some (.int (iZ x)), none, none] [] (KF Kd, zi J, zj P, RF Rd, n, s0) Q0
  have h30 := hU.2.1
  have h00 := hU.1
  have hfb := fund_bd (J 45) x (J 42 2).toNat 0
  refine z_aload_n dX9_behind_0 rfl rfl ?_
  refine z_iload_n dX9_behind_1 rfl rfl ?_
  refine c_iconst dX9_behind_2 ?_
  refine z_callv (N := MX9_firstUnder) (ci := 9) (nas := 2) (as := [_, _]) dX9_behind_3 w_1187 w_1184 w_1186 ws_52 w_8 (by decide +kernel) rfl rfl rfl (by decide) (Nat.le_of_ble_eq_true rfl) (by decide) (by decide) (ZC.mono (cMX9_firstUnder (by omega) (by omega) (by omega) hu) ?_)
  rintro _ _ ⟨rfl, rfl⟩
  rw [show (J 42 2 - (-1 + 1)).toNat = (J 42 2).toNat by omega, show (-1 + 1 : Int) = 0 from rfl]
  refine z_istore_n dX9_behind_6 rfl (by decide) rfl ?_
  refine z_iload_n dX9_behind_7 rfl rfl ?_
  refine z_istore_n dX9_behind_8 rfl (by decide) rfl ?_
  have L9 : ∀ (m9 : Nat), ∀ (a nx : Int) (f : Nat), (a).toNat = m9 → (-2 ≤ a ∧ a < J 42 2 ∧ a ≤ f) → (nx = -2 ∨ (0 ≤ nx ∧ nx < J 42 2)) → (behS (J 42 2) (J 45) x = upB (J 42 2) (J 45) f a nx) → Z g l MX9_behind 9 [some (.ref 42), some (.int (iZ x)), some (.int (iZ nx)), some (.int (iZ a))] [] (KF Kd, zi J, zj P, RF Rd, n, s0) Q0 := by
    intro m9
    induction m9 using Nat.strongRecOn with
    | ind m9 ih9 =>
      intro a nx f hm9 ha hn hc
      refine z_iload_n dX9_behind_9 rfl rfl ?_
      refine c_if_ge (tgt := 39) dX9_behind_10 (by decide) (by omega) (fun h10 => ?_) (fun h10 => ?_)
      · refine z_iload_n dX9_behind_39 rfl rfl ?_
        refine c_ireturn dX9_behind_40 rfl ?_
        subst hQ0; refine ⟨?_, rfl⟩; rw [hc, upB_stop (by omega)]
      · refine z_iload_n dX9_behind_13 rfl rfl ?_
        refine c_if_le (tgt := 39) dX9_behind_14 (by decide) (by omega) (fun h14 => ?_) (fun h14 => ?_)
        · refine z_iload_n dX9_behind_39 rfl rfl ?_
          refine c_ireturn dX9_behind_40 rfl ?_
          subst hQ0; refine ⟨?_, rfl⟩; rw [hc, upB_stop (by omega)]
        · have hun := hU.2.2.2 a.toNat (by omega) (by omega)
          have hfb2 := fund_bd (J 45) (J 45 a.toNat) (J 42 2 - (a + 1)).toNat (a + 1)
          refine z_aload_n dX9_behind_17 rfl rfl ?_
          refine z_aload_n dX9_behind_18 rfl rfl ?_
          refine z_getR (ci := 9) (kf := 3) dX9_behind_19 rfl (by decide) (by decide) rfl w_779 rfl ?_
          refine z_iload_n dX9_behind_22 rfl rfl ?_
          refine c_iald dX9_behind_23 rfl (by omega) (by decide) ?_
          refine z_iload_n dX9_behind_24 rfl rfl ?_
          refine z_callv (N := MX9_firstUnder) (ci := 9) (nas := 2) (as := [_, _]) dX9_behind_25 w_1187 w_1184 w_1186 ws_52 w_8 (by decide +kernel) rfl rfl rfl (by decide) (Nat.le_of_ble_eq_true rfl) (by decide) (by decide) (ZC.mono (cMX9_firstUnder (by omega) (by omega) (by omega) hu) ?_)
          rintro _ _ ⟨rfl, rfl⟩
          refine z_istore_n dX9_behind_28 rfl (by decide) rfl ?_
          refine z_aload_n dX9_behind_29 rfl rfl ?_
          refine z_getR (ci := 9) (kf := 3) dX9_behind_30 rfl (by decide) (by decide) rfl w_779 rfl ?_
          refine z_iload_n dX9_behind_33 rfl rfl ?_
          refine c_iald dX9_behind_34 rfl (by omega) (by decide) ?_
          refine z_istore_n dX9_behind_35 rfl (by decide) rfl ?_
          refine z_goto (tgt := 9) dX9_behind_36 (by decide) ?_
          exact Z.fg2 (ih9 _ (by omega) _ _ (f - 1) rfl (by omega) (by omega) (by rw [hc, show f = (f - 1) + 1 by omega, upB, if_pos (by omega), Nat.add_sub_cancel])) (zs1 rfl (zs1 rfl (zs1 rfl (zs1 rfl zs0))))
  exact Z.fg2 (L9 _ _ _ 30 rfl (by omega) (by omega) rfl) (zs1 rfl (zs1 rfl (zs1 rfl (zs1 rfl zs0))))
set_option maxHeartbeats 4000000 in
set_option maxRecDepth 100000 in
theorem cMX9_walk {i : Int} (hi : rI i) (hT : okT J) : ZC g l MX9_walk [.ref 42, .int (iZ i)] (KF Kd, zi J, zj P, RF Rd, n, s0) (fun rr hh => ∃ J' P', hh = (KF Kd, zi J', zj P', RF Rd, n, s0) ∧ rr = some (.int (iZ (aWalk J i))) ∧ pq J J' ∧ pp P P') := by
  refine ZC.of (by decide) (Nat.le_of_ble_eq_true rfl) ?_
  generalize hQ0 : (fun rr hh => ∃ J' P', hh = (KF Kd, zi J', zj P', RF Rd, n, s0) ∧ rr = some (.int (iZ (aWalk J i))) ∧ pq J J' ∧ pp P P' : Option Value → ZH → Prop) = Q0
  show Z g l MX9_walk 0 [some (.ref 42), some (.int (iZ i)), none, none] [] (KF Kd, zi J, zj P, RF Rd, n, s0) Q0
  have hU := okT_U hT
  have hu : ∀ k, k < 30 → rI (J 45 k) := fun k hk => (hT.1.2.2.2.2 k hk).1
  have h30 := hU.2.1
  have h00 := hU.1
  refine z_iload_n dX9_walk_0 rfl rfl ?_
  refine c_i2l dX9_walk_1 (by omega) ?_
  refine c_lconst0 dX9_walk_2 ?_
  refine z_aload_n dX9_walk_3 rfl rfl ?_
  refine c_getI (ci := 9) (kf := 2) dX9_walk_4 rfl (by decide) (by decide) rfl w_778 ?_
  refine c_iconst dX9_walk_7 ?_
  refine c_isub dX9_walk_8 ?_
  refine c_i2l dX9_walk_9 (by omega) ?_
  refine z_calls (N := MX9_in) (nas := 3) (as := [_, _, _]) dX9_walk_10 w_889 w_887 w_888 w_8 (by decide +kernel) rfl rfl (Nat.le_of_ble_eq_true rfl) (by decide) (by decide) (ZC.mono (b_in (by omega) (by omega) (by omega)) ?_)
  rintro _ _ ⟨b10, rfl, rfl, hb10⟩
  refine c_if_ne (tgt := 19) dX9_walk_13 (by decide) (by omega) (fun h13 => ?_) (fun h13 => ?_)
  · have g10 := (hb10.resolve_right (fun z => by have := z.1; omega)).2
    clear hb10
    refine c_iconst dX9_walk_19 ?_
    refine z_istore_n dX9_walk_20 rfl (by decide) rfl ?_
    refine c_iconst dX9_walk_21 ?_
    refine z_istore_n dX9_walk_22 rfl (by decide) rfl ?_
    have L23 : ∀ (m23 : Nat), ∀ (k a : Int), (i - k).toNat = m23 → (0 ≤ k ∧ k ≤ i) → (a = wlk (J 42 2) (J 45) k.toNat) → Z g l MX9_walk 23 [some (.ref 42), some (.int (iZ i)), some (.int (iZ a)), some (.int (iZ k))] [] (KF Kd, zi J, zj P, RF Rd, n, s0) Q0 := by
      intro m23
      induction m23 using Nat.strongRecOn with
      | ind m23 ih23 =>
        intro k a hm23 hk ha
        refine z_iload_n dX9_walk_23 rfl rfl ?_
        refine z_iload_n dX9_walk_24 rfl rfl ?_
        refine c_icmp_ge (tgt := 40) dX9_walk_25 (by decide) (by omega) (by omega) (fun h25 => ?_) (fun h25 => ?_)
        · refine z_iload_n dX9_walk_40 rfl rfl ?_
          refine c_ireturn dX9_walk_41 rfl ?_
          subst hQ0; refine ⟨_, _, rfl, ?_⟩; unfold aWalk; rw [cif_pos (by omega), ha, show k.toNat = i.toNat by omega]; exact ⟨rfl, pq_refl _, pp_refl _⟩
        · have hwb := wlk_bd hU (by omega) k.toNat
          refine z_aload_n dX9_walk_28 rfl rfl ?_
          refine z_iload_n dX9_walk_29 rfl rfl ?_
          refine z_callv (N := MX9_behind) (ci := 9) (nas := 1) (as := [_]) dX9_walk_30 w_1183 w_1180 w_1182 ws_51 w_8 (by decide +kernel) rfl rfl rfl (by decide) (Nat.le_of_ble_eq_true rfl) (by decide) (by decide) (ZC.mono (cMX9_behind (by omega) hU hu) ?_)
          rintro _ _ ⟨rfl, rfl⟩
          refine z_istore_n dX9_walk_33 rfl (by decide) rfl ?_
          refine c_iinc dX9_walk_34 rfl (by decide) rfl ?_
          refine z_goto (tgt := 23) dX9_walk_37 (by decide) ?_
          exact Z.fg2 (ih23 _ (by omega) _ _ rfl (by omega) (by rw [show (k + 1).toNat = k.toNat + 1 by omega, wlk, ← ha])) (zs1 rfl (zs1 rfl (zs1 rfl (zs1 rfl zs0))))
    exact Z.fg2 (L23 _ _ _ rfl (by omega) rfl) (zs1 rfl (zs1 rfl (zs1 rfl (zs1 rfl zs0))))
  · have g10 := (hb10.resolve_left (fun z => by have := z.1; omega)).2
    clear hb10
    refine c_bipush dX9_walk_16 (by decide) ?_
    refine c_ireturn dX9_walk_18 rfl ?_
    subst hQ0; refine ⟨_, _, rfl, ?_⟩; unfold aWalk; rw [cif_neg (by omega)]; exact ⟨rfl, pq_refl _, pp_refl _⟩
set_option maxHeartbeats 4000000 in
set_option maxRecDepth 100000 in
theorem cMX9_claimsBelow {x : Int} (hx : 0 ≤ x ∧ x < J 42 2) (hT : okT J) (hL : okJ J) (hR : okR J) : ZC g l MX9_claimsBelow [.ref 42, .int (iZ x)] (KF Kd, zi J, zj P, RF Rd, n, s0) (fun rr hh => ∃ J' P', hh = (KF Kd, zi J', zj P', RF Rd, n, s0) ∧ rr = some (.int (iZ (cnt (clB J x) (J 42 2).toNat))) ∧ offC J J' ∧ offP P P') := by
  refine ZC.of (by decide) (Nat.le_of_ble_eq_true rfl) ?_
  generalize hQ0 : (fun rr hh => ∃ J' P', hh = (KF Kd, zi J', zj P', RF Rd, n, s0) ∧ rr = some (.int (iZ (cnt (clB J x) (J 42 2).toNat))) ∧ offC J J' ∧ offP P P' : Option Value → ZH → Prop) = Q0
  show Z g l MX9_claimsBelow 0 [some (.ref 42), some (.int (iZ x)), none, none] [] (KF Kd, zi J, zj P, RF Rd, n, s0) Q0
  have hU := okT_U hT
  have h30 := hU.2.1
  have h00 := hU.1
  refine c_iconst dX9_claimsBelow_0 ?_
  refine z_istore_n dX9_claimsBelow_1 rfl (by decide) rfl ?_
  refine z_iload_n dX9_claimsBelow_2 rfl rfl ?_
  refine z_istore_n dX9_claimsBelow_3 rfl (by decide) rfl ?_
  have L4 : ∀ (m4 : Nat), ∀ (k c : Int) (J2 P2 : Nat → Nat → Int), (J 42 2 - k).toNat = m4 → (x ≤ k ∧ k ≤ J 42 2) → (c = cnt (clB J x) k.toNat) → (offC J J2) → (offP P P2) → Z g l MX9_claimsBelow 4 [some (.ref 42), some (.int (iZ x)), some (.int (iZ c)), some (.int (iZ k))] [] (KF Kd, zi J2, zj P2, RF Rd, n, s0) Q0 := by
    intro m4
    induction m4 using Nat.strongRecOn with
    | ind m4 ih4 =>
      intro k c J2 P2 hm4 hk hc hO hPo
      have e42 : J2 42 2 = J 42 2 := hO.2 2 (by decide) (by decide) (by decide)
      have e45 : J2 45 = J 45 := hO.1 45 (by decide) (by decide) (by decide)
      refine z_iload_n dX9_claimsBelow_4 rfl rfl ?_
      refine z_aload_n dX9_claimsBelow_5 rfl rfl ?_
      refine c_getI (ci := 9) (kf := 2) dX9_claimsBelow_6 rfl (by decide) (by decide) rfl w_778 ?_
      rw [e42]
      refine c_icmp_ge (tgt := 51) dX9_claimsBelow_9 (by decide) (by omega) (by omega) (fun h9 => ?_) (fun h9 => ?_)
      · refine z_iload_n dX9_claimsBelow_51 rfl rfl ?_
        refine c_ireturn dX9_claimsBelow_52 rfl ?_
        subst hQ0; refine ⟨_, _, rfl, ?_, hO, hPo⟩; rw [hc, show k.toNat = (J 42 2).toNat by omega]
      · have hU15 : okU (J2 42 2) (J2 45) := by rw [e42, e45]; exact hU
        have hcb := cnt_bd (clB J x) k.toNat
        refine z_aload_n dX9_claimsBelow_12 rfl rfl ?_
        refine z_iload_n dX9_claimsBelow_13 rfl rfl ?_
        refine z_iload_n dX9_claimsBelow_14 rfl rfl ?_
        refine z_callv (N := MX9_isBelow) (ci := 9) (nas := 2) (as := [_, _]) dX9_claimsBelow_15 w_1171 w_1168 w_1170 ws_50 w_8 (by decide +kernel) rfl rfl rfl (by decide) (Nat.le_of_ble_eq_true rfl) (by decide) (by decide) (ZC.mono (cMX9_isBelow hU15 (by omega) (by omega)) ?_)
        rintro _ _ ⟨b15, rfl, rfl, hb15⟩
        refine c_if_eq (tgt := 45) dX9_claimsBelow_18 (by decide) (by omega) (fun h18 => ?_) (fun h18 => ?_)
        · have g15 := (hb15.resolve_left (fun z => by have := z.1; omega)).2
          clear hb15
          rw [e45] at g15
          refine c_iinc dX9_claimsBelow_45 rfl (by decide) rfl ?_
          refine z_goto (tgt := 4) dX9_claimsBelow_48 (by decide) ?_
          exact Z.fg2 (ih4 _ (by omega) _ _ _ _ rfl (by omega) (by rw [show (k + 1).toNat = k.toNat + 1 by omega, cnt, ← hc]; first | (rw [clB_f (by rw [Int.toNat_of_nonneg (by omega)]; exact g15)]; simp) | (rw [clB_t (by rw [Int.toNat_of_nonneg (by omega)]; exact g15) (by rw [clB_at (by omega)]; omega)]; simp) | (rw [clB_n (by rw [clB_at (by omega)]; omega)]; simp)) (by first | exact hO | exact offC_trans hO hO3) (by first | exact hPo | exact offP_trans hPo hPo3)) (zs1 rfl (zs1 rfl (zs1 rfl (zs1 rfl zs0))))
        · have g15 := (hb15.resolve_right (fun z => by have := z.1; omega)).2
          clear hb15
          rw [e45] at g15
          have e44 : J2 44 (6 + k).toNat = J 44 (6 + k).toNat := by rw [hO.1 44 (by decide) (by decide) (by decide)]
          have eE1 : eE J2 (6 + k) = eE J (6 + k) := by unfold eE; rw [hO.1 43 (by decide) (by decide) (by decide)]
          have hk44 : 0 < J 44 (6 + k).toNat := by have := hT.2.2.2.1 k.toNat (by omega); rw [show (6 + k).toNat = 6 + k.toNat by omega]; exact this
          have h1q : 1 ≤ J2 44 (6 + k).toNat := by rw [e44]; omega
          have hFq : okF (J2 44 (6 + k).toNat) (eE J2 (6 + k)) := by rw [e44, eE1]; exact okJ_form hL (s := 6 + k) (by omega) hk44
          refine z_aload_n dX9_claimsBelow_21 rfl rfl ?_
          refine c_bipush dX9_claimsBelow_22 (by decide) ?_
          refine z_iload_n dX9_claimsBelow_24 rfl rfl ?_
          refine c_iadd dX9_claimsBelow_25 ?_
          refine z_callv (N := MX9_layCounts) (ci := 9) (nas := 1) (as := [_]) dX9_claimsBelow_26 w_1023 w_1020 w_1022 ws_32 w_8 (by decide +kernel) rfl rfl rfl (by decide) (Nat.le_of_ble_eq_true rfl) (by decide) (by decide) (ZC.mono (cLay (p := 6 + k) (by omega) h1q hFq) ?_)
          rintro _ _ ⟨rfl, J3, P3, rfl, hC, hO3, hPo3⟩
          rw [e44, eE1] at hC
          have hR2 : okR J3 := fun q hq => by rw [hO3.1 56 (by decide) (by decide) (by decide), hO.1 56 (by decide) (by decide) (by decide)]; exact hR q hq
          have hrn : ruleN 0 = 9 := rfl
          refine z_iload_n dX9_claimsBelow_29 rfl rfl ?_
          refine z_aload_n dX9_claimsBelow_30 rfl rfl ?_
          refine c_iconst dX9_claimsBelow_31 ?_
          refine z_callv (N := MX9_lackMany) (ci := 9) (nas := 1) (as := [_]) dX9_claimsBelow_32 w_1098 w_1095 w_1097 ws_40 w_8 (by decide +kernel) rfl rfl rfl (by decide) (Nat.le_of_ble_eq_true rfl) (by decide) (by decide) (ZC.mono (cMX9_lackMany (by omega) hC hR2) ?_)
          rintro _ _ ⟨rfl, rfl⟩
          have hlb := lackN_bd (cF (J 44 (6 + k).toNat) (eE J (6 + k))) 0 (ruleN 0).toNat
          refine c_if_ne (tgt := 42) dX9_claimsBelow_35 (by decide) (by omega) (fun h35 => ?_) (fun h35 => ?_)
          · refine c_iconst dX9_claimsBelow_42 ?_
            refine c_iadd dX9_claimsBelow_43 ?_
            refine z_istore_n dX9_claimsBelow_44 rfl (by decide) rfl ?_
            refine c_iinc dX9_claimsBelow_45 rfl (by decide) rfl ?_
            refine z_goto (tgt := 4) dX9_claimsBelow_48 (by decide) ?_
            exact Z.fg2 (ih4 _ (by omega) _ _ _ _ rfl (by omega) (by rw [show (k + 1).toNat = k.toNat + 1 by omega, cnt, ← hc]; first | (rw [clB_f (by rw [Int.toNat_of_nonneg (by omega)]; exact g15)]; simp) | (rw [clB_t (by rw [Int.toNat_of_nonneg (by omega)]; exact g15) (by rw [clB_at (by omega)]; omega)]; simp) | (rw [clB_n (by rw [clB_at (by omega)]; omega)]; simp)) (by first | exact hO | exact offC_trans hO hO3) (by first | exact hPo | exact offP_trans hPo hPo3)) (zs1 rfl (zs1 rfl (zs1 rfl (zs1 rfl zs0))))
          · refine c_iconst dX9_claimsBelow_38 ?_
            refine z_goto (tgt := 43) dX9_claimsBelow_39 (by decide) ?_
            refine c_iadd dX9_claimsBelow_43 ?_
            refine z_istore_n dX9_claimsBelow_44 rfl (by decide) rfl ?_
            refine c_iinc dX9_claimsBelow_45 rfl (by decide) rfl ?_
            refine z_goto (tgt := 4) dX9_claimsBelow_48 (by decide) ?_
            exact Z.fg2 (ih4 _ (by omega) _ _ _ _ rfl (by omega) (by rw [show (k + 1).toNat = k.toNat + 1 by omega, cnt, ← hc]; first | (rw [clB_f (by rw [Int.toNat_of_nonneg (by omega)]; exact g15)]; simp) | (rw [clB_t (by rw [Int.toNat_of_nonneg (by omega)]; exact g15) (by rw [clB_at (by omega)]; omega)]; simp) | (rw [clB_n (by rw [clB_at (by omega)]; omega)]; simp)) (by first | exact hO | exact offC_trans hO hO3) (by first | exact hPo | exact offP_trans hPo hPo3)) (zs1 rfl (zs1 rfl (zs1 rfl (zs1 rfl zs0))))
  exact Z.fg2 (L4 _ _ _ _ _ rfl (by omega) (cnt_none (fun o ho => by unfold clB; rw [climb_stop (by omega)]; simp; omega)).symm ⟨fun _ _ _ _ => rfl, fun _ _ _ _ => rfl⟩ (fun _ _ _ _ => rfl)) (zs1 rfl (zs1 rfl (zs1 rfl (zs1 rfl zs0))))
end Ref17
