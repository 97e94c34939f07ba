section Cls13
variable {g : ZG} {l : Launch} {Kd : ZK} {Rd : ZR} {n s0 c : Nat} {A J P : Nat → Nat → Int}
theorem Ev_scr {J' : Nat → Nat → Int} (hW : WD A c Kd J Rd n s0) (hk : ∀ a, ka a = true → J' a = J a) (hd : ∀ a, 66 ≤ a → J' a = J a) : Ev Kd J Rd n Kd J' Rd n :=
  ⟨Nat.le_refl _, fun r hr => ⟨hr.2.2, hd r hr.1, rfl, hd _ (WD_ent hW hr).2.2.1⟩, hk, fun _ _ => rfl⟩
theorem WD_b (hW : WD A c Kd J Rd n s0) {r b : Nat} (hr : isF Kd n r) (h5 : Rd r 5 = some b) : KF Kd b = (1, 17) ∧ 66 ≤ b ∧ b < n ∧ BtV J (J r 0) (J (ent Rd r)) b := by
  rcases (WD_GF hW hr).2.2.2 with z | ⟨b', z1, z2, z3⟩
  · rw [z] at h5; cases h5
  · rw [z1] at h5; cases h5
    exact ⟨by rw [KF_dyn z2.1]; exact z2.2.2, z2.1, z2.2.1, z3⟩
theorem resS_cg {nl : Int} {E F : Nat → Int} {m : Int} (h : ∀ k, k < 16 → E k = F k) : ∀ K, resS nl E m K = resS nl F m K
  | 0 => rfl
  | K + 1 => by unfold resS; rw [resS_cg h K, wv_congr h]
theorem restS_cg {nl : Int} {E F : Nat → Int} (h : ∀ k, k < 16 → E k = F k) : restS nl E = restS nl F := by funext m; unfold restS; rw [resS_cg h]
theorem barS_cg {nl : Int} {E F : Nat → Int} (h : ∀ k, k < 16 → E k = F k) (v : Int) : barS nl E v = barS nl F v := by unfold barS; rw [restS_cg h]
theorem ka_ne {a b : Nat} (h : ka a = true) (hb : ka b = false) : a ≠ b := by intro e; subst e; rw [h] at hb; cases hb
theorem cs_Ev {Kd' : ZK} {J' : Nat → Nat → Int} {Rd' : ZR} {n' : Nat} (h : Ev Kd J Rd n Kd' J' Rd' n') : cs J J' := fun a a1 a2 => h.2.2.1 a (by
  have e : ∀ b, b < 66 → 42 ≤ b → ka b = true := by decide +kernel
  exact e a a2 a1)
set_option maxHeartbeats 4000000 in
set_option maxRecDepth 100000 in
theorem cMX4_bitsOf {r : Nat} {m : Int} (hr : isF Kd n r) (hm : 2 ≤ m ∧ m ≤ 16) (hW : WD A c Kd J Rd n s0) : ZC g l MX4_bitsOf [.ref 37, .ref r, .int (iZ m)] (KF Kd, zi J, zj P, RF Rd, n, s0) (fun rr hh => ∃ (Kd' : ZK) (J' : Nat → Nat → Int) (Rd' : ZR) (n' s0' : Nat), hh = (KF Kd', zi J', zj P, RF Rd', n', s0') ∧ rr = some (.int (iZ (((restS (J r 0) (J (ent Rd r)) m : Nat) : Int)))) ∧ WD A c Kd' J' Rd' n' s0' ∧ Ev Kd J Rd n Kd' J' Rd' n' ∧ ∀ a, 66 ≤ a → a < n → Kd' a = Kd a ∧ (Kd a ≠ (1, 17) → J' a = J a)) := by
  refine ZC.of (by decide) (Nat.le_of_ble_eq_true rfl) ?_
  generalize hQ0 : (fun rr hh => ∃ (Kd' : ZK) (J' : Nat → Nat → Int) (Rd' : ZR) (n' s0' : Nat), hh = (KF Kd', zi J', zj P, RF Rd', n', s0') ∧ rr = some (.int (iZ (((restS (J r 0) (J (ent Rd r)) m : Nat) : Int)))) ∧ WD A c Kd' J' Rd' n' s0' ∧ Ev Kd J Rd n Kd' J' Rd' n' ∧ ∀ a, 66 ≤ a → a < n → Kd' a = Kd a ∧ (Kd a ≠ (1, 17) → J' a = J a) : Option Value → ZH → Prop) = Q0
  show Z g l MX4_bitsOf 0 [some (.ref 37), some (.ref r), some (.int (iZ m))] [] (KF Kd, zi J, zj P, RF Rd, n, s0) Q0
  have h66 := hW.1
  refine z_iload_n dX4_bitsOf_0 rfl rfl ?_
  refine c_iconst dX4_bitsOf_1 ?_
  refine c_icmp_lt (tgt := 11) dX4_bitsOf_2 (by decide) (by omega) (by omega) (fun h2 => ?_) (fun h2 => ?_)
  · exact absurd h2 (by omega)
  · refine z_iload_n dX4_bitsOf_5 rfl rfl ?_
    refine c_bipush dX4_bitsOf_6 (by decide) ?_
    refine c_icmp_le (tgt := 13) dX4_bitsOf_8 (by decide) (by omega) (by omega) (fun h8 => ?_) (fun h8 => ?_)
    · refine z_aload_n dX4_bitsOf_13 rfl rfl ?_
      have L28 : ∀ (K1 : ZK) (J1 : Nat → Nat → Int) (R1 : ZR) (n1 s1 b : Nat), (WD A c K1 J1 R1 n1 s1) → (Ev Kd J Rd n K1 J1 R1 n1) → (R1 r 5 = some b) → (∀ a, 66 ≤ a → a < n → K1 a = Kd a ∧ (Kd a ≠ (1, 17) → J1 a = J a)) → Z g l MX4_bitsOf 28 [some (.ref 37), some (.ref r), some (.int (iZ m))] [] (KF K1, zi J1, zj P, RF R1, n1, s1) Q0 := by
        intro K1 J1 R1 n1 s1 b hW1 hE1 h51 hkp
        refine z_aload_n dX4_bitsOf_28 rfl rfl ?_
        have hr1 := Ev_isF hE1 hr
        have hb1 := WD_b hW1 hr1 h51
        have he1 := WD_ent hW1 hr1
        have hG1 := (WD_GF hW1 hr1).2.1
        have hp1 := okF_pos hG1.1 hG1.2.1
        have hrl : restS (J1 r 0) (J1 (ent R1 r)) m < 65536 := resS_lt hm hp1 _
        have hrp := rest_pos (nl := J1 r 0) (E := J1 (ent R1 r)) hm ⟨hG1.1, hG1.2.1.1⟩
        have hv1 := hb1.2.2.2 m.toNat (by omega) (by omega)
        rw [Int.toNat_of_nonneg (by omega)] at hv1
        have hq1 : J1 r 0 = J r 0 ∧ J1 (ent R1 r) = J (ent Rd r) := by
          have e := hE1.2.1 r hr
          exact ⟨by rw [e.2.1], by rw [Ev_ent hE1 hr]; exact e.2.2.2⟩
        refine z_getR (ci := 3) (kf := 5) dX4_bitsOf_29 (FA_K1 hr1) (by decide) (by decide) rfl w_293 (by rw [RF_dyn hr.1]; exact h51) ?_
        refine z_iload_n dX4_bitsOf_32 rfl rfl ?_
        refine c_iald dX4_bitsOf_33 hb1.1 (by omega) (by decide) ?_
        refine c_if_ne (tgt := 49) dX4_bitsOf_34 (by decide) (by omega) (fun h34 => ?_) (fun h34 => ?_)
        · refine z_aload_n dX4_bitsOf_49 rfl rfl ?_
          refine z_getR (ci := 3) (kf := 5) dX4_bitsOf_50 (FA_K1 hr1) (by decide) (by decide) rfl w_293 (by rw [RF_dyn hr.1]; exact h51) ?_
          refine z_iload_n dX4_bitsOf_53 rfl rfl ?_
          refine c_iald dX4_bitsOf_54 hb1.1 (by omega) (by decide) ?_
          refine c_ireturn dX4_bitsOf_55 rfl ?_
          subst hQ0
          first
          | (refine ⟨K1, J1, R1, n1, s1, rfl, ?_, hW1, hE1, hkp⟩
             rw [hv1.resolve_left h34, hq1.1, hq1.2]; done)
          | (have hW45 : WD A c K1 J45 R1 n1 s1 := WD_scr hW1 (fun a ha => ho45 a (ks_ne ha (by decide)) (ks_ne ha (by decide)))
             have hE45 : Ev K1 J1 R1 n1 K1 J45 R1 n1 := Ev_scr hW1 (fun a ha => ho45 a (ka_ne ha (by decide)) (ka_ne ha (by decide))) (fun a ha => ho45 a (by omega) (by omega))
             have hB := WD_bitset (m := m.toNat) hW45 hr1 h51 (by omega)
             rw [Int.toNat_of_nonneg (by omega), ho45 r (by have := hr.1; omega) (by have := hr.1; omega), ho45 (ent R1 r) (by omega) (by omega)] at hB
             refine ⟨K1, _, R1, n1, s1, rfl, ?_, hB.1, Ev_trans hE1 (Ev_trans hE45 hB.2), fun a a1 a2 => ⟨(hkp a a1 a2).1, fun a3 => by rw [zup_ne (fun e => a3 (by rw [← (hkp a a1 a2).1, e]; exact (KF_dyn hb1.2.1).symm.trans hb1.1)), ho45 a (by omega) (by omega)]; exact (hkp a a1 a2).2 a3⟩⟩
             rw [zz, hq1.1, hq1.2])
        · refine z_aload_n dX4_bitsOf_37 rfl rfl ?_
          refine z_getR (ci := 3) (kf := 5) dX4_bitsOf_38 (FA_K1 hr1) (by decide) (by decide) rfl w_293 (by rw [RF_dyn hr.1]; exact h51) ?_
          refine z_iload_n dX4_bitsOf_41 rfl rfl ?_
          refine z_aload_n dX4_bitsOf_42 rfl rfl ?_
          refine z_aload_n dX4_bitsOf_43 rfl rfl ?_
          refine z_iload_n dX4_bitsOf_44 rfl rfl ?_
          refine z_callv (N := MX4_foundBits) (ci := 4) (nas := 2) (as := [_, _]) dX4_bitsOf_45 w_523 w_520 w_522 ws_8 w_6 (by decide +kernel) rfl rfl rfl (by decide) (Nat.le_of_ble_eq_true rfl) (by decide) (by decide) (ZC.mono (cMX4_foundBits (FA_K1 hr1) he1.1 he1.2.1 ⟨hr.1, he1.2.2.1⟩ rfl (fun _ _ => rfl) hG1.1 hG1.2.1 hm) ?_)
          rintro _ _ ⟨J45, rfl, rfl, ho45⟩
          refine c_iast dX4_bitsOf_48 hb1.1 (by omega) (by decide) ?_
          refine z_aload_n dX4_bitsOf_49 rfl rfl ?_
          refine z_getR (ci := 3) (kf := 5) dX4_bitsOf_50 (FA_K1 hr1) (by decide) (by decide) rfl w_293 (by rw [RF_dyn hr.1]; exact h51) ?_
          refine z_iload_n dX4_bitsOf_53 rfl rfl ?_
          refine c_iald dX4_bitsOf_54 hb1.1 (by omega) (by decide) ?_
          refine c_ireturn dX4_bitsOf_55 rfl ?_
          subst hQ0
          first
          | (refine ⟨K1, J1, R1, n1, s1, rfl, ?_, hW1, hE1, hkp⟩
             rw [hv1.resolve_left h34, hq1.1, hq1.2]; done)
          | (have hW45 : WD A c K1 J45 R1 n1 s1 := WD_scr hW1 (fun a ha => ho45 a (ks_ne ha (by decide)) (ks_ne ha (by decide)))
             have hE45 : Ev K1 J1 R1 n1 K1 J45 R1 n1 := Ev_scr hW1 (fun a ha => ho45 a (ka_ne ha (by decide)) (ka_ne ha (by decide))) (fun a ha => ho45 a (by omega) (by omega))
             have hB := WD_bitset (m := m.toNat) hW45 hr1 h51 (by omega)
             rw [Int.toNat_of_nonneg (by omega), ho45 r (by have := hr.1; omega) (by have := hr.1; omega), ho45 (ent R1 r) (by omega) (by omega)] at hB
             refine ⟨K1, _, R1, n1, s1, rfl, ?_, hB.1, Ev_trans hE1 (Ev_trans hE45 hB.2), fun a a1 a2 => ⟨(hkp a a1 a2).1, fun a3 => by rw [zup_ne (fun e => a3 (by rw [← (hkp a a1 a2).1, e]; exact (KF_dyn hb1.2.1).symm.trans hb1.1)), ho45 a (by omega) (by omega)]; exact (hkp a a1 a2).2 a3⟩⟩
             rw [zz, hq1.1, hq1.2])
      rcases hx : Rd r 5 with _ | b0
      · refine z_getRN (ci := 3) (kf := 5) dX4_bitsOf_14 (FA_K1 hr) (by decide) (by decide) rfl w_293 (by rw [RF_dyn hr.1]; exact hx) ?_
        refine z_ifnonnullN dX4_bitsOf_17 ?_
        refine z_aload_n dX4_bitsOf_20 rfl rfl ?_
        refine c_bipush dX4_bitsOf_21 (by decide) ?_
        refine c_newi dX4_bitsOf_23 w_51 (by omega) ?_
        rw [KF_kp h66]
        refine z_putR (ci := 3) (kf := 5) dX4_bitsOf_25 (by rw [KF_zk (by have := hr.2.1; omega)]; exact FA_K1 hr) (by decide) (by decide) rfl (by decide) (fun _ => rfl) (fun _ => rfl) w_293 ?_
        rw [RF_up (Or.inr hr.1)]
        exact Z.fg2 (L28 _ _ _ _ _ _ (by first | exact hW | exact (WD_bits hW hr hx).1) (by first | exact Ev_refl | exact (WD_bits hW hr hx).2) (by first | exact hx | exact zz) (by first | exact (fun a _ _ => ⟨rfl, fun _ => rfl⟩) | exact (fun a a1 a2 => ⟨zkp_ne (by omega), fun _ => by show (if a = n then _ else _) = _; rw [if_neg (by omega)]⟩))) (zs1 rfl (zs1 rfl (zs1 rfl zs0)))
      · refine z_getR (ci := 3) (kf := 5) dX4_bitsOf_14 (FA_K1 hr) (by decide) (by decide) rfl w_293 (by rw [RF_dyn hr.1]; exact hx) ?_
        refine z_ifnonnull (tgt := 28) dX4_bitsOf_17 (by decide) ?_
        exact Z.fg2 (L28 _ _ _ _ _ _ (by first | exact hW | exact (WD_bits hW hr hx).1) (by first | exact Ev_refl | exact (WD_bits hW hr hx).2) (by first | exact hx | exact zz) (by first | exact (fun a _ _ => ⟨rfl, fun _ => rfl⟩) | exact (fun a a1 a2 => ⟨zkp_ne (by omega), fun _ => by show (if a = n then _ else _) = _; rw [if_neg (by omega)]⟩))) (zs1 rfl (zs1 rfl (zs1 rfl zs0)))
    · exact absurd h8 (by omega)
set_option maxHeartbeats 4000000 in
set_option maxRecDepth 100000 in
theorem cMX8_barrierOf {r : Nat} {v : Int} (hr : isF Kd n r) (hv : rI v) (hW : WD A c Kd J Rd n s0) : ZC g l MX8_barrierOf [.ref 4, .ref r, .int (iZ v)] (KF Kd, zi J, zj P, RF Rd, n, s0) (fun rr hh => ∃ (Kd' : ZK) (J' : Nat → Nat → Int) (Rd' : ZR) (n' s0' : Nat), hh = (KF Kd', zi J', zj P, RF Rd', n', s0') ∧ rr = some (.int (iZ (if barS (J r 0) (J (ent Rd r)) v = 0 then -2 else barS (J r 0) (J (ent Rd r)) v))) ∧ WD A c Kd' J' Rd' n' s0' ∧ Ev Kd J Rd n Kd' J' Rd' n' ∧ ∀ a, 66 ≤ a → a < n → Kd' a = Kd a ∧ (Kd a ≠ (1, 17) → J' a = J a)) := by
  refine ZC.of (by decide) (Nat.le_of_ble_eq_true rfl) ?_
  generalize hQ0 : (fun rr hh => ∃ (Kd' : ZK) (J' : Nat → Nat → Int) (Rd' : ZR) (n' s0' : Nat), hh = (KF Kd', zi J', zj P, RF Rd', n', s0') ∧ rr = some (.int (iZ (if barS (J r 0) (J (ent Rd r)) v = 0 then -2 else barS (J r 0) (J (ent Rd r)) v))) ∧ WD A c Kd' J' Rd' n' s0' ∧ Ev Kd J Rd n Kd' J' Rd' n' ∧ ∀ a, 66 ≤ a → a < n → Kd' a = Kd a ∧ (Kd a ≠ (1, 17) → J' a = J a) : Option Value → ZH → Prop) = Q0
  show Z g l MX8_barrierOf 0 [some (.ref 4), some (.ref r), some (.int (iZ v)), none] [] (KF Kd, zi J, zj P, RF Rd, n, s0) Q0
  refine c_iconst dX8_barrierOf_0 ?_
  refine z_istore_n dX8_barrierOf_1 rfl (by decide) rfl ?_
  have L2 : ∀ (m2 : Nat), ∀ (m : Int) (K1 : ZK) (J1 : Nat → Nat → Int) (R1 : ZR) (n1 s1 : Nat), (17 - m).toNat = m2 → (2 ≤ m ∧ m ≤ 17) → (barS (J r 0) (J (ent Rd r)) v = barD (restS (J r 0) (J (ent Rd r))) v (17 - m).toNat) → (WD A c K1 J1 R1 n1 s1) → (Ev Kd J Rd n K1 J1 R1 n1) → (∀ a, 66 ≤ a → a < n → K1 a = Kd a ∧ (Kd a ≠ (1, 17) → J1 a = J a)) → Z g l MX8_barrierOf 2 [some (.ref 4), some (.ref r), some (.int (iZ v)), some (.int (iZ m))] [] (KF K1, zi J1, zj P, RF R1, n1, s1) Q0 := by
    intro m2
    induction m2 using Nat.strongRecOn with
    | ind m2 ih2 =>
      intro m K1 J1 R1 n1 s1 hm2 hm hb hW1 hE1 hkp
      refine z_iload_n dX8_barrierOf_2 rfl rfl ?_
      refine c_bipush dX8_barrierOf_3 (by decide) ?_
      refine c_icmp_gt (tgt := 36) dX8_barrierOf_5 (by decide) (by omega) (by omega) (fun h5 => ?_) (fun h5 => ?_)
      · refine c_bipush dX8_barrierOf_36 (by decide) ?_
        refine c_ireturn dX8_barrierOf_38 rfl ?_
        subst hQ0; refine ⟨_, _, _, _, _, rfl, ?_, hW1, hE1, hkp⟩; rw [hb, show (17 - m).toNat = 0 by omega]; rfl
      · refine z_aload_n dX8_barrierOf_8 rfl rfl ?_
        refine z_getR (ci := 8) (kf := 8) dX8_barrierOf_9 rfl (by decide) (by decide) rfl w_190 rfl ?_
        refine z_aload_n dX8_barrierOf_12 rfl rfl ?_
        refine z_iload_n dX8_barrierOf_13 rfl rfl ?_
        refine z_callv (N := MX4_bitsOf) (ci := 4) (nas := 2) (as := [_, _]) dX8_barrierOf_14 w_519 w_516 w_517 w_518 w_6 (by decide +kernel) rfl rfl rfl (by decide) (Nat.le_of_ble_eq_true rfl) (by decide) (by decide) (ZC.mono (cMX4_bitsOf (m := m) (Ev_isF hE1 hr) (by omega) hW1) ?_)
        rintro _ _ ⟨K2, J2, R2, n2, s2, rfl, rfl, hW2, hE2, hk2⟩
        have hq1 : J1 r 0 = J r 0 ∧ J1 (ent R1 r) = J (ent Rd r) := by
          have e := hE1.2.1 r hr
          exact ⟨by rw [e.2.1], by rw [Ev_ent hE1 hr]; exact e.2.2.2⟩
        have hG := (WD_GF hW hr).2.1
        have hrl : restS (J r 0) (J (ent Rd r)) m < 65536 := resS_lt (by omega) (okF_pos hG.1 hG.2.1) _
        rw [hq1.1, hq1.2]
        have d0 := Int.emod_nonneg v (show m ≠ 0 by omega)
        have d1 := Int.emod_lt_of_pos v (show 0 < m by omega)
        have hbd : barD (restS (J r 0) (J (ent Rd r))) v (17 - m).toNat = if (restS (J r 0) (J (ent Rd r)) m).testBit (v % m).toNat then barD (restS (J r 0) (J (ent Rd r))) v (17 - (m + 1)).toNat else m := by
          rw [show (17 - m).toNat = (17 - (m + 1)).toNat + 1 by omega, barD, show (16 : Int) - (((17 - (m + 1)).toNat : Nat) : Int) = m by omega]
        refine z_iload_n dX8_barrierOf_17 rfl rfl ?_
        refine z_iload_n dX8_barrierOf_18 rfl rfl ?_
        refine z_calls (N := MJ9_floorMod_7cf53) (nas := 2) (as := [_, _]) dX8_barrierOf_19 w_534 w_543 w_533 w_12 (by decide +kernel) rfl rfl (Nat.le_of_ble_eq_true rfl) (by decide) (by decide) (ZC.mono (cMJ9_floorMod_7cf53 (by omega) (by omega) (by omega)) ?_)
        rintro _ _ ⟨rfl, rfl⟩
        refine z_ishr dX8_barrierOf_22 ?_
        refine c_iconst dX8_barrierOf_23 ?_
        refine z_iand dX8_barrierOf_24 ?_
        rw [iZ_bit (by omega) (by omega) (by omega)]
        have hkp2 : ∀ a, 66 ≤ a → a < n → K2 a = Kd a ∧ (Kd a ≠ (1, 17) → J2 a = J a) := fun a a1 a2 => ⟨(hk2 a a1 (by have := hE1.1; omega)).1.trans (hkp a a1 a2).1, fun a3 => ((hk2 a a1 (by have := hE1.1; omega)).2 (by rw [(hkp a a1 a2).1]; exact a3)).trans ((hkp a a1 a2).2 a3)⟩
        refine c_if_ne (tgt := 30) dX8_barrierOf_25 (by decide) (by split <;> omega) (fun h25 => ?_) (fun h25 => ?_)
        · refine c_iinc dX8_barrierOf_30 rfl (by decide) rfl ?_
          refine z_goto (tgt := 2) dX8_barrierOf_33 (by decide) ?_
          exact Z.fg2 (ih2 _ (by omega) _ _ _ _ _ _ rfl (by omega) (by rw [hb, hbd]; split at h25; (rename_i z; rw [if_pos z]); (exfalso; omega)) hW2 (Ev_trans hE1 hE2) hkp2) (zs1 rfl (zs1 rfl (zs1 rfl (zs1 rfl zs0))))
        · refine z_iload_n dX8_barrierOf_28 rfl rfl ?_
          refine c_ireturn dX8_barrierOf_29 rfl ?_
          subst hQ0; refine ⟨_, _, _, _, _, rfl, ?_, hW2, Ev_trans hE1 hE2, hkp2⟩; rw [hb, hbd]; split at h25; (exfalso; omega); (rename_i z; rw [if_neg z, if_neg (by omega)])
  exact Z.fg2 (L2 _ 2 _ _ _ _ _ rfl (by omega) rfl hW Ev_refl (fun a _ _ => ⟨rfl, fun _ => rfl⟩)) (zs1 rfl (zs1 rfl (zs1 rfl (zs1 rfl zs0))))
set_option maxHeartbeats 4000000 in
set_option maxRecDepth 100000 in
theorem cMX8_residues {s m : Int} (hs : rI s) (hm : rI m) (hW : WD A c Kd J Rd n s0) : ZC g l MX8_residues [.ref 4, .int (iZ s), .int (iZ m)] (KF Kd, zi J, zj P, RF Rd, n, s0) (PW A (c + 1) J P (.int (iZ (aResidues A s m)))) := by
  refine ZC.of (by decide) (Nat.le_of_ble_eq_true rfl) ?_
  generalize hQ0 : (PW A (c + 1) J P (.int (iZ (aResidues A s m))) : Option Value → ZH → Prop) = Q0
  show Z g l MX8_residues 0 [some (.ref 4), some (.int (iZ s)), some (.int (iZ m)), none] [] (KF Kd, zi J, zj P, RF Rd, n, s0) Q0
  refine z_aload_n dX8_residues_0 rfl rfl ?_
  refine z_iload_n dX8_residues_1 rfl rfl ?_
  refine z_callv (N := MX8_held) (ci := 8) (nas := 1) (as := [_]) dX8_residues_2 w_333 w_330 w_332 ws_2 w_1 (by decide +kernel) rfl rfl rfl (by decide) (Nat.le_of_ble_eq_true rfl) (by decide) (by decide) (ZC.mono (cMX8_held (by omega) hW) ?_)
  rintro _ _ ⟨rfl, hd2⟩
  rcases hd2 with ⟨hf2, rfl⟩ | ⟨hf2, r2, rfl, hr2⟩
  · skip
    refine z_astore_nN dX8_residues_5 rfl (by decide) rfl ?_
    refine z_aload_nN dX8_residues_6 rfl rfl ?_
    refine z_ifnullN (tgt := 21) dX8_residues_7 (by decide) ?_
    refine c_iconst dX8_residues_21 ?_
    refine c_ireturn dX8_residues_22 rfl ?_
    subst hQ0; unfold aResidues; rw [cif_neg (by omega)]; exact PW_id hW
  · have hK2 := FA_K1 hr2.1
    have hE2 := WD_ent hW hr2.1
    have hF2 := FA_okF hW hr2
    have hl2 := hF2.2.1
    refine z_astore_n dX8_residues_5 rfl (by decide) rfl ?_
    refine z_aload_n dX8_residues_6 rfl rfl ?_
    refine z_ifnull dX8_residues_7 ?_
    refine z_iload_n dX8_residues_10 rfl rfl ?_
    refine c_iconst dX8_residues_11 ?_
    refine c_icmp_lt (tgt := 21) dX8_residues_12 (by decide) (by omega) (by omega) (fun h12 => ?_) (fun h12 => ?_)
    · refine c_iconst dX8_residues_21 ?_
      refine c_ireturn dX8_residues_22 rfl ?_
      subst hQ0; unfold aResidues; rw [cif_neg (by omega)]; exact PW_id hW
    · refine z_iload_n dX8_residues_15 rfl rfl ?_
      refine c_bipush dX8_residues_16 (by decide) ?_
      refine c_icmp_le (tgt := 23) dX8_residues_18 (by decide) (by omega) (by omega) (fun h18 => ?_) (fun h18 => ?_)
      · refine z_aload_n dX8_residues_23 rfl rfl ?_
        refine z_getR (ci := 8) (kf := 8) dX8_residues_24 rfl (by decide) (by decide) rfl w_190 rfl ?_
        refine z_aload_n dX8_residues_27 rfl rfl ?_
        refine z_iload_n dX8_residues_28 rfl rfl ?_
        refine z_callv (N := MX4_bitsOf) (ci := 4) (nas := 2) (as := [_, _]) dX8_residues_29 w_519 w_516 w_517 w_518 w_6 (by decide +kernel) rfl rfl rfl (by decide) (Nat.le_of_ble_eq_true rfl) (by decide) (by decide) (ZC.mono (cMX4_bitsOf hr2.1 (by omega) hW) ?_)
        rintro _ _ ⟨K3, J3, R3, n3, s3, rfl, rfl, hW3, hE3, hk3⟩
        refine c_ireturn dX8_residues_32 rfl ?_
        subst hQ0; unfold aResidues; rw [cif_pos (by omega), hr2.2.1, restS_cg (F := eE A s) (fun k hk => hr2.2.2 k hk)]; exact ⟨rfl, _, _, _, _, _, _, rfl, WD_mono hW3, cs_Ev hE3, cs_refl⟩
      · refine c_iconst dX8_residues_21 ?_
        refine c_ireturn dX8_residues_22 rfl ?_
        subst hQ0; unfold aResidues; rw [cif_neg (by omega)]; exact PW_id hW
set_option maxHeartbeats 4000000 in
set_option maxRecDepth 100000 in
theorem cMX8_barred {s v : Int} (hs : rI s) (hv : rI v) (hW : WD A c Kd J Rd n s0) : ZC g l MX8_barred [.ref 4, .int (iZ s), .int (iZ v)] (KF Kd, zi J, zj P, RF Rd, n, s0) (PW A (c + 1) J P (.int (iZ (aBarred A s v)))) := by
  refine ZC.of (by decide) (Nat.le_of_ble_eq_true rfl) ?_
  generalize hQ0 : (PW A (c + 1) J P (.int (iZ (aBarred A s v))) : Option Value → ZH → Prop) = Q0
  show Z g l MX8_barred 0 [some (.ref 4), some (.int (iZ s)), some (.int (iZ v)), none] [] (KF Kd, zi J, zj P, RF Rd, n, s0) Q0
  refine z_aload_n dX8_barred_0 rfl rfl ?_
  refine z_iload_n dX8_barred_1 rfl rfl ?_
  refine z_callv (N := MX8_held) (ci := 8) (nas := 1) (as := [_]) dX8_barred_2 w_333 w_330 w_332 ws_2 w_1 (by decide +kernel) rfl rfl rfl (by decide) (Nat.le_of_ble_eq_true rfl) (by decide) (by decide) (ZC.mono (cMX8_held (by omega) hW) ?_)
  rintro _ _ ⟨rfl, hd2⟩
  rcases hd2 with ⟨hf2, rfl⟩ | ⟨hf2, r2, rfl, hr2⟩
  · skip
    refine z_astore_nN dX8_barred_5 rfl (by decide) rfl ?_
    refine z_aload_nN dX8_barred_6 rfl rfl ?_
    refine z_ifnonnullN dX8_barred_7 ?_
    refine c_iconst dX8_barred_10 ?_
    refine z_goto (tgt := 20) dX8_barred_11 (by decide) ?_
    refine c_ireturn dX8_barred_20 rfl ?_
    subst hQ0; unfold aBarred; first | (rw [cif_neg (by omega)]; exact PW_id hW) | (rw [cif_pos (by omega), hr2.2.1, barS_cg (F := eE A s) (fun k hk => hr2.2.2 k hk)]; exact ⟨rfl, _, _, _, _, _, _, rfl, WD_mono hW3, cs_Ev hE3, cs_refl⟩)
  · have hK2 := FA_K1 hr2.1
    have hE2 := WD_ent hW hr2.1
    have hF2 := FA_okF hW hr2
    have hl2 := hF2.2.1
    refine z_astore_n dX8_barred_5 rfl (by decide) rfl ?_
    refine z_aload_n dX8_barred_6 rfl rfl ?_
    refine z_ifnonnull (tgt := 14) dX8_barred_7 (by decide) ?_
    refine z_aload_n dX8_barred_14 rfl rfl ?_
    refine z_aload_n dX8_barred_15 rfl rfl ?_
    refine z_iload_n dX8_barred_16 rfl rfl ?_
    refine z_callv (N := MX8_barrierOf) (ci := 8) (nas := 2) (as := [_, _]) dX8_barred_17 w_515 w_512 w_514 ws_7 w_1 (by decide +kernel) rfl rfl rfl (by decide) (Nat.le_of_ble_eq_true rfl) (by decide) (by decide) (ZC.mono (cMX8_barrierOf hr2.1 (by omega) hW) ?_)
    rintro _ _ ⟨K3, J3, R3, n3, s3, rfl, rfl, hW3, hE3, hk3⟩
    refine c_ireturn dX8_barred_20 rfl ?_
    subst hQ0; unfold aBarred; first | (rw [cif_neg (by omega)]; exact PW_id hW) | (rw [cif_pos (by omega), hr2.2.1, barS_cg (F := eE A s) (fun k hk => hr2.2.2 k hk)]; exact ⟨rfl, _, _, _, _, _, _, rfl, WD_mono hW3, cs_Ev hE3, cs_refl⟩)
end Cls13
