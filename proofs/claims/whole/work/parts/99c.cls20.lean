section Cls20
variable {g : ZG} {l : Launch} {Kd : ZK} {Rd : ZR} {n s0 c : Nat} {A J P : Nat → Nat → Int}
theorem TKD_f {nl : Int} {E : Nat → Int} {t cc ff : Nat} (hO : okF nl E) (hD : TKD Kd J Rd n nl E t cc ff) : ∀ m : Nat, m ≤ 100 → J cc m = cF nl E m ∧ 0 ≤ cF nl E m ∧ cF nl E m ≤ 2000000 := fun m hm => ⟨(hD.2.2.2.2 m hm).1, (cF_bd hO m).1, by have := (cF_bd hO m).2; omega⟩
set_option maxHeartbeats 4000000 in
set_option maxRecDepth 100000 in
theorem cMX8_refusalToGrow {r : Nat} (hr : isF Kd n r) (hW : WD A c Kd J Rd n s0) : ZC g l MX8_refusalToGrow [.ref 4, .ref r] (KF Kd, zi J, zj P, RF Rd, n, s0) (fun rr hh => ∃ (Kd' : ZK) (J' P' : Nat → Nat → Int) (Rd' : ZR) (n' s0' : Nat), hh = (KF Kd', zi J', zj P', RF Rd', n', s0') ∧ rr = some (.int (iZ (grow (J r 0) (J (ent Rd r))))) ∧ WD A c Kd' J' Rd' n' s0' ∧ Ev Kd J Rd n Kd' J' Rd' n' ∧ (∀ a, 66 ≤ a → a < n → Kd' a = Kd a ∧ J' a = J a) ∧ (∀ a, 35 ≤ a → a < 66 → P' a = P a)) := by
  refine ZC.of (by decide) (Nat.le_of_ble_eq_true rfl) ?_
  generalize hQ0 : (fun rr hh => ∃ (Kd' : ZK) (J' P' : Nat → Nat → Int) (Rd' : ZR) (n' s0' : Nat), hh = (KF Kd', zi J', zj P', RF Rd', n', s0') ∧ rr = some (.int (iZ (grow (J r 0) (J (ent Rd r))))) ∧ WD A c Kd' J' Rd' n' s0' ∧ Ev Kd J Rd n Kd' J' Rd' n' ∧ (∀ a, 66 ≤ a → a < n → Kd' a = Kd a ∧ J' a = J a) ∧ (∀ a, 35 ≤ a → a < 66 → P' a = P a) : Option Value → ZH → Prop) = Q0
  show Z g l MX8_refusalToGrow 0 [some (.ref 4), some (.ref r)] [] (KF Kd, zi J, zj P, RF Rd, n, s0) Q0
  refine z_aload_n dX8_refusalToGrow_0 rfl rfl ?_
  refine z_aload_n dX8_refusalToGrow_1 rfl rfl ?_
  refine z_callv (N := MX8_takenBy) (ci := 8) (nas := 1) (as := [_]) dX8_refusalToGrow_2 w_445 w_442 w_444 ws_3 w_1 (by decide +kernel) rfl rfl rfl (by decide) (Nat.le_of_ble_eq_true rfl) (by decide) (by decide) (ZC.mono (cMX8_takenBy hr hW) ?_)
  rintro _ _ ⟨K2, J2, P2, R2, n2, s2, t2, c2, f2, rfl, rfl, hW2, hE2, hD2, hk2, hP2⟩
  have hT2 := TKD_f (WD_GF hW hr).2.1.2.1 hD2
  refine z_callv (N := MX6_firstLacking) (ci := 6) (nas := 0) (as := []) dX8_refusalToGrow_5 w_507 w_504 w_505 w_506 w_13 (by decide +kernel) rfl rfl hD2.1.1 (by decide) (Nat.le_of_ble_eq_true rfl) (by decide) (by decide) (ZC.mono (cMX6_firstLacking (f := cF (J r 0) (J (ent Rd r))) hD2.1.1 hD2.1.2.1 hD2.2.2.1.1 hT2) ?_)
  rintro _ _ ⟨rfl, rfl⟩
  rw [show lackD (cF (J r 0) (J (ent Rd r))) 100 = truF (J r 0) (J (ent Rd r)) from rfl]
  have htr := truF_bd (J r 0) (J (ent Rd r))
  have hG := (WD_GF hW hr).2.1
  have hG4 := hG.2.1.1
  refine c_if_ne (tgt := 14) dX8_refusalToGrow_8 (by decide) (by omega) (fun h8 => ?_) (fun h8 => ?_)
  · refine z_aload_n dX8_refusalToGrow_14 rfl rfl ?_
    refine c_getI (ci := 3) (kf := 0) dX8_refusalToGrow_15 (FA_K1 (Ev_isF hE2 hr)) (by decide) (by decide) rfl w_280 ?_
    rw [show J2 r 0 = J r 0 by rw [(hE2.2.1 r hr).2.1]]
    refine c_iconst dX8_refusalToGrow_18 ?_
    refine c_icmp_ne (tgt := 27) dX8_refusalToGrow_19 (by decide) (by omega) (by omega) (fun h19 => ?_) (fun h19 => ?_)
    · refine c_iconst dX8_refusalToGrow_27 ?_
      refine c_ireturn dX8_refusalToGrow_28 rfl ?_
      subst hQ0; refine ⟨K2, J2, P2, R2, n2, s2, rfl, ?_, hW2, hE2, hk2, hP2⟩; unfold grow; first | (rw [if_pos (by omega)]; done) | (rw [if_neg (by omega), if_pos (by omega)]; done) | (rw [if_neg (by omega), if_neg (by omega)]; done)
    · refine c_bipush dX8_refusalToGrow_22 (by decide) ?_
      refine z_goto (tgt := 28) dX8_refusalToGrow_24 (by decide) ?_
      refine c_ireturn dX8_refusalToGrow_28 rfl ?_
      subst hQ0; refine ⟨K2, J2, P2, R2, n2, s2, rfl, ?_, hW2, hE2, hk2, hP2⟩; unfold grow; first | (rw [if_pos (by omega)]; done) | (rw [if_neg (by omega), if_pos (by omega)]; done) | (rw [if_neg (by omega), if_neg (by omega)]; done)
  · refine c_bipush dX8_refusalToGrow_11 (by decide) ?_
    refine c_ireturn dX8_refusalToGrow_13 rfl ?_
    subst hQ0; refine ⟨K2, J2, P2, R2, n2, s2, rfl, ?_, hW2, hE2, hk2, hP2⟩; unfold grow; first | (rw [if_pos (by omega)]; done) | (rw [if_neg (by omega), if_pos (by omega)]; done) | (rw [if_neg (by omega), if_neg (by omega)]; done)
set_option maxHeartbeats 4000000 in
set_option maxRecDepth 100000 in
theorem cMX8_claimsBelow {x : Int} (hx : 0 ≤ x ∧ x < A 42 2) (hO : ORUL g) (hW : WD A c Kd J Rd n s0) : ZC g l MX8_claimsBelow [.ref 4, .int (iZ x)] (KF Kd, zi J, zj P, RF Rd, n, s0) (fun rr hh => ∃ (Kd' : ZK) (J' P' : Nat → Nat → Int) (Rd' : ZR) (n' s0' : Nat), hh = (KF Kd', zi J', zj P', RF Rd', n', s0') ∧ rr = some (.int (iZ (cnt (clB A x) (A 42 2).toNat))) ∧ WD A c Kd' J' Rd' n' s0' ∧ Ev Kd J Rd n Kd' J' Rd' n' ∧ cs P P') := by
  refine ZC.of (by decide) (Nat.le_of_ble_eq_true rfl) ?_
  generalize hQ0 : (fun rr hh => ∃ (Kd' : ZK) (J' P' : Nat → Nat → Int) (Rd' : ZR) (n' s0' : Nat), hh = (KF Kd', zi J', zj P', RF Rd', n', s0') ∧ rr = some (.int (iZ (cnt (clB A x) (A 42 2).toNat))) ∧ WD A c Kd' J' Rd' n' s0' ∧ Ev Kd J Rd n Kd' J' Rd' n' ∧ cs P P' : Option Value → ZH → Prop) = Q0
  show Z g l MX8_claimsBelow 0 [some (.ref 4), some (.int (iZ x)), none, none] [] (KF Kd, zi J, zj P, RF Rd, n, s0) Q0
  have h30 := (WD_un hW).2.2.2
  refine c_iconst dX8_claimsBelow_0 ?_
  refine z_istore_n dX8_claimsBelow_1 rfl (by decide) rfl ?_
  refine z_iload_n dX8_claimsBelow_2 rfl rfl ?_
  refine z_istore_n dX8_claimsBelow_3 rfl (by decide) rfl ?_
  have L4 : ∀ (m4 : Nat), ∀ (k w : Int) (K1 : ZK) (J1 P1 : Nat → Nat → Int) (R1 : ZR) (n1 s1 : Nat), (A 42 2 - k).toNat = m4 → (x ≤ k ∧ k ≤ A 42 2) → (w = cnt (clB A x) k.toNat) → (WD A c K1 J1 R1 n1 s1) → (Ev Kd J Rd n K1 J1 R1 n1) → (cs P P1) → Z g l MX8_claimsBelow 4 [some (.ref 4), some (.int (iZ x)), some (.int (iZ w)), some (.int (iZ k))] [] (KF K1, zi J1, zj P1, RF R1, n1, s1) Q0 := by
    intro m4
    induction m4 using Nat.strongRecOn with
    | ind m4 ih4 =>
      intro k w K1 J1 P1 R1 n1 s1 hm4 hk hw hW1 hE1 hP1
      have hu1 := WD_un hW1
      have hrn : ruleN 0 = 9 := rfl
      have hcb := cnt_bd (clB A x) k.toNat
      refine z_iload_n dX8_claimsBelow_4 rfl rfl ?_
      refine z_aload_n dX8_claimsBelow_5 rfl rfl ?_
      refine z_getR (ci := 8) (kf := 2) dX8_claimsBelow_6 rfl (by decide) (by decide) rfl w_184 rfl ?_
      refine c_getI (ci := 7) (kf := 0) dX8_claimsBelow_9 rfl (by decide) (by decide) rfl w_32 ?_
      rw [hu1.1]
      refine c_icmp_ge (tgt := 56) dX8_claimsBelow_12 (by decide) (by omega) (by omega) (fun h12 => ?_) (fun h12 => ?_)
      · refine z_iload_n dX8_claimsBelow_56 rfl rfl ?_
        refine c_ireturn dX8_claimsBelow_57 rfl ?_
        subst hQ0; refine ⟨_, _, _, _, _, _, rfl, ?_, hW1, hE1, hP1⟩; rw [hw, show k.toNat = (A 42 2).toNat by omega]
      · refine z_aload_n dX8_claimsBelow_15 rfl rfl ?_
        refine z_getR (ci := 8) (kf := 2) dX8_claimsBelow_16 rfl (by decide) (by decide) rfl w_184 rfl ?_
        refine z_iload_n dX8_claimsBelow_19 rfl rfl ?_
        refine z_iload_n dX8_claimsBelow_20 rfl rfl ?_
        refine z_callv (N := MX7_isWithin) (ci := 7) (nas := 2) (as := [_, _]) dX8_claimsBelow_21 w_691 w_697 w_689 w_690 w_2 (by decide +kernel) rfl rfl rfl (by decide) (Nat.le_of_ble_eq_true rfl) (by decide) (by decide) (ZC.mono (cMX7_isWithin (nd := A 42 2) (un := A 45) hu1.1 hu1.2.1 hu1.2.2.1 hx (by omega)) ?_)
        rintro _ _ ⟨b21, rfl, rfl, hb21⟩
        refine c_if_eq (tgt := 50) dX8_claimsBelow_24 (by decide) (by omega) (fun h24 => ?_) (fun h24 => ?_)
        · have g21 := (hb21.resolve_left (fun z => by have := z.1; omega)).2
          clear hb21
          refine c_iinc dX8_claimsBelow_50 rfl (by decide) rfl ?_
          refine z_goto (tgt := 4) dX8_claimsBelow_53 (by decide) ?_
          exact Z.fg2 (ih4 _ (by omega) _ _ _ _ _ _ _ _ rfl (by omega) (by rw [show (k + 1).toNat = k.toNat + 1 by omega, cnt, ← hw]; first | (rw [clB_f (by rw [Int.toNat_of_nonneg (by omega)]; exact g21)]; simp; done) | (rw [clB_t (by rw [Int.toNat_of_nonneg (by omega)]; exact g21) (by rw [clB_at (by omega)]; exact g41)]; simp; done) | (rw [clB_n (by rw [clB_at (by omega)]; exact g41)]; simp; done)) (by first | exact hW2 | exact hW1) (by first | exact Ev_trans hE1 hE2 | exact hE1) (by first | exact (cs_trans hP1 (fun a a1 a2 => hP2 a (by omega) a2)) | exact hP1)) (zs1 rfl (zs1 rfl (zs1 rfl (zs1 rfl zs0))))
        · have g21 := (hb21.resolve_right (fun z => by have := z.1; omega)).2
          clear hb21
          refine z_aload_n dX8_claimsBelow_27 rfl rfl ?_
          refine z_aload_n dX8_claimsBelow_28 rfl rfl ?_
          refine z_getR (ci := 8) (kf := 2) dX8_claimsBelow_29 rfl (by decide) (by decide) rfl w_184 rfl ?_
          refine z_getR (ci := 7) (kf := 1) dX8_claimsBelow_32 rfl (by decide) (by decide) rfl w_34 rfl ?_
          refine z_iload_n dX8_claimsBelow_35 rfl rfl ?_
          obtain ⟨r, h8, hfa0⟩ := WD_node hW1 (k := k.toNat) (by omega)
          have hfa : FA A K1 J1 R1 n1 (6 + k).toNat r := by rw [show (6 + k).toNat = 6 + k.toNat by omega]; exact hfa0
          refine c_aald dX8_claimsBelow_36 (Or.inl rfl) (by omega) (by decide) h8 ?_
          refine z_callv (N := MX8_takenBy) (ci := 8) (nas := 1) (as := [_]) dX8_claimsBelow_37 w_445 w_442 w_444 ws_3 w_1 (by decide +kernel) rfl rfl rfl (by decide) (Nat.le_of_ble_eq_true rfl) (by decide) (by decide) (ZC.mono (cMX8_takenBy hfa.1 hW1) ?_)
          rintro _ _ ⟨K2, J2, P2, R2, n2, s2, t2, c2, f2, rfl, rfl, hW2, hE2, hD2, hk2, hP2⟩
          have hT2 := TK_pub (s := 6 + k) hfa (FA_okF hW1 hfa) hD2
          refine c_iconst dX8_claimsBelow_40 ?_
          refine z_calls (N := MX8_isClaimed) (nas := 2) (as := [_, _]) dX8_claimsBelow_41 w_578 w_576 w_577 w_1 (by decide +kernel) rfl rfl (Nat.le_of_ble_eq_true rfl) (by decide) (by decide) (ZC.mono (cMX8_isClaimed (f := (cF (A 44 (6 + k).toNat) (eE A (6 + k)))) hD2.1.1 hD2.1.2.1 hD2.2.2.1.1 hT2.1 hO (q := 0) (by omega)) ?_)
          rintro _ _ ⟨b41, rfl, rfl, hb41⟩
          refine c_if_eq (tgt := 50) dX8_claimsBelow_44 (by decide) (by omega) (fun h44 => ?_) (fun h44 => ?_)
          · have g41 := (hb41.resolve_left (fun z => by have := z.1; omega)).2
            clear hb41
            refine c_iinc dX8_claimsBelow_50 rfl (by decide) rfl ?_
            refine z_goto (tgt := 4) dX8_claimsBelow_53 (by decide) ?_
            exact Z.fg2 (ih4 _ (by omega) _ _ _ _ _ _ _ _ rfl (by omega) (by rw [show (k + 1).toNat = k.toNat + 1 by omega, cnt, ← hw]; first | (rw [clB_f (by rw [Int.toNat_of_nonneg (by omega)]; exact g21)]; simp; done) | (rw [clB_t (by rw [Int.toNat_of_nonneg (by omega)]; exact g21) (by rw [clB_at (by omega)]; exact g41)]; simp; done) | (rw [clB_n (by rw [clB_at (by omega)]; exact g41)]; simp; done)) (by first | exact hW2 | exact hW1) (by first | exact Ev_trans hE1 hE2 | exact hE1) (by first | exact (cs_trans hP1 (fun a a1 a2 => hP2 a (by omega) a2)) | exact hP1)) (zs1 rfl (zs1 rfl (zs1 rfl (zs1 rfl zs0))))
          · have g41 := (hb41.resolve_right (fun z => by have := z.1; omega)).2
            clear hb41
            refine c_iinc dX8_claimsBelow_47 rfl (by decide) rfl ?_
            refine c_iinc dX8_claimsBelow_50 rfl (by decide) rfl ?_
            refine z_goto (tgt := 4) dX8_claimsBelow_53 (by decide) ?_
            exact Z.fg2 (ih4 _ (by omega) _ _ _ _ _ _ _ _ rfl (by omega) (by rw [show (k + 1).toNat = k.toNat + 1 by omega, cnt, ← hw]; first | (rw [clB_f (by rw [Int.toNat_of_nonneg (by omega)]; exact g21)]; simp; done) | (rw [clB_t (by rw [Int.toNat_of_nonneg (by omega)]; exact g21) (by rw [clB_at (by omega)]; exact g41)]; simp; done) | (rw [clB_n (by rw [clB_at (by omega)]; exact g41)]; simp; done)) (by first | exact hW2 | exact hW1) (by first | exact Ev_trans hE1 hE2 | exact hE1) (by first | exact (cs_trans hP1 (fun a a1 a2 => hP2 a (by omega) a2)) | exact hP1)) (zs1 rfl (zs1 rfl (zs1 rfl (zs1 rfl zs0))))
  exact Z.fg2 (L4 _ _ 0 _ _ _ _ _ _ rfl (by omega) (cnt_none (fun o ho => by unfold clB; rw [climb_stop (by omega)]; simp; omega)).symm hW Ev_refl cs_refl) (zs1 rfl (zs1 rfl (zs1 rfl (zs1 rfl zs0))))
set_option maxHeartbeats 4000000 in
set_option maxRecDepth 100000 in
theorem cMX8_ofNode {x w : Int} (hx : rI x) (hw : rI w) (hO : ORUL g) (hW : WD A c Kd J Rd n s0) : ZC g l MX8_ofNode [.ref 4, .int (iZ x), .int (iZ w)] (KF Kd, zi J, zj P, RF Rd, n, s0) (PW A (c + 1) J P (.int (iZ (aOfNode A x w)))) := by
  refine ZC.of (by decide) (Nat.le_of_ble_eq_true rfl) ?_
  generalize hQ0 : (PW A (c + 1) J P (.int (iZ (aOfNode A x w))) : Option Value → ZH → Prop) = Q0
  show Z g l MX8_ofNode 0 [some (.ref 4), some (.int (iZ x)), some (.int (iZ w)), none] [] (KF Kd, zi J, zj P, RF Rd, n, s0) Q0
  have hun := WD_un hW
  have h3a := hun.2.2.2.1
  have h3b := hun.2.2.2.2
  refine z_aload_n dX8_ofNode_0 rfl rfl ?_
  refine z_getR (ci := 8) (kf := 2) dX8_ofNode_1 rfl (by decide) (by decide) rfl w_184 rfl ?_
  refine z_iload_n dX8_ofNode_4 rfl rfl ?_
  refine z_callv (N := MX7_isNode) (ci := 7) (nas := 1) (as := [_]) dX8_ofNode_5 w_669 w_666 w_667 w_668 w_2 (by decide +kernel) rfl rfl rfl (by decide) (Nat.le_of_ble_eq_true rfl) (by decide) (by decide) (ZC.mono (cMX7_isNode (by omega) hun.1 (by omega)) ?_)
  rintro _ _ ⟨b5, rfl, rfl, hb5⟩
  refine c_if_ne (tgt := 13) dX8_ofNode_8 (by decide) (by omega) (fun h8 => ?_) (fun h8 => ?_)
  · have g5 := (hb5.resolve_right (fun z => by have := z.1; omega)).2
    clear hb5
    refine z_aload_n dX8_ofNode_13 rfl rfl ?_
    refine z_getR (ci := 8) (kf := 2) dX8_ofNode_14 rfl (by decide) (by decide) rfl w_184 rfl ?_
    refine z_getR (ci := 7) (kf := 1) dX8_ofNode_17 rfl (by decide) (by decide) rfl w_34 rfl ?_
    refine z_iload_n dX8_ofNode_20 rfl rfl ?_
    obtain ⟨r, h8, hfa0⟩ := WD_node hW (k := x.toNat) (by omega)
    have hfa : FA A Kd J Rd n (6 + x).toNat r := by rw [show (6 + x).toNat = 6 + x.toNat by omega]; exact hfa0
    have hF := FA_okF hW hfa
    have h9 := hW.2.2.1.2.2.1.2 x.toNat (by omega)
    refine c_aald dX8_ofNode_21 (Or.inl rfl) (by omega) (by decide) h8 ?_
    refine z_astore_n dX8_ofNode_22 rfl (by decide) rfl ?_
    refine z_iload_n dX8_ofNode_23 rfl rfl ?_
    rcases (show w = 0 ∨ w = 1 ∨ w = 2 ∨ w = 3 ∨ w = 4 ∨ w = 5 ∨ w = 6 ∨ w = 7 ∨ w = 8 ∨ (w < 0 ∨ 8 < w) by omega) with hsw | hsw | hsw | hsw | hsw | hsw | hsw | hsw | hsw | hsw
    · subst hsw
      refine c_tableIn (tgt := 76) dX8_ofNode_24 (by decide) (by decide) rfl (by decide) ?_
      refine z_aload_n dX8_ofNode_76 rfl rfl ?_
      refine z_getR (ci := 8) (kf := 2) dX8_ofNode_77 rfl (by decide) (by decide) rfl w_184 rfl ?_
      refine z_getR (ci := 7) (kf := 2) dX8_ofNode_80 rfl (by decide) (by decide) rfl w_36 rfl ?_
      refine z_iload_n dX8_ofNode_83 rfl rfl ?_
      refine c_iald dX8_ofNode_84 rfl (by omega) (by decide) ?_
      rw [h9.2.1]
      refine c_ireturn dX8_ofNode_85 rfl ?_
      subst hQ0; unfold aOfNode; rw [cif_pos (by omega), if_pos (by omega)]; exact PW_id hW
    · subst hsw
      refine c_tableIn (tgt := 86) dX8_ofNode_24 (by decide) (by decide) rfl (by decide) ?_
      refine z_aload_n dX8_ofNode_86 rfl rfl ?_
      refine c_getI (ci := 3) (kf := 0) dX8_ofNode_87 (FA_K1 hfa.1) (by decide) (by decide) rfl w_280 ?_
      rw [hfa.2.1]
      refine c_ireturn dX8_ofNode_90 rfl ?_
      subst hQ0; unfold aOfNode; rw [cif_pos (by omega), if_neg (by omega), if_pos (by omega)]; exact PW_id hW
    · subst hsw
      refine c_tableIn (tgt := 91) dX8_ofNode_24 (by decide) (by decide) rfl (by decide) ?_
      refine z_aload_n dX8_ofNode_91 rfl rfl ?_
      refine z_aload_n dX8_ofNode_92 rfl rfl ?_
      refine z_callv (N := MX8_takenBy) (ci := 8) (nas := 1) (as := [_]) dX8_ofNode_93 w_445 w_442 w_444 ws_3 w_1 (by decide +kernel) rfl rfl rfl (by decide) (Nat.le_of_ble_eq_true rfl) (by decide) (by decide) (ZC.mono (cMX8_takenBy hfa.1 hW) ?_)
      rintro _ _ ⟨K3, J3, P3, R3, n3, s3, t3, c3, f3, rfl, rfl, hW3, hE3, hD3, hk3, hP3⟩
      have hT3 := TK_pub (s := 6 + x) hfa hF hD3
      refine z_callv (N := MX6_firstLacking) (ci := 6) (nas := 0) (as := []) dX8_ofNode_96 w_507 w_504 w_505 w_506 w_13 (by decide +kernel) rfl rfl hD3.1.1 (by decide) (Nat.le_of_ble_eq_true rfl) (by decide) (by decide) (ZC.mono (cMX6_firstLacking (f := cF (A 44 (6 + x).toNat) (eE A (6 + x))) hD3.1.1 hD3.1.2.1 hD3.2.2.1.1 hT3.1) ?_)
      rintro _ _ ⟨rfl, rfl⟩
      refine c_ireturn dX8_ofNode_99 rfl ?_
      subst hQ0; unfold aOfNode; rw [cif_pos (by omega), if_neg (by omega), if_neg (by omega), if_pos (by omega)]; exact ⟨rfl, _, _, _, _, _, _, rfl, WD_mono hW3, cs_Ev hE3, fun a a1 a2 => hP3 a (by omega) a2⟩
    · subst hsw
      refine c_tableIn (tgt := 100) dX8_ofNode_24 (by decide) (by decide) rfl (by decide) ?_
      refine z_aload_n dX8_ofNode_100 rfl rfl ?_
      refine z_getR (ci := 8) (kf := 2) dX8_ofNode_101 rfl (by decide) (by decide) rfl w_184 rfl ?_
      refine z_iload_n dX8_ofNode_104 rfl rfl ?_
      refine z_callv (N := MX7_under) (ci := 7) (nas := 1) (as := [_]) dX8_ofNode_105 w_677 w_674 w_675 w_676 w_2 (by decide +kernel) rfl rfl rfl (by decide) (Nat.le_of_ble_eq_true rfl) (by decide) (by decide) (ZC.mono (cMX7_under hun.1 hun.2.1 hun.2.2.1 (by omega)) ?_)
      rintro _ _ ⟨rfl, rfl⟩
      refine c_ireturn dX8_ofNode_108 rfl ?_
      subst hQ0; unfold aOfNode; rw [cif_pos (by omega), if_neg (by omega), if_neg (by omega), if_neg (by omega), if_pos (by omega)]; exact PW_id hW
    · subst hsw
      refine c_tableIn (tgt := 109) dX8_ofNode_24 (by decide) (by decide) rfl (by decide) ?_
      refine z_aload_n dX8_ofNode_109 rfl rfl ?_
      refine z_getR (ci := 8) (kf := 2) dX8_ofNode_110 rfl (by decide) (by decide) rfl w_184 rfl ?_
      refine z_iload_n dX8_ofNode_113 rfl rfl ?_
      refine z_callv (N := MX7_heightOf) (ci := 7) (nas := 1) (as := [_]) dX8_ofNode_114 w_681 w_678 w_679 w_680 w_2 (by decide +kernel) rfl rfl rfl (by decide) (Nat.le_of_ble_eq_true rfl) (by decide) (by decide) (ZC.mono (cMX7_heightOf hun.1 hun.2.1 hun.2.2.1 (by omega)) ?_)
      rintro _ _ ⟨J3, rfl, rfl, hJ3⟩
      refine c_ireturn dX8_ofNode_117 rfl ?_
      subst hQ0; unfold aOfNode; rw [cif_pos (by omega), if_neg (by omega), if_neg (by omega), if_neg (by omega), if_neg (by omega), if_pos (by omega)]; exact ⟨rfl, _, _, _, _, _, _, rfl, WD_mono (WD_scr hW (fun a ha => hJ3 a (ks_ne ha (by decide)))), fun a a1 a2 => hJ3 a (by omega), cs_refl⟩
    · subst hsw
      refine c_tableIn (tgt := 118) dX8_ofNode_24 (by decide) (by decide) rfl (by decide) ?_
      refine z_aload_n dX8_ofNode_118 rfl rfl ?_
      refine z_getR (ci := 8) (kf := 2) dX8_ofNode_119 rfl (by decide) (by decide) rfl w_184 rfl ?_
      refine z_iload_n dX8_ofNode_122 rfl rfl ?_
      refine z_callv (N := MX7_leavesOf) (ci := 7) (nas := 1) (as := [_]) dX8_ofNode_123 w_687 w_684 w_685 w_686 w_2 (by decide +kernel) rfl rfl rfl (by decide) (Nat.le_of_ble_eq_true rfl) (by decide) (by decide) (ZC.mono (cMX7_leavesOf hun.1 hun.2.1 hun.2.2.1 (by omega)) ?_)
      rintro _ _ ⟨rfl, rfl⟩
      refine c_ireturn dX8_ofNode_126 rfl ?_
      subst hQ0; unfold aOfNode; rw [cif_pos (by omega), if_neg (by omega), if_neg (by omega), if_neg (by omega), if_neg (by omega), if_neg (by omega), if_pos (by omega)]; exact PW_id hW
    · subst hsw
      refine c_tableIn (tgt := 127) dX8_ofNode_24 (by decide) (by decide) rfl (by decide) ?_
      refine z_aload_n dX8_ofNode_127 rfl rfl ?_
      refine z_iload_n dX8_ofNode_128 rfl rfl ?_
      refine z_callv (N := MX8_claimsBelow) (ci := 8) (nas := 1) (as := [_]) dX8_ofNode_129 w_696 w_693 w_695 ws_16 w_1 (by decide +kernel) rfl rfl rfl (by decide) (Nat.le_of_ble_eq_true rfl) (by decide) (by decide) (ZC.mono (cMX8_claimsBelow (by omega) hO hW) ?_)
      rintro _ _ ⟨K3, J3, P3, R3, n3, s3, rfl, rfl, hW3, hE3, hP3⟩
      refine c_ireturn dX8_ofNode_132 rfl ?_
      subst hQ0; unfold aOfNode; rw [cif_pos (by omega), if_neg (by omega), if_neg (by omega), if_neg (by omega), if_neg (by omega), if_neg (by omega), if_neg (by omega), if_pos (by omega)]; exact ⟨rfl, _, _, _, _, _, _, rfl, WD_mono hW3, cs_Ev hE3, hP3⟩
    · subst hsw
      refine c_tableIn (tgt := 133) dX8_ofNode_24 (by decide) (by decide) rfl (by decide) ?_
      refine z_aload_n dX8_ofNode_133 rfl rfl ?_
      refine z_getR (ci := 8) (kf := 2) dX8_ofNode_134 rfl (by decide) (by decide) rfl w_184 rfl ?_
      refine z_getR (ci := 7) (kf := 3) dX8_ofNode_137 rfl (by decide) (by decide) rfl w_38 rfl ?_
      refine z_iload_n dX8_ofNode_140 rfl rfl ?_
      refine c_iald dX8_ofNode_141 rfl (by omega) (by decide) ?_
      rw [h9.2.2]
      refine c_ireturn dX8_ofNode_142 rfl ?_
      subst hQ0; unfold aOfNode; rw [cif_pos (by omega), if_neg (by omega), if_neg (by omega), if_neg (by omega), if_neg (by omega), if_neg (by omega), if_neg (by omega), if_neg (by omega), if_pos (by omega)]; exact PW_id hW
    · subst hsw
      refine c_tableIn (tgt := 143) dX8_ofNode_24 (by decide) (by decide) rfl (by decide) ?_
      refine z_aload_n dX8_ofNode_143 rfl rfl ?_
      refine c_getI (ci := 3) (kf := 2) dX8_ofNode_144 (FA_K1 hfa.1) (by decide) (by decide) rfl w_289 ?_
      rw [FA_det hW hfa]
      refine c_ireturn dX8_ofNode_147 rfl ?_
      subst hQ0; unfold aOfNode; rw [cif_pos (by omega), if_neg (by omega), if_neg (by omega), if_neg (by omega), if_neg (by omega), if_neg (by omega), if_neg (by omega), if_neg (by omega), if_neg (by omega)]; exact PW_id hW
    · refine c_tableOut (tgt := 148) dX8_ofNode_24 (by omega) hsw (by decide) ?_
      refine c_iconst dX8_ofNode_148 ?_
      refine c_ireturn dX8_ofNode_149 rfl ?_
      subst hQ0; unfold aOfNode; rw [cif_neg (by omega)]; exact PW_id hW
  · have g5 := (hb5.resolve_left (fun z => by have := z.1; omega)).2
    clear hb5
    refine c_iconst dX8_ofNode_11 ?_
    refine c_ireturn dX8_ofNode_12 rfl ?_
    subst hQ0; unfold aOfNode; rw [cif_neg (by omega)]; exact PW_id hW
end Cls20
