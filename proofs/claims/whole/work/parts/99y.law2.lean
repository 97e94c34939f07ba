section Law2
variable {g : ZG} {l : Launch}
theorem and63 (x : Int) : ∃ w : Int, (0 ≤ w ∧ w < 64) ∧ iZ x &&& iZ 63 = iZ w := by
  obtain ⟨j, hj, e⟩ := pk_andE (iZ x) (m := iZ 63) 6 (by decide +kernel)
  exact ⟨(j : Int), by omega, e.trans (Int32.ofInt_eq_ofNat).symm⟩
set_option maxHeartbeats 8000000 in
set_option maxRecDepth 100000 in
theorem law_Z {f : Nat → Int} {LN : Nat} (hS : g.2.2.2.2 0 = (LN, fun j => iZ (f j))) (hLN : LN ≤ 3072) (hF : ∀ j, rI (f j)) (hO : ORUL g) : Z g l ML_law 0 [some (.ref 0), none, none, none] [] (KT 4, zi Z0, zj Z0, RN, 4, 0) (fun rr hh => rr = some (.int (iZ 1)) ∧ hh.2.2.2.2.1 ≤ 600004 ∧ hh.2.2.2.2.2 ≤ 7302250) := by
  generalize hQ0 : (fun rr hh => rr = some (.int (iZ 1)) ∧ hh.2.2.2.2.1 ≤ 600004 ∧ hh.2.2.2.2.2 ≤ 7302250 : Option Value → ZH → Prop) = Q0
  refine c_new (ci := 8) dL_law_0 (by decide) w_14 w_15 w_1 ?_
  rw [show zkp (KT 4) 4 (10 + 8, 0) = KT 5 from KT_s (by decide) rfl, show 0 + zN 8 = 10 from rfl]
  rw [FZ_up (α := Int) (z := 0) (n := 4) (h := ?hj) (Nat.le_refl _)]
  case hj => repeat (first | exact FZ_c | exact FZ_JA | exact FZ_RA | apply FZ_zup (by decide))
  rw [FZ_up (α := Option Nat) (z := none) (n := 4) (h := ?hr) (Nat.le_refl _)]
  case hr => repeat (first | exact FZ_c | exact FZ_JA | exact FZ_RA | apply FZ_zup (by decide))
  refine z_dup dL_law_3 rfl ?_
  refine z_calli (N := MX8_init) (nas := 0) (as := []) dL_law_4 rfl rfl w_18 w_16 w_17 w_1 (by decide +kernel) rfl rfl (Nat.le_of_ble_eq_true rfl) (by decide) (by decide) (ZC.mono (cMX8_init) ?_)
  rintro _ _ ⟨rfl, s8, rfl, hs8⟩
  refine z_astore_n dL_law_7 rfl (by decide) rfl ?_
  refine c_new (ci := 9) dL_law_8 (by decide) w_770 w_771 w_8 ?_
  rw [show zkp (KT 42) 42 (10 + 9, 0) = KT 43 from KT_s (by decide) rfl]
  rw [FZ_up (α := Int) (z := 0) (n := 42) (h := ?hj) (Nat.le_refl _)]
  case hj => repeat (first | exact FZ_c | exact FZ_JA | exact FZ_RA | apply FZ_zup (by decide))
  rw [FZ_up (α := Int) (z := 0) (n := 42) (h := ?hp) (Nat.le_refl _)]
  case hp => repeat (first | exact FZ_c | exact FZ_JA | exact FZ_RA | apply FZ_zup (by decide))
  rw [FZ_up (α := Option Nat) (z := none) (n := 42) (h := ?hr) (Nat.le_refl _)]
  case hr => repeat (first | exact FZ_c | exact FZ_JA | exact FZ_RA | apply FZ_zup (by decide))
  refine z_dup dL_law_11 rfl ?_
  refine z_calli (N := MX9_init) (nas := 0) (as := []) dL_law_12 rfl rfl w_774 w_772 w_773 w_8 (by decide +kernel) rfl rfl (Nat.le_of_ble_eq_true rfl) (by decide) (by decide) (ZC.mono (cMX9_init) ?_)
  rintro _ _ ⟨rfl, s9, rfl, hs9⟩
  refine z_astore_n dL_law_15 rfl (by decide) rfl ?_
  refine c_iconst dL_law_16 ?_
  refine z_istore_n dL_law_17 rfl (by decide) rfl ?_
  rw [KZ_e, RZ_e]
  have hz9 : zN 9 = 34 := rfl
  have L18 : ∀ (m18 : Nat), ∀ (i : Int) (c : Nat) (Kd : ZK) (J P : Nat → Nat → Int) (Rd : ZR) (n s0 : Nat), ((LN : Int) - i).toNat = m18 → (0 ≤ i ∧ 6 * (c : Int) ≤ i ∧ i ≤ (LN : Int)) → (WD J c Kd J Rd n s0) → (okR J) → Z g l ML_law 18 [some (.ref 0), some (.ref 4), some (.ref 42), some (.int (iZ i))] [] (KF Kd, zi J, zj P, RF Rd, n, s0) Q0 := by
    intro m18
    induction m18 using Nat.strongRecOn with
    | ind m18 ih18 =>
      intro i c Kd J P Rd n s0 hm18 hi hW hR
      refine z_iload_n dL_law_18 rfl rfl ?_
      refine z_aload_n dL_law_19 rfl rfl ?_
      refine c_alen_old dL_law_20 (by decide) hS ?_
      refine c_bipush dL_law_21 (by decide) ?_
      refine c_isub dL_law_23 ?_
      refine c_icmp_gt (tgt := 1777) dL_law_24 (by decide) (by omega) (by omega) (fun h24 => ?_) (fun h24 => ?_)
      · refine c_iconst dL_law_1777 ?_
        refine c_zreturn dL_law_1778 rfl (Or.inr rfl) ?_
        subst hQ0
        have hr := WD_room hW (by omega)
        exact ⟨rfl, hr.1, hr.2⟩
      · refine z_aload_n dL_law_27 rfl rfl ?_
        refine z_iload_n dL_law_28 rfl rfl ?_
        refine c_iald_old dL_law_29 (by decide) hS (by omega) (by omega) ?_
        refine c_bipush dL_law_30 (by decide) ?_
        refine z_iand dL_law_32 ?_
        obtain ⟨w, hw, ew⟩ := and63 (f i.toNat)
        rw [ew]
        have L1771 : ∀ (K2 : ZK) (J2 P2 : Nat → Nat → Int) (R2 : ZR) (n2 s2 : Nat), (WD J2 (c + 1) K2 J2 R2 n2 s2) → (okR J2) → Z g l ML_law 1771 [some (.ref 0), some (.ref 4), some (.ref 42), some (.int (iZ i))] [] (KF K2, zi J2, zj P2, RF R2, n2, s2) Q0 := by
          intro K2 J2 P2 R2 n2 s2 hW2 hR2
          refine c_iinc dL_law_1771 rfl (by decide) rfl ?_
          refine z_goto (tgt := 18) dL_law_1774 (by decide) ?_
          exact Z.fg2 (ih18 _ (by omega) _ (c + 1) _ _ _ _ _ _ rfl ⟨by omega, by omega, by omega⟩ hW2 hR2) (zs1 rfl (zs1 rfl (zs1 rfl (zs1 rfl zs0))))
        rcases (show w = 0 ∨ w = 1 ∨ w = 2 ∨ w = 3 ∨ w = 4 ∨ w = 5 ∨ w = 6 ∨ w = 7 ∨ w = 8 ∨ w = 9 ∨ w = 10 ∨ w = 11 ∨ w = 12 ∨ w = 13 ∨ w = 14 ∨ w = 15 ∨ w = 16 ∨ w = 17 ∨ w = 18 ∨ w = 19 ∨ w = 20 ∨ w = 21 ∨ w = 22 ∨ w = 23 ∨ w = 24 ∨ w = 25 ∨ w = 26 ∨ w = 27 ∨ w = 28 ∨ w = 29 ∨ w = 30 ∨ w = 31 ∨ w = 32 ∨ w = 33 ∨ w = 34 ∨ w = 35 ∨ w = 36 ∨ w = 37 ∨ w = 38 ∨ w = 39 ∨ w = 40 ∨ w = 41 ∨ w = 42 ∨ (w < 0 ∨ 42 < w) by omega) with hsw | hsw | hsw | hsw | hsw | hsw | hsw | hsw | hsw | hsw | hsw | hsw | hsw | hsw | hsw | hsw | hsw | hsw | hsw | hsw | hsw | hsw | hsw | hsw | hsw | hsw | hsw | hsw | hsw | hsw | hsw | hsw | hsw | hsw | hsw | hsw | hsw | hsw | hsw | hsw | hsw | hsw | hsw | hsw
        · subst hsw
          refine c_tableIn (tgt := 220) dL_law_33 (by decide) (by decide) rfl (by decide) ?_
          exact law_0 hS hLN hF hO ⟨by omega, by omega⟩ hW hR L1771
        · subst hsw
          refine c_tableIn (tgt := 253) dL_law_33 (by decide) (by decide) rfl (by decide) ?_
          exact law_1 hS hLN hF hO ⟨by omega, by omega⟩ hW hR L1771
        · subst hsw
          refine c_tableIn (tgt := 306) dL_law_33 (by decide) (by decide) rfl (by decide) ?_
          exact law_2 hS hLN hF hO ⟨by omega, by omega⟩ hW hR L1771
        · subst hsw
          refine c_tableIn (tgt := 349) dL_law_33 (by decide) (by decide) rfl (by decide) ?_
          exact law_3 hS hLN hF hO ⟨by omega, by omega⟩ hW hR L1771
        · subst hsw
          refine c_tableIn (tgt := 372) dL_law_33 (by decide) (by decide) rfl (by decide) ?_
          exact law_4 hS hLN hF hO ⟨by omega, by omega⟩ hW hR L1771
        · subst hsw
          refine c_tableIn (tgt := 425) dL_law_33 (by decide) (by decide) rfl (by decide) ?_
          exact law_5 hS hLN hF hO ⟨by omega, by omega⟩ hW hR L1771
        · subst hsw
          refine c_tableIn (tgt := 468) dL_law_33 (by decide) (by decide) rfl (by decide) ?_
          exact law_6 hS hLN hF hO ⟨by omega, by omega⟩ hW hR L1771
        · subst hsw
          refine c_tableIn (tgt := 501) dL_law_33 (by decide) (by decide) rfl (by decide) ?_
          exact law_7 hS hLN hF hO ⟨by omega, by omega⟩ hW hR L1771
        · subst hsw
          refine c_tableIn (tgt := 534) dL_law_33 (by decide) (by decide) rfl (by decide) ?_
          exact law_8 hS hLN hF hO ⟨by omega, by omega⟩ hW hR L1771
        · subst hsw
          refine c_tableIn (tgt := 598) dL_law_33 (by decide) (by decide) rfl (by decide) ?_
          exact law_9 hS hLN hF hO ⟨by omega, by omega⟩ hW hR L1771
        · subst hsw
          refine c_tableIn (tgt := 651) dL_law_33 (by decide) (by decide) rfl (by decide) ?_
          exact law_10 hS hLN hF hO ⟨by omega, by omega⟩ hW hR L1771
        · subst hsw
          refine c_tableIn (tgt := 694) dL_law_33 (by decide) (by decide) rfl (by decide) ?_
          exact law_11 hS hLN hF hO ⟨by omega, by omega⟩ hW hR L1771
        · subst hsw
          refine c_tableIn (tgt := 727) dL_law_33 (by decide) (by decide) rfl (by decide) ?_
          exact law_12 hS hLN hF hO ⟨by omega, by omega⟩ hW hR L1771
        · subst hsw
          refine c_tableIn (tgt := 770) dL_law_33 (by decide) (by decide) rfl (by decide) ?_
          exact law_13 hS hLN hF hO ⟨by omega, by omega⟩ hW hR L1771
        · subst hsw
          refine c_tableIn (tgt := 793) dL_law_33 (by decide) (by decide) rfl (by decide) ?_
          exact law_14 hS hLN hF hO ⟨by omega, by omega⟩ hW hR L1771
        · subst hsw
          refine c_tableIn (tgt := 826) dL_law_33 (by decide) (by decide) rfl (by decide) ?_
          exact law_15 hS hLN hF hO ⟨by omega, by omega⟩ hW hR L1771
        · subst hsw
          refine c_tableIn (tgt := 859) dL_law_33 (by decide) (by decide) rfl (by decide) ?_
          exact law_16 hS hLN hF hO ⟨by omega, by omega⟩ hW hR L1771
        · subst hsw
          refine c_tableIn (tgt := 892) dL_law_33 (by decide) (by decide) rfl (by decide) ?_
          exact law_17 hS hLN hF hO ⟨by omega, by omega⟩ hW hR L1771
        · subst hsw
          refine c_tableIn (tgt := 935) dL_law_33 (by decide) (by decide) rfl (by decide) ?_
          exact law_18 hS hLN hF hO ⟨by omega, by omega⟩ hW hR L1771
        · subst hsw
          refine c_tableIn (tgt := 958) dL_law_33 (by decide) (by decide) rfl (by decide) ?_
          exact law_19 hS hLN hF hO ⟨by omega, by omega⟩ hW hR L1771
        · subst hsw
          refine c_tableIn (tgt := 1001) dL_law_33 (by decide) (by decide) rfl (by decide) ?_
          exact law_20 hS hLN hF hO ⟨by omega, by omega⟩ hW hR L1771
        · subst hsw
          refine c_tableIn (tgt := 1034) dL_law_33 (by decide) (by decide) rfl (by decide) ?_
          exact law_21 hS hLN hF hO ⟨by omega, by omega⟩ hW hR L1771
        · subst hsw
          refine c_tableIn (tgt := 1067) dL_law_33 (by decide) (by decide) rfl (by decide) ?_
          exact law_22 hS hLN hF hO ⟨by omega, by omega⟩ hW hR L1771
        · subst hsw
          refine c_tableIn (tgt := 1100) dL_law_33 (by decide) (by decide) rfl (by decide) ?_
          exact law_23 hS hLN hF hO ⟨by omega, by omega⟩ hW hR L1771
        · subst hsw
          refine c_tableIn (tgt := 1133) dL_law_33 (by decide) (by decide) rfl (by decide) ?_
          exact law_24 hS hLN hF hO ⟨by omega, by omega⟩ hW hR L1771
        · subst hsw
          refine c_tableIn (tgt := 1166) dL_law_33 (by decide) (by decide) rfl (by decide) ?_
          exact law_25 hS hLN hF hO ⟨by omega, by omega⟩ hW hR L1771
        · subst hsw
          refine c_tableIn (tgt := 1209) dL_law_33 (by decide) (by decide) rfl (by decide) ?_
          exact law_26 hS hLN hF hO ⟨by omega, by omega⟩ hW hR L1771
        · subst hsw
          refine c_tableIn (tgt := 1262) dL_law_33 (by decide) (by decide) rfl (by decide) ?_
          exact law_27 hS hLN hF hO ⟨by omega, by omega⟩ hW hR L1771
        · subst hsw
          refine c_tableIn (tgt := 1285) dL_law_33 (by decide) (by decide) rfl (by decide) ?_
          exact law_28 hS hLN hF hO ⟨by omega, by omega⟩ hW hR L1771
        · subst hsw
          refine c_tableIn (tgt := 1328) dL_law_33 (by decide) (by decide) rfl (by decide) ?_
          exact law_29 hS hLN hF hO ⟨by omega, by omega⟩ hW hR L1771
        · subst hsw
          refine c_tableIn (tgt := 1371) dL_law_33 (by decide) (by decide) rfl (by decide) ?_
          exact law_30 hS hLN hF hO ⟨by omega, by omega⟩ hW hR L1771
        · subst hsw
          refine c_tableIn (tgt := 1394) dL_law_33 (by decide) (by decide) rfl (by decide) ?_
          exact law_31 hS hLN hF hO ⟨by omega, by omega⟩ hW hR L1771
        · subst hsw
          refine c_tableIn (tgt := 1427) dL_law_33 (by decide) (by decide) rfl (by decide) ?_
          exact law_32 hS hLN hF hO ⟨by omega, by omega⟩ hW hR L1771
        · subst hsw
          refine c_tableIn (tgt := 1460) dL_law_33 (by decide) (by decide) rfl (by decide) ?_
          exact law_33 hS hLN hF hO ⟨by omega, by omega⟩ hW hR L1771
        · subst hsw
          refine c_tableIn (tgt := 1493) dL_law_33 (by decide) (by decide) rfl (by decide) ?_
          exact law_34 hS hLN hF hO ⟨by omega, by omega⟩ hW hR L1771
        · subst hsw
          refine c_tableIn (tgt := 1516) dL_law_33 (by decide) (by decide) rfl (by decide) ?_
          exact law_35 hS hLN hF hO ⟨by omega, by omega⟩ hW hR L1771
        · subst hsw
          refine c_tableIn (tgt := 1539) dL_law_33 (by decide) (by decide) rfl (by decide) ?_
          exact law_36 hS hLN hF hO ⟨by omega, by omega⟩ hW hR L1771
        · subst hsw
          refine c_tableIn (tgt := 1582) dL_law_33 (by decide) (by decide) rfl (by decide) ?_
          exact law_37 hS hLN hF hO ⟨by omega, by omega⟩ hW hR L1771
        · subst hsw
          refine c_tableIn (tgt := 1625) dL_law_33 (by decide) (by decide) rfl (by decide) ?_
          exact law_38 hS hLN hF hO ⟨by omega, by omega⟩ hW hR L1771
        · subst hsw
          refine c_tableIn (tgt := 1659) dL_law_33 (by decide) (by decide) rfl (by decide) ?_
          exact law_39 hS hLN hF hO ⟨by omega, by omega⟩ hW hR L1771
        · subst hsw
          refine c_tableIn (tgt := 1722) dL_law_33 (by decide) (by decide) rfl (by decide) ?_
          exact law_40 hS hLN hF hO ⟨by omega, by omega⟩ hW hR L1771
        · subst hsw
          refine c_tableIn (tgt := 1735) dL_law_33 (by decide) (by decide) rfl (by decide) ?_
          exact law_41 hS hLN hF hO ⟨by omega, by omega⟩ hW hR L1771
        · subst hsw
          refine c_tableIn (tgt := 1748) dL_law_33 (by decide) (by decide) rfl (by decide) ?_
          exact law_42 hS hLN hF hO ⟨by omega, by omega⟩ hW hR L1771
        · refine c_tableOut (tgt := 1771) dL_law_33 (by omega) hsw (by decide) ?_
          exact Z.fg2 (L1771 _ _ _ _ _ _ (WD_mono hW) hR) (zs1 rfl (zs1 rfl (zs1 rfl (zs1 rfl zs0))))
  exact Z.fg2 (L18 _ 0 0 _ _ _ _ _ _ rfl (by omega) (WD_0 (by omega)) okR_0) (zs1 rfl (zs1 rfl (zs1 rfl (zs1 rfl zs0))))
end Law2
