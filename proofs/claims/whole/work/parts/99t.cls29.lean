section Cls29
variable {g : ZG} {l : Launch} {Kd : ZK} {Rd : ZR} {n s0 c : Nat} {A J P : Nat → Nat → Int}
set_option maxHeartbeats 4000000 in
set_option maxRecDepth 100000 in
theorem cMX8_branch {x k : Int} (hx : rI x) (hk : rI k) (hW : WD A c Kd J Rd n s0) : ZC g l MX8_branch [.ref 4, .int (iZ x), .int (iZ k)] (KF Kd, zi J, zj P, RF Rd, n, s0) (PW (aBranch A x k).2 (c + 1) J P (.int (iZ (aBranch A x k).1))) := by
  refine ZC.of (by decide) (Nat.le_of_ble_eq_true rfl) ?_
  generalize hQ0 : (PW (aBranch A x k).2 (c + 1) J P (.int (iZ (aBranch A x k).1)) : Option Value → ZH → Prop) = Q0
  show Z g l MX8_branch 0 [some (.ref 4), some (.int (iZ x)), some (.int (iZ k)), none, none] [] (KF Kd, zi J, zj P, RF Rd, n, s0) Q0
  have hun := WD_un hW
  have h3a := hun.2.2.2.1
  have h3b := hun.2.2.2.2
  have hu30 := (WD_un hW).2.2.2
  refine z_aload_n dX8_branch_0 rfl rfl ?_
  refine z_getR (ci := 8) (kf := 2) dX8_branch_1 rfl (by decide) (by decide) rfl w_184 rfl ?_
  refine z_iload_n dX8_branch_4 rfl rfl ?_
  refine z_callv (N := MX7_isNode) (ci := 7) (nas := 1) (as := [_]) dX8_branch_5 w_669 w_666 w_667 w_668 w_2 (by decide +kernel) rfl rfl rfl (by decide) (Nat.le_of_ble_eq_true rfl) (by decide) (by decide) (ZC.mono (cMX7_isNode (by omega) hun.1 (by omega)) ?_)
  rintro _ _ ⟨b5, rfl, rfl, hb5⟩
  refine c_if_ne (tgt := 13) dX8_branch_8 (by decide) (by omega) (fun h8 => ?_) (fun h8 => ?_)
  · have g5 := (hb5.resolve_right (fun z => by have := z.1; omega)).2
    clear hb5
    refine z_aload_n dX8_branch_13 rfl rfl ?_
    refine z_getR (ci := 8) (kf := 2) dX8_branch_14 rfl (by decide) (by decide) rfl w_184 rfl ?_
    refine z_getR (ci := 7) (kf := 1) dX8_branch_17 rfl (by decide) (by decide) rfl w_34 rfl ?_
    refine z_iload_n dX8_branch_20 rfl rfl ?_
    obtain ⟨r, h8, hfa0⟩ := WD_node hW (k := x.toNat) (by omega)
    have hfa : FA A Kd J Rd n (6 + x).toNat r := by rw [show (6 + x).toNat = 6 + x.toNat by omega]; exact hfa0
    have hF := FA_okF hW hfa
    refine c_aald dX8_branch_21 (Or.inl rfl) (by omega) (by decide) h8 ?_
    refine z_astore_n dX8_branch_22 rfl (by decide) rfl ?_
    refine z_aload_n dX8_branch_23 rfl rfl ?_
    refine z_aload_n dX8_branch_24 rfl rfl ?_
    refine z_callv (N := MX8_refusalToGrow) (ci := 8) (nas := 1) (as := [_]) dX8_branch_25 w_597 w_594 w_596 ws_12 w_1 (by decide +kernel) rfl rfl rfl (by decide) (Nat.le_of_ble_eq_true rfl) (by decide) (by decide) (ZC.mono (FA_ref hW (s := 6 + x) hfa) ?_)
    rintro _ _ ⟨K25, J25, P25, R25, n25, s25, rfl, rfl, hW25, hE25, hf25, hP25⟩
    have hgb25 := grow_bd (A 44 (6 + x).toNat) (eE A (6 + x))
    refine z_istore dX8_branch_28 (by decide) rfl ?_
    refine z_iload dX8_branch_30 rfl ?_
    refine c_if_eq (tgt := 38) dX8_branch_32 (by decide) (by omega) (fun h32 => ?_) (fun h32 => ?_)
    · refine z_aload_n dX8_branch_38 rfl rfl ?_
      refine z_getR (ci := 8) (kf := 2) dX8_branch_39 rfl (by decide) (by decide) rfl w_184 rfl ?_
      refine c_getI (ci := 7) (kf := 0) dX8_branch_42 rfl (by decide) (by decide) rfl w_32 ?_
      rw [(WD_un hW25).1]
      refine c_bipush dX8_branch_45 (by decide) ?_
      refine c_icmp_lt (tgt := 53) dX8_branch_47 (by decide) (by omega) (by omega) (fun h47 => ?_) (fun h47 => ?_)
      · refine z_aload_n dX8_branch_53 rfl rfl ?_
        refine z_aload_n dX8_branch_54 rfl rfl ?_
        refine z_callv (N := MX8_broodOf) (ci := 8) (nas := 1) (as := [_]) dX8_branch_55 w_601 w_598 w_600 ws_13 w_1 (by decide +kernel) rfl rfl rfl (by decide) (Nat.le_of_ble_eq_true rfl) (by decide) (by decide) (ZC.mono (FA_brood (s := 6 + x) hW25 hf25 (by omega)) ?_)
        rintro _ _ ⟨rfl, K55, J55, P55, R55, n55, s55, rfl, hW55, hE55, hf55, hp55, hs55, hP55⟩
        refine z_iload_n dX8_branch_58 rfl rfl ?_
        refine z_aload_n dX8_branch_59 rfl rfl ?_
        refine z_getR (ci := 8) (kf := 6) dX8_branch_60 rfl (by decide) (by decide) rfl w_188 rfl ?_
        refine z_callv (N := MX0_shape) (ci := 0) (nas := 2) (as := [_, _]) dX8_branch_63 w_636 w_633 w_634 w_635 w_7 (by decide +kernel) rfl rfl rfl (by decide) (Nat.le_of_ble_eq_true rfl) (by decide) (by decide) (ZC.mono (FA_shape (s := 6 + x) hk hW55 hp55 hf55 (by omega)) ?_)
        rintro _ _ ⟨J63, b63, rfl, rfl, hb63⟩
        refine c_if_ne (tgt := 72) dX8_branch_66 (by decide) (by omega) (fun h66 => ?_) (fun h66 => ?_)
        · obtain ⟨hb1, hkk, rfl⟩ := hb63.resolve_right (fun z => h66 z.1)
          have hg3 := grow_0 (show grow (A 44 (6 + x).toNat) (eE A (6 + x)) = 0 by omega) hF.1 hF.2.1
          have hko := kid_ok hF.1 hg3.2 hF.2 hkk
          have h4 := hko.1
          refine z_aload_n dX8_branch_72 rfl rfl ?_
          refine z_getR (ci := 8) (kf := 6) dX8_branch_73 rfl (by decide) (by decide) rfl w_188 rfl ?_
          refine z_callv (N := MX1_isLawful) (ci := 1) (nas := 0) (as := []) dX8_branch_76 w_238 w_235 w_236 w_237 w_4 (by decide +kernel) rfl rfl rfl (by decide) (Nat.le_of_ble_eq_true rfl) (by decide) (by decide) (ZC.mono (cMX1_isLawful (by omega) (entS_rng hko.2.1.1) hko.2.2.1) ?_)
          rintro _ _ ⟨Ja76, Pa76, b76, rfl, rfl, hb76, hlw76, hJa76, hPa76⟩
          refine c_if_ne (tgt := 85) dX8_branch_79 (by decide) (by omega) (fun h79 => ?_) (fun h79 => ?_)
          · have g76 := (hb76.resolve_right (fun z => by have := z.1; omega)).2
            clear hb76
            clear h66
            have h66 := hW55.1
            have hlw := hlw76 g76
            refine z_aload_n dX8_branch_85 rfl rfl ?_
            refine z_getR (ci := 8) (kf := 2) dX8_branch_86 rfl (by decide) (by decide) rfl w_184 rfl ?_
            refine c_new (ci := 3) dX8_branch_89 (by decide) w_22 w_262 w_10 ?_
            rw [KF_kp h66, RF_upA h66]
            refine z_dup dX8_branch_92 rfl ?_
            refine z_aload_n dX8_branch_93 rfl rfl ?_
            refine z_getR (ci := 8) (kf := 6) dX8_branch_94 rfl (by decide) (by decide) rfl w_188 rfl ?_
            refine z_calli (N := MX3_init) (nas := 1) (as := [_]) dX8_branch_97 rfl rfl w_265 w_263 w_264 w_10 (by decide +kernel) rfl rfl (Nat.le_of_ble_eq_true rfl) (by decide) (by decide) (ZC.mono (cMX3_init (r := n55) (by rw [KF_dyn h66]; rw [zkp_eq]) (by omega)) ?_)
            rintro _ _ ⟨rfl, Jf97, rfl, f097, f297, f397, fe97, fo97⟩
            have hbase : ∀ a, a ≠ n55 → a ≠ n55 + 1 → Jf97 a = dput Ja76 ((A 44 (6 + x).toNat) + 1) (kidE (A 44 (6 + x).toNat) (eE A (6 + x)) k) a := fun a a1 a2 => by
              rw [fo97 a a1 a2]; show (if a = n55 then _ else _) = _; rw [if_neg a1]
            have hWa : WD A c K55 (dput Ja76 ((A 44 (6 + x).toNat) + 1) (kidE (A 44 (6 + x).toNat) (eE A (6 + x)) k)) R55 n55 s55 := WD_dput (WD_scr hW55 (fun a ha => hJa76 a (ks_ne ha (by decide)) (ks_ne ha (by decide))))
            have n26 : ¬ 26 = n55 := by omega
            have n27 : ¬ 27 = n55 := by omega
            have hN := WD_newF (Kd' := (zkp (zkp K55 n55 (13, 0)) (n55 + 1) (1, 16))) (J' := Jf97) (Rd' := (zup (zupA R55 n55 (fun _ => none)) n55 1 (some (n55 + 1)))) (nl := (A 44 (6 + x).toNat) + 1) (E := (kidE (A 44 (6 + x).toNat) (eE A (6 + x)) k)) hWa (by omega) hko rfl hbase
              (by rw [f097]; simp [zupA, n26, dput]) (by rw [f297]; simp [zupA, n26, dput]; exact hlw.1) (by rw [f397]; simp [zupA, n26, dput]; exact hlw.2) (fun k hk => by rw [fe97]; simp [zupA, n27, dput, hk])
              (fun a ha => by rw [zup_ne ha]; simp [zupA, ha]) (by rw [zz]) (by simp [zup, zupA]) (by simp [zup, zupA])
            have hnd : Jf97 7 0 = (A 42 2) := (WD_un hN.1).1
            have hKn : (KF (zkp (zkp K55 n55 (13, 0)) (n55 + 1) (1, 16)) n55).1 = 13 := FA_K1 hN.2.1
            refine z_iload_n dX8_branch_100 rfl rfl ?_
            refine z_iload_n dX8_branch_101 rfl rfl ?_
            refine z_callv (N := MX7_add) (ci := 7) (nas := 3) (as := [_, _, _]) dX8_branch_102 w_661 w_658 w_659 w_660 w_2 (by decide +kernel) rfl rfl rfl (by decide) (Nat.le_of_ble_eq_true rfl) (by decide) (by decide) (ZC.mono (cMX7_add (r := n55) (nd := (A 42 2)) hKn hnd (by omega)) ?_)
            rintro _ _ ⟨rfl, rfl⟩
            refine c_ireturn dX8_branch_105 rfl ?_
            subst hQ0; unfold aBranch; rw [cif_pos (by omega), cif_pos (by omega), cif_neg (by omega), cif_pos hkk]
            have hok := OK_add (A := A) (x := x) (k := k) (m := (A 42 2)) (nl := (A 44 (6 + x).toNat) + 1) (E := (kidE (A 44 (6 + x).toNat) (eE A (6 + x)) k)) hW.2.2.2.1 hx hk ⟨by omega, hko⟩ (by omega) (by omega) ⟨fun z => by omega, fun _ => by omega⟩
            have e43 : (jbranch A x k ((A 44 (6 + x).toNat) + 1) (kidE (A 44 (6 + x).toNat) (eE A (6 + x)) k)) 43 = jput A (6 + (A 42 2)).toNat ((A 44 (6 + x).toNat) + 1) (kidE (A 44 (6 + x).toNat) (eE A (6 + x)) k) 43 := by unfold jbranch; rw [zup_ne (by decide), zup_ne (by decide), zup_ne (by decide)]
            have e44 : (jbranch A x k ((A 44 (6 + x).toNat) + 1) (kidE (A 44 (6 + x).toNat) (eE A (6 + x)) k)) 44 = jput A (6 + (A 42 2)).toNat ((A 44 (6 + x).toNat) + 1) (kidE (A 44 (6 + x).toNat) (eE A (6 + x)) k) 44 := by unfold jbranch; rw [zup_ne (by decide), zup_ne (by decide), zup_ne (by decide)]
            have e42 : (jbranch A x k ((A 44 (6 + x).toNat) + 1) (kidE (A 44 (6 + x).toNat) (eE A (6 + x)) k)) 42 2 = (A 42 2) + 1 := by unfold jbranch; rw [zz]
            have e45 : (jbranch A x k ((A 44 (6 + x).toNat) + 1) (kidE (A 44 (6 + x).toNat) (eE A (6 + x)) k)) 45 = upx (A 45) (A 42 2).toNat x := by unfold jbranch; rw [zup_ne (by decide), zup_ne (by decide), zup_row, jput_off (by decide) (by decide)]
            have e46 : (jbranch A x k ((A 44 (6 + x).toNat) + 1) (kidE (A 44 (6 + x).toNat) (eE A (6 + x)) k)) 46 = upx (A 46) (A 42 2).toNat k := by unfold jbranch; rw [zup_ne (by decide), zup_row, zup_ne (by decide), jput_off (by decide) (by decide)]
            have hri := hN.1.2.2.1
            have hT := WD_tree (A' := (jbranch A x k ((A 44 (6 + x).toNat) + 1) (kidE (A 44 (6 + x).toNat) (eE A (6 + x)) k))) (J' := zup (zup (zup Jf97 9 (A 42 2).toNat x) 10 (A 42 2).toNat k) 7 0 ((A 42 2) + 1)) (Rd' := zup (zup (zupA R55 n55 (fun _ => none)) n55 1 (some (n55 + 1))) 8 (A 42 2).toNat (some n55)) hN.1
              (fun a a1 a2 a3 a4 a5 => by unfold jbranch; rw [zup_ne a1, zup_ne a5, zup_ne a4, jput_off a2 a3])
              (fun q hq => by unfold jbranch; rw [zzi hq, zzr (by decide), zzr (by decide), jput_off (by decide) (by decide)])
              (fun q hq => by rw [e44, jput_let_ne (by omega)])
              (fun q hq => by rw [e43, jput_43 (by omega)])
              (fun a a1 a2 a3 a4 => by rw [zup_ne a1, zup_ne a3, zup_ne a2])
              (fun a ha => by rw [zup_ne ha])
              ⟨by rw [e42, zz], fun q hq => by
                rw [e42] at hq
                rw [e45, e46, zup_ne (show (9 : Nat) ≠ 7 by decide), zup_ne (show (9 : Nat) ≠ 10 by decide), zup_row, zup_ne (show (10 : Nat) ≠ 7 by decide), zup_row, zup_ne (show (10 : Nat) ≠ 9 by decide)]
                by_cases e : q = (A 42 2).toNat
                · have e6 : 6 + q = (6 + (A 42 2)).toNat := by omega
                  rw [e6, e, zz, upx_eq, upx_eq, upx_eq, upx_eq]
                  refine ⟨Or.inr ⟨n55, rfl, hN.2.1, ?_, fun i hi => ?_⟩, rfl, rfl⟩
                  · rw [e44, jput_let, f097]; simp [zupA, n26, dput]
                  · rw [e43, jput_in hi, hN.2.2, fe97]; simp [zupA, n27, dput, hi]
                · have h3 := hri.2.2.1.2 q (by omega)
                  rw [zzi e, upx_ne e, upx_ne e, upx_ne e, upx_ne e]
                  refine ⟨?_, h3.2⟩
                  have pj := PL_jput_ne (p := (6 + (A 42 2)).toNat) (nl := (A 44 (6 + x).toNat) + 1) (E := (kidE (A 44 (6 + x).toNat) (eE A (6 + x)) k)) (by omega) h3.1
                  unfold PL FA at pj ⊢
                  rw [e43, e44]; exact pj⟩
              (fun q hq => by
                by_cases e : q = (A 42 2).toNat
                · rw [e, zz]; exact Or.inr ⟨n55, rfl, hN.2.1⟩
                · rw [zzi e]; exact (hri.2.2.2.2.1 q hq).1) hok
            exact ⟨rfl, _, _, _, _, _, _, rfl, hT, fun a a1 a2 => by rw [zup_ne (by omega), zup_ne (by omega), zup_ne (by omega), hbase a (by omega) (by omega), dput_off (by omega) (by omega), hJa76 a (by omega) (by omega)]; exact cs_Ev (Ev_trans hE25 hE55) a a1 a2, fun a a1 a2 => by show (if a = n55 then _ else _) = _; rw [if_neg (by omega), hPa76 a (by omega), hP55 a (by omega) a2]; exact hP25 a (by omega) a2⟩
          · have g76 := (hb76.resolve_left (fun z => by have := z.1; omega)).2
            clear hb76
            refine c_bipush dX8_branch_82 (by decide) ?_
            refine c_ireturn dX8_branch_84 rfl ?_
            exact absurd hko.2.1 g76
        · refine c_bipush dX8_branch_69 (by decide) ?_
          refine c_ireturn dX8_branch_71 rfl ?_
          subst hQ0; unfold aBranch
          obtain ⟨_, hkk, rfl⟩ := hb63.resolve_left (fun z => by have := z.1; omega)
          rw [cif_pos (by omega), cif_pos (by omega), cif_neg (by omega), cif_neg hkk]; exact ⟨rfl, _, _, _, _, _, _, rfl, WD_mono hW55, cs_Ev (Ev_trans hE25 hE55), fun a a1 a2 => (hP55 a (by omega) a2).trans (hP25 a (by omega) a2)⟩
      · refine c_bipush dX8_branch_50 (by decide) ?_
        refine c_ireturn dX8_branch_52 rfl ?_
        subst hQ0; unfold aBranch; rw [cif_pos (by omega), cif_pos (by omega), cif_pos (by omega)]; exact ⟨rfl, _, _, _, _, _, _, rfl, WD_mono hW25, cs_Ev hE25, fun a a1 a2 => hP25 a (by omega) a2⟩
    · refine z_iload dX8_branch_35 rfl ?_
      refine c_ireturn dX8_branch_37 rfl ?_
      subst hQ0; unfold aBranch; rw [cif_pos (by omega), cif_neg (by omega)]; exact ⟨rfl, _, _, _, _, _, _, rfl, WD_mono hW25, cs_Ev hE25, fun a a1 a2 => hP25 a (by omega) a2⟩
  · have g5 := (hb5.resolve_left (fun z => by have := z.1; omega)).2
    clear hb5
    refine c_iconst dX8_branch_11 ?_
    refine c_ireturn dX8_branch_12 rfl ?_
    subst hQ0; unfold aBranch; rw [cif_neg (by omega)]; exact PW_id hW
set_option maxHeartbeats 4000000 in
set_option maxRecDepth 100000 in
theorem cMX8_next {s k w : Int} (hs : rI s) (hk : rI k) (hw : rI w) (hO : ORUL g) (hW : WD A c Kd J Rd n s0) : ZC g l MX8_next [.ref 4, .int (iZ s), .int (iZ k), .int (iZ w)] (KF Kd, zi J, zj P, RF Rd, n, s0) (PW A (c + 1) J P (.int (iZ (aNext A s k w)))) := by
  refine ZC.of (by decide) (Nat.le_of_ble_eq_true rfl) ?_
  generalize hQ0 : (PW A (c + 1) J P (.int (iZ (aNext A s k w))) : Option Value → ZH → Prop) = Q0
  show Z g l MX8_next 0 [some (.ref 4), some (.int (iZ s)), some (.int (iZ k)), some (.int (iZ w)), none, none, none, none, none, none, none, none] [] (KF Kd, zi J, zj P, RF Rd, n, s0) Q0
  have hkl := fun nl E => kids_len nl E
  refine z_aload_n dX8_next_0 rfl rfl ?_
  refine z_iload_n dX8_next_1 rfl rfl ?_
  refine z_callv (N := MX8_held) (ci := 8) (nas := 1) (as := [_]) dX8_next_2 w_333 w_330 w_332 ws_2 w_1 (by decide +kernel) rfl rfl rfl (by decide) (Nat.le_of_ble_eq_true rfl) (by decide) (by decide) (ZC.mono (cMX8_held (by omega) hW) ?_)
  rintro _ _ ⟨rfl, hd2⟩
  rcases hd2 with ⟨hf2, rfl⟩ | ⟨hf2, r2, rfl, hr2⟩
  · skip
    refine z_astoreN dX8_next_5 (by decide) rfl ?_
    refine z_aloadN dX8_next_7 rfl ?_
    refine z_ifnullN (tgt := 25) dX8_next_9 (by decide) ?_
    refine c_iconst dX8_next_25 ?_
    refine c_ireturn dX8_next_26 rfl ?_
    subst hQ0; unfold aNext; rw [cif_neg (by omega)]; exact PW_id hW
  · have hK2 := FA_K1 hr2.1
    have hE2 := WD_ent hW hr2.1
    have hF2 := FA_okF hW hr2
    have hl2 := hF2.2.1
    refine z_astore dX8_next_5 (by decide) rfl ?_
    refine z_aload dX8_next_7 rfl ?_
    refine z_ifnull dX8_next_9 ?_
    refine z_iload_n dX8_next_12 rfl rfl ?_
    refine c_if_lt (tgt := 25) dX8_next_13 (by decide) (by omega) (fun h13 => ?_) (fun h13 => ?_)
    · refine c_iconst dX8_next_25 ?_
      refine c_ireturn dX8_next_26 rfl ?_
      subst hQ0; unfold aNext; rw [cif_neg (by omega)]; exact PW_id hW
    · refine z_iload_n dX8_next_16 rfl rfl ?_
      refine c_if_lt (tgt := 25) dX8_next_17 (by decide) (by omega) (fun h17 => ?_) (fun h17 => ?_)
      · refine c_iconst dX8_next_25 ?_
        refine c_ireturn dX8_next_26 rfl ?_
        subst hQ0; unfold aNext; rw [cif_neg (by omega)]; exact PW_id hW
      · refine z_iload_n dX8_next_20 rfl rfl ?_
        refine c_iconst dX8_next_21 ?_
        refine c_icmp_le (tgt := 27) dX8_next_22 (by decide) (by omega) (by omega) (fun h22 => ?_) (fun h22 => ?_)
        · refine z_aload_n dX8_next_27 rfl rfl ?_
          refine z_aload dX8_next_28 rfl ?_
          refine z_callv (N := MX8_refusalToGrow) (ci := 8) (nas := 1) (as := [_]) dX8_next_30 w_597 w_594 w_596 ws_12 w_1 (by decide +kernel) rfl rfl rfl (by decide) (Nat.le_of_ble_eq_true rfl) (by decide) (by decide) (ZC.mono (FA_ref hW hr2) ?_)
          rintro _ _ ⟨K30, J30, P30, R30, n30, s30, rfl, rfl, hW30, hE30, hf30, hP30⟩
          have hgb30 := grow_bd (A 44 s.toNat) (eE A s)
          refine z_istore dX8_next_33 (by decide) rfl ?_
          refine z_iload dX8_next_35 rfl ?_
          refine c_if_eq (tgt := 43) dX8_next_37 (by decide) (by omega) (fun h37 => ?_) (fun h37 => ?_)
          · refine c_iconst dX8_next_43 ?_
            refine c_bipush dX8_next_44 (by decide) ?_
            refine z_aload_n dX8_next_46 rfl rfl ?_
            refine z_aload dX8_next_47 rfl ?_
            refine z_callv (N := MX8_broodOf) (ci := 8) (nas := 1) (as := [_]) dX8_next_49 w_601 w_598 w_600 ws_13 w_1 (by decide +kernel) rfl rfl rfl (by decide) (Nat.le_of_ble_eq_true rfl) (by decide) (by decide) (ZC.mono (FA_brood hW30 hf30 (by omega)) ?_)
            rintro _ _ ⟨rfl, K49, J49, P49, R49, n49, s49, rfl, hW49, hE49, hf49, hp49, hs49, hP49⟩
            refine c_getI (ci := 0) (kf := 1) dX8_next_52 rfl (by decide) (by decide) rfl w_170 ?_
            rw [hs49]
            have hkl := kids_len (A 44 s.toNat) (eE A s)
            have hg0 : grow (A 44 s.toNat) (eE A s) = 0 := by omega
            have hg3 := grow_0 hg0 hF2.1 hF2.2.1
            have hln : (nxL (A 44 s.toNat) (eE A s) k).length = (max 0 (min 64 (((kids (A 44 s.toNat) (eE A s)).length : Int) - k))).toNat := by unfold nxL; rw [List.length_take, List.length_drop]; omega
            refine z_iload_n dX8_next_55 rfl rfl ?_
            refine c_isub dX8_next_56 ?_
            refine z_calls (N := MJ9_min_7cf53) (nas := 2) (as := [_, _]) dX8_next_57 w_612 w_641 w_611 w_12 (by decide +kernel) rfl rfl (Nat.le_of_ble_eq_true rfl) (by decide) (by decide) (ZC.mono (cMJ9_min_7cf53 (by omega) (by omega)) ?_)
            rintro _ _ ⟨rfl, rfl⟩
            refine z_calls (N := MJ9_max_7cf53) (nas := 2) (as := [_, _]) dX8_next_60 w_376 w_642 w_375 w_12 (by decide +kernel) rfl rfl (Nat.le_of_ble_eq_true rfl) (by decide) (by decide) (ZC.mono (cMJ9_max_7cf53 (by omega) (by omega)) ?_)
            rintro _ _ ⟨rfl, rfl⟩
            refine z_istore dX8_next_63 (by decide) rfl ?_
            refine z_iload_n dX8_next_65 rfl rfl ?_
            refine c_if_ne (tgt := 72) dX8_next_66 (by decide) (by omega) (fun h66 => ?_) (fun h66 => ?_)
            · refine c_iconst dX8_next_72 ?_
              refine z_istore dX8_next_73 (by decide) rfl ?_
              refine c_iconst dX8_next_75 ?_
              refine z_istore dX8_next_76 (by decide) rfl ?_
              refine c_bipush dX8_next_78 (by decide) ?_
              refine z_istore dX8_next_80 (by decide) rfl ?_
              refine c_iconst dX8_next_82 ?_
              refine z_istore dX8_next_83 (by decide) rfl ?_
              have L85 : ∀ (m85 : Nat), ∀ (i cl gl fc : Int) (J1 P1 : Nat → Nat → Int), ((max 0 (min 64 (((kids (A 44 s.toNat) (eE A s)).length : Int) - k))) - i).toNat = m85 → (0 ≤ i ∧ i ≤ (max 0 (min 64 (((kids (A 44 s.toNat) (eE A s)).length : Int) - k)))) → ((0 ≤ cl ∧ cl ≤ i) ∧ (0 ≤ gl ∧ gl ≤ 73) ∧ (fc = -2 ∨ (0 ≤ fc ∧ fc ≤ 10000000))) → (nxC (kidL (A 44 s.toNat) (eE A s)) (nxL (A 44 s.toNat) (eE A s) k) = cl + nxC (kidL (A 44 s.toNat) (eE A s)) ((nxL (A 44 s.toNat) (eE A s) k).drop i.toNat)) → (nxG (kidL (A 44 s.toNat) (eE A s)) (nxL (A 44 s.toNat) (eE A s) k) 0 = nxG (kidL (A 44 s.toNat) (eE A s)) ((nxL (A 44 s.toNat) (eE A s) k).drop i.toNat) gl) → (nxF (kidL (A 44 s.toNat) (eE A s)) (nxL (A 44 s.toNat) (eE A s) k) k (-2) = nxF (kidL (A 44 s.toNat) (eE A s)) ((nxL (A 44 s.toNat) (eE A s) k).drop i.toNat) (k + i) fc) → (∀ a, a ≠ 26 → a ≠ 27 → a ≠ 30 → a ≠ 35 → a ≠ 36 → J1 a = J49 a) → (∀ a, 35 ≤ a → a < 66 → P1 a = P49 a) → Z g l MX8_next 85 [some (.ref 4), none, some (.int (iZ k)), some (.int (iZ w)), none, none, some (.int (iZ (max 0 (min 64 (((kids (A 44 s.toNat) (eE A s)).length : Int) - k))))), some (.int (iZ cl)), some (.int (iZ gl)), some (.int (iZ fc)), some (.int (iZ i)), none] [] (KF K49, zi J1, zj P1, RF R49, n49, s49) Q0 := by
                intro m85
                induction m85 using Nat.strongRecOn with
                | ind m85 ih85 =>
                  intro i cl gl fc J1 P1 hm85 hi hb hcl hgl hfc hJ1 hP1
                  have hW1 : WD A c K49 J1 R49 n49 s49 := WD_scr hW49 (fun a ha => hJ1 a (ks_ne ha (by decide)) (ks_ne ha (by decide)) (ks_ne ha (by decide)) (ks_ne ha (by decide)) (ks_ne ha (by decide)))
                  have hf1 : FA A K49 J1 R49 n49 s.toNat r2 := by
                    have ge := WD_ent hW49 hf49.1
                    have g1 := hf49.1.1
                    exact ⟨hf49.1, by rw [hJ1 r2 (by omega) (by omega) (by omega) (by omega) (by omega)]; exact hf49.2.1, fun q hq => by rw [hJ1 _ (by omega) (by omega) (by omega) (by omega) (by omega)]; exact hf49.2.2 q hq⟩
                  refine z_iload dX8_next_85 rfl ?_
                  refine z_iload dX8_next_87 rfl ?_
                  refine c_icmp_ge (tgt := 156) dX8_next_89 (by decide) (by omega) (by omega) (fun h89 => ?_) (fun h89 => ?_)
                  · refine z_iload_n dX8_next_156 rfl rfl ?_
                    refine c_iconst dX8_next_157 ?_
                    refine c_icmp_ne (tgt := 166) dX8_next_158 (by decide) (by omega) (by omega) (fun h158 => ?_) (fun h158 => ?_)
                    · refine z_iload_n dX8_next_166 rfl rfl ?_
                      refine c_iconst dX8_next_167 ?_
                      refine c_icmp_ne (tgt := 176) dX8_next_168 (by decide) (by omega) (by omega) (fun h168 => ?_) (fun h168 => ?_)
                      · refine z_iload dX8_next_176 rfl ?_
                        refine c_ireturn dX8_next_178 rfl ?_
                        subst hQ0; unfold aNext; rw [cif_pos (by omega), if_pos (by omega), if_neg (by omega)]
                        have hnil : (nxL (A 44 s.toNat) (eE A s) k).drop i.toNat = [] := List.drop_eq_nil_of_le (by omega)
                        rw [hnil] at hcl hgl hfc
                        first
                          | (rw [if_pos (by omega), hcl]; exact ⟨by show _ = some (Value.int (iZ (cl + 0))); rw [Int.add_zero], _, _, _, _, _, _, rfl, WD_mono hW1, fun a a1 a2 => by rw [hJ1 a (by omega) (by omega) (by omega) (by omega) (by omega)]; exact cs_Ev (Ev_trans hE30 hE49) a a1 a2, fun a a1 a2 => by rw [hP1 a (by omega) a2, hP49 a (by omega) a2]; exact hP30 a (by omega) a2⟩)
                          | (rw [if_neg (by omega), if_pos (by omega), hgl]; exact ⟨rfl, _, _, _, _, _, _, rfl, WD_mono hW1, fun a a1 a2 => by rw [hJ1 a (by omega) (by omega) (by omega) (by omega) (by omega)]; exact cs_Ev (Ev_trans hE30 hE49) a a1 a2, fun a a1 a2 => by rw [hP1 a (by omega) a2, hP49 a (by omega) a2]; exact hP30 a (by omega) a2⟩)
                          | (rw [if_neg (by omega), if_neg (by omega), hfc]; exact ⟨rfl, _, _, _, _, _, _, rfl, WD_mono hW1, fun a a1 a2 => by rw [hJ1 a (by omega) (by omega) (by omega) (by omega) (by omega)]; exact cs_Ev (Ev_trans hE30 hE49) a a1 a2, fun a a1 a2 => by rw [hP1 a (by omega) a2, hP49 a (by omega) a2]; exact hP30 a (by omega) a2⟩)
                      · refine z_iload dX8_next_171 rfl ?_
                        refine z_goto (tgt := 178) dX8_next_173 (by decide) ?_
                        refine c_ireturn dX8_next_178 rfl ?_
                        subst hQ0; unfold aNext; rw [cif_pos (by omega), if_pos (by omega), if_neg (by omega)]
                        have hnil : (nxL (A 44 s.toNat) (eE A s) k).drop i.toNat = [] := List.drop_eq_nil_of_le (by omega)
                        rw [hnil] at hcl hgl hfc
                        first
                          | (rw [if_pos (by omega), hcl]; exact ⟨by show _ = some (Value.int (iZ (cl + 0))); rw [Int.add_zero], _, _, _, _, _, _, rfl, WD_mono hW1, fun a a1 a2 => by rw [hJ1 a (by omega) (by omega) (by omega) (by omega) (by omega)]; exact cs_Ev (Ev_trans hE30 hE49) a a1 a2, fun a a1 a2 => by rw [hP1 a (by omega) a2, hP49 a (by omega) a2]; exact hP30 a (by omega) a2⟩)
                          | (rw [if_neg (by omega), if_pos (by omega), hgl]; exact ⟨rfl, _, _, _, _, _, _, rfl, WD_mono hW1, fun a a1 a2 => by rw [hJ1 a (by omega) (by omega) (by omega) (by omega) (by omega)]; exact cs_Ev (Ev_trans hE30 hE49) a a1 a2, fun a a1 a2 => by rw [hP1 a (by omega) a2, hP49 a (by omega) a2]; exact hP30 a (by omega) a2⟩)
                          | (rw [if_neg (by omega), if_neg (by omega), hfc]; exact ⟨rfl, _, _, _, _, _, _, rfl, WD_mono hW1, fun a a1 a2 => by rw [hJ1 a (by omega) (by omega) (by omega) (by omega) (by omega)]; exact cs_Ev (Ev_trans hE30 hE49) a a1 a2, fun a a1 a2 => by rw [hP1 a (by omega) a2, hP49 a (by omega) a2]; exact hP30 a (by omega) a2⟩)
                    · refine z_iload dX8_next_161 rfl ?_
                      refine z_goto (tgt := 178) dX8_next_163 (by decide) ?_
                      refine c_ireturn dX8_next_178 rfl ?_
                      subst hQ0; unfold aNext; rw [cif_pos (by omega), if_pos (by omega), if_neg (by omega)]
                      have hnil : (nxL (A 44 s.toNat) (eE A s) k).drop i.toNat = [] := List.drop_eq_nil_of_le (by omega)
                      rw [hnil] at hcl hgl hfc
                      first
                        | (rw [if_pos (by omega), hcl]; exact ⟨by show _ = some (Value.int (iZ (cl + 0))); rw [Int.add_zero], _, _, _, _, _, _, rfl, WD_mono hW1, fun a a1 a2 => by rw [hJ1 a (by omega) (by omega) (by omega) (by omega) (by omega)]; exact cs_Ev (Ev_trans hE30 hE49) a a1 a2, fun a a1 a2 => by rw [hP1 a (by omega) a2, hP49 a (by omega) a2]; exact hP30 a (by omega) a2⟩)
                        | (rw [if_neg (by omega), if_pos (by omega), hgl]; exact ⟨rfl, _, _, _, _, _, _, rfl, WD_mono hW1, fun a a1 a2 => by rw [hJ1 a (by omega) (by omega) (by omega) (by omega) (by omega)]; exact cs_Ev (Ev_trans hE30 hE49) a a1 a2, fun a a1 a2 => by rw [hP1 a (by omega) a2, hP49 a (by omega) a2]; exact hP30 a (by omega) a2⟩)
                        | (rw [if_neg (by omega), if_neg (by omega), hfc]; exact ⟨rfl, _, _, _, _, _, _, rfl, WD_mono hW1, fun a a1 a2 => by rw [hJ1 a (by omega) (by omega) (by omega) (by omega) (by omega)]; exact cs_Ev (Ev_trans hE30 hE49) a a1 a2, fun a a1 a2 => by rw [hP1 a (by omega) a2, hP49 a (by omega) a2]; exact hP30 a (by omega) a2⟩)
                  · refine z_aload_n dX8_next_92 rfl rfl ?_
                    refine z_getR (ci := 8) (kf := 9) dX8_next_93 rfl (by decide) (by decide) rfl w_191 rfl ?_
                    refine z_iload_n dX8_next_96 rfl rfl ?_
                    refine z_iload dX8_next_97 rfl ?_
                    refine c_iadd dX8_next_99 ?_
                    refine z_aload_n dX8_next_100 rfl rfl ?_
                    refine z_getR (ci := 8) (kf := 6) dX8_next_101 rfl (by decide) (by decide) rfl w_188 rfl ?_
                    refine z_callv (N := MX0_shape) (ci := 0) (nas := 2) (as := [_, _]) dX8_next_104 w_636 w_633 w_634 w_635 w_7 (by decide +kernel) rfl rfl rfl (by decide) (Nat.le_of_ble_eq_true rfl) (by decide) (by decide) (ZC.mono (FA_shape (s := s) (k := k + i) (by omega) hW1 hp49 hf1 (by omega)) ?_)
                    rintro _ _ ⟨J104, b104, rfl, rfl, hb104⟩
                    refine c_if_eq (tgt := 117) dX8_next_107 (by decide) (by omega) (fun h107 => ?_) (fun h107 => ?_)
                    · exact absurd (show 0 ≤ k + i ∧ k + i < ((kids (A 44 s.toNat) (eE A s)).length : Int) by omega) (hb104.resolve_left (fun z => by have := z.1; omega)).2.1 --done
                    · obtain ⟨hb1, hkk, rfl⟩ := hb104.resolve_right (fun z => h107 z.1)
                      have hko := kid_ok hF2.1 hg3.2 hF2.2 hkk
                      obtain ⟨X, hX⟩ : ∃ X, (kids (A 44 s.toNat) (eE A s))[(k + i).toNat]? = some X := ⟨_, List.getElem?_eq_getElem (by omega)⟩
                      have hNX : (nxL (A 44 s.toNat) (eE A s) k)[i.toNat]? = some X := by
                        unfold nxL
                        rw [List.getElem?_take_of_lt (by omega), List.getElem?_drop, show k.toNat + i.toNat = (k + i).toNat by omega]; exact hX
                      have hdr : (nxL (A 44 s.toNat) (eE A s) k).drop i.toNat = X :: (nxL (A 44 s.toNat) (eE A s) k).drop (i + 1).toNat := by
                        have hlt : i.toNat < (nxL (A 44 s.toNat) (eE A s) k).length := by omega
                        rw [List.drop_eq_getElem_cons hlt, show (i + 1).toNat = i.toNat + 1 by omega]
                        congr 1
                        rw [List.getElem?_eq_getElem hlt] at hNX
                        exact Option.some.inj hNX
                      refine z_aload_n dX8_next_110 rfl rfl ?_
                      refine z_callv (N := MX8_greatestLackOfDraft) (ci := 8) (nas := 0) (as := []) dX8_next_111 w_646 w_643 w_645 ws_15 w_1 (by decide +kernel) rfl rfl rfl (by decide) (Nat.le_of_ble_eq_true rfl) (by decide) (by decide) (ZC.mono (cMX8_greatestLackOfDraft (nl := A 44 s.toNat + 1) (E := kidE (A 44 s.toNat) (eE A s) (k + i)) (by omega) hko hO dput_let (fun q hq => dput_in hq)) ?_)
                      rintro _ _ ⟨rfl, J111, P111, rfl, hoJ111, hoP111⟩
                      rw [← kidE_L hX]
                      have hfb : 0 ≤ (kidL (A 44 s.toNat) (eE A s)) X ∧ (kidL (A 44 s.toNat) (eE A s)) X ≤ 73 := by rw [kidE_L hX]; exact glD_bd _ 9 (by omega)
                      have hmx : (if gl < (kidL (A 44 s.toNat) (eE A s)) X then (kidL (A 44 s.toNat) (eE A s)) X else gl) = max gl ((kidL (A 44 s.toNat) (eE A s)) X) := by split <;> omega
                      refine z_goto (tgt := 118) dX8_next_114 (by decide) ?_
                      refine z_istore dX8_next_118 (by decide) rfl ?_
                      refine z_iload dX8_next_120 rfl ?_
                      refine z_iload dX8_next_122 rfl ?_
                      refine z_calls (N := MJ9_max_7cf53) (nas := 2) (as := [_, _]) dX8_next_124 w_376 w_642 w_375 w_12 (by decide +kernel) rfl rfl (Nat.le_of_ble_eq_true rfl) (by decide) (by decide) (ZC.mono (cMJ9_max_7cf53 (by omega) (by omega)) ?_)
                      rintro _ _ ⟨rfl, rfl⟩
                      refine z_istore dX8_next_127 (by decide) rfl ?_
                      refine z_iload dX8_next_129 rfl ?_
                      refine c_if_ne (tgt := 150) dX8_next_131 (by decide) (by omega) (fun h131 => ?_) (fun h131 => ?_)
                      · refine c_iinc dX8_next_150 rfl (by decide) rfl ?_
                        refine z_goto (tgt := 85) dX8_next_153 (by decide) ?_
                        exact Z.fg2 (ih85 _ (by omega) _ _ _ _ _ _ rfl (by omega) (by omega) (by have q := hcl; rw [hdr, nxC] at q; first | (rw [if_pos (by omega)] at q; omega) | (rw [if_neg (by omega)] at q; omega)) (by rw [hgl, hdr, nxG, hmx]) (by rw [hfc, hdr, nxF, show k + i + 1 = k + (i + 1) by omega]; first | rw [if_pos (by omega)] | rw [if_neg (by omega)]) (fun a a1 a2 a3 a4 a5 => by rw [hoJ111 a a3 a4 a5, dput_off a1 a2]; exact hJ1 a a1 a2 a3 a4 a5) (fun a a1 a2 => by rw [hoP111 a (by omega) (by omega) (by omega) (by omega)]; exact hP1 a a1 a2)) (zs1 rfl (zsn (zs1 rfl (zs1 rfl (zsn (zsn (zs1 rfl (zs1 rfl (zs1 rfl (zs1 rfl (zs1 rfl (zsn zs0))))))))))))
                      · refine c_iinc dX8_next_134 rfl (by decide) rfl ?_
                        refine z_iload dX8_next_137 rfl ?_
                        refine c_bipush dX8_next_139 (by decide) ?_
                        refine c_icmp_ne (tgt := 150) dX8_next_141 (by decide) (by omega) (by omega) (fun h141 => ?_) (fun h141 => ?_)
                        · refine c_iinc dX8_next_150 rfl (by decide) rfl ?_
                          refine z_goto (tgt := 85) dX8_next_153 (by decide) ?_
                          exact Z.fg2 (ih85 _ (by omega) _ _ _ _ _ _ rfl (by omega) (by omega) (by have q := hcl; rw [hdr, nxC] at q; first | (rw [if_pos (by omega)] at q; omega) | (rw [if_neg (by omega)] at q; omega)) (by rw [hgl, hdr, nxG, hmx]) (by rw [hfc, hdr, nxF, show k + i + 1 = k + (i + 1) by omega]; first | rw [if_pos (by omega)] | rw [if_neg (by omega)]) (fun a a1 a2 a3 a4 a5 => by rw [hoJ111 a a3 a4 a5, dput_off a1 a2]; exact hJ1 a a1 a2 a3 a4 a5) (fun a a1 a2 => by rw [hoP111 a (by omega) (by omega) (by omega) (by omega)]; exact hP1 a a1 a2)) (zs1 rfl (zsn (zs1 rfl (zs1 rfl (zsn (zsn (zs1 rfl (zs1 rfl (zs1 rfl (zs1 rfl (zs1 rfl (zsn zs0))))))))))))
                        · refine z_iload_n dX8_next_144 rfl rfl ?_
                          refine z_iload dX8_next_145 rfl ?_
                          refine c_iadd dX8_next_147 ?_
                          refine z_istore dX8_next_148 (by decide) rfl ?_
                          refine c_iinc dX8_next_150 rfl (by decide) rfl ?_
                          refine z_goto (tgt := 85) dX8_next_153 (by decide) ?_
                          exact Z.fg2 (ih85 _ (by omega) _ _ _ _ _ _ rfl (by omega) (by omega) (by have q := hcl; rw [hdr, nxC] at q; first | (rw [if_pos (by omega)] at q; omega) | (rw [if_neg (by omega)] at q; omega)) (by rw [hgl, hdr, nxG, hmx]) (by rw [hfc, hdr, nxF, show k + i + 1 = k + (i + 1) by omega]; first | rw [if_pos (by omega)] | rw [if_neg (by omega)]) (fun a a1 a2 a3 a4 a5 => by rw [hoJ111 a a3 a4 a5, dput_off a1 a2]; exact hJ1 a a1 a2 a3 a4 a5) (fun a a1 a2 => by rw [hoP111 a (by omega) (by omega) (by omega) (by omega)]; exact hP1 a a1 a2)) (zs1 rfl (zsn (zs1 rfl (zs1 rfl (zsn (zsn (zs1 rfl (zs1 rfl (zs1 rfl (zs1 rfl (zs1 rfl (zsn zs0))))))))))))
              exact Z.fg2 (L85 _ 0 0 0 (-2) _ _ rfl (by omega) (by omega) (by rw [Int.zero_add]; rfl) rfl (by rw [Int.add_zero]; rfl) (fun _ _ _ _ _ _ => rfl) (fun _ _ _ => rfl)) (zs1 rfl (zsn (zs1 rfl (zs1 rfl (zsn (zsn (zs1 rfl (zs1 rfl (zs1 rfl (zs1 rfl (zs1 rfl (zsn zs0))))))))))))
            · refine z_iload dX8_next_69 rfl ?_
              refine c_ireturn dX8_next_71 rfl ?_
              subst hQ0; unfold aNext; rw [cif_pos (by omega), if_pos (by omega), if_pos (by omega), hln, Int.toNat_of_nonneg (by omega)]; exact ⟨rfl, _, _, _, _, _, _, rfl, WD_mono hW49, cs_Ev (Ev_trans hE30 hE49), fun a a1 a2 => (hP49 a (by omega) a2).trans (hP30 a (by omega) a2)⟩
          · refine z_iload dX8_next_40 rfl ?_
            refine c_ireturn dX8_next_42 rfl ?_
            subst hQ0; unfold aNext; rw [cif_pos (by omega), if_neg (by omega)]; exact ⟨rfl, _, _, _, _, _, _, rfl, WD_mono hW30, cs_Ev hE30, fun a a1 a2 => hP30 a (by omega) a2⟩
        · refine c_iconst dX8_next_25 ?_
          refine c_ireturn dX8_next_26 rfl ?_
          subst hQ0; unfold aNext; rw [cif_neg (by omega)]; exact PW_id hW
end Cls29
