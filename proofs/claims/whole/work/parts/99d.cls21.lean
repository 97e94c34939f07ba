section Cls21
variable {g : ZG} {l : Launch} {Kd : ZK} {Rd : ZR} {n s0 c : Nat} {A J P : Nat → Nat → Int}
theorem vecF_bd {nl : Int} {E : Nat → Int} (h : boxP nl E 4 ≤ 1000000) {v : V4} (hv : v ∈ vecF nl E) : ∀ j : Int, rI (vAt v j) := by
  have r0 := reach_half h 0 (by omega)
  have r1 := reach_half h 1 (by omega)
  have r2 := reach_half h 2 (by omega)
  have r3 := reach_half h 3 (by omega)
  unfold vecF vec0 at hv
  obtain ⟨t0, h0, hv⟩ := List.mem_flatMap.mp hv
  unfold vec1 at hv
  obtain ⟨t1, h1, hv⟩ := List.mem_flatMap.mp hv
  unfold vec2 at hv
  obtain ⟨t2, h2, hv⟩ := List.mem_flatMap.mp hv
  unfold vec3 at hv
  obtain ⟨t3, h3, hv⟩ := List.mem_map.mp hv
  have b0 := dnF_mem h0
  have b1 := dnF_mem h1
  have b2 := dnF_mem h2
  have b3 := dnF_mem h3
  unfold rN at b0
  subst hv
  intro j
  unfold vAt rI
  split
  · show _ ≤ t0 ∧ t0 ≤ _; omega
  · split
    · show _ ≤ t1 ∧ t1 ≤ _; omega
    · split
      · show _ ≤ t2 ∧ t2 ≤ _; omega
      · show _ ≤ t3 ∧ t3 ≤ _; omega
theorem fF_rI {nl : Int} {E : Nat → Int} (h : boxP nl E 4 ≤ 1000000) (m : Nat) (j : Int) : rI (vAt (fF nl E m) j) := by
  unfold fF fstL
  cases e : (vecF nl E).find? (fun x => decide (wv E x = (m : Int))) with
  | none => show rI (vAt (0, 0, 0, 0) j); unfold vAt rI; split <;> (try split) <;> (try split) <;> decide
  | some v => exact vecF_bd h (List.mem_of_find?_eq_some e) j
/-- numbers in a sheet's row -/
def rwJ (J : Nat → Nat → Int) (b f : Nat) (V : Nat → Int) (m : Nat) : Nat → Nat → Int := fun a q => if a = b ∧ f ≤ q ∧ q < f + m then V (q - f) else J a q
theorem rwJ_off {b f m a : Nat} {V : Nat → Int} (h : a ≠ b) : rwJ J b f V m a = J a := by funext q; unfold rwJ; rw [if_neg (fun z => h z.1)]
theorem rwJ_0 {b f : Nat} {V : Nat → Int} : rwJ J b f V 0 = J := by funext a q; unfold rwJ; rw [if_neg (by omega)]
theorem rwJ_step {b f m : Nat} {V : Nat → Int} : zup (rwJ J b f V m) b (f + m) (V m) = rwJ J b f V (m + 1) := by
  funext a q
  by_cases ha : a = b
  · subst ha
    by_cases hq : q = f + m
    · subst hq; rw [zz]; unfold rwJ; rw [if_pos ⟨rfl, by omega, by omega⟩, Nat.add_sub_cancel_left]
    · rw [zzi hq]; unfold rwJ; exact ifc (by omega)
  · rw [zzr ha]; unfold rwJ; exact ifc (by omega)
theorem WD_row {t f m : Nat} {V : Nat → Int} (hW : WD A c Kd J Rd n s0) (ht : t < 4) (hf : f + m ≤ 40) (hV : ∀ x, rI (V x)) : WD (jrow A V (40 * t + f) m) c Kd (rwJ J (19 + 2 * t) f V m) Rd n s0 := by
  have ho := hW.2.2.2.1.2.2
  have e65 : ∀ q, jrow A V (40 * t + f) m 65 q = if 40 * t + f ≤ q ∧ q < 40 * t + f + m then V (q - (40 * t + f)) else A 65 q := fun q => by unfold jrow; exact ifc (by omega)
  have eo : ∀ a, a ≠ 65 → jrow A V (40 * t + f) m a = A a := fun a ha => by funext q; unfold jrow; rw [if_neg (fun z => ha z.1)]
  refine WD_sheets hW (fun a a1 a2 a3 => eo a a3) (fun a ha => rwJ_off (by omega)) ?_ ⟨fun q hq => by rw [eo 63 (by decide), eo 64 (by decide)]; exact ho.1 q hq, fun q hq => by rw [e65]; split; exact hV _; exact ho.2 q hq⟩
  have h1 := hW.2.2.1.2.2.2.2.2.2 t ht
  refine SH_of ht hW.2.2.1.2.2.2.2.2.2 (fun q hq => ⟨by rw [eo 63 (by decide)], by rw [eo 64 (by decide)]⟩) (fun q hq => by rw [e65, if_neg (by omega)]) (fun a a1 a2 => rwJ_off a2) ⟨?_, ?_, fun x hx => ?_⟩
  · rw [rwJ_off (by omega), eo 63 (by decide)]; exact h1.1
  · rw [rwJ_off (by omega), eo 64 (by decide)]; exact h1.2.1
  · rw [e65]; unfold rwJ
    by_cases e : f ≤ x ∧ x < f + m
    · rw [if_pos ⟨rfl, e⟩, if_pos (by omega)]; congr 1; omega
    · rw [if_neg (by omega), if_neg (by omega)]; exact h1.2.2 x hx
theorem ruleA_any (r i : Int) : rI (ruleA r i) := by
  unfold ruleA
  have e : ∀ k : Nat, rI (ruleT.getD k 0) := fun k => by
    by_cases hk : k < 33
    · have : ∀ k, k < 33 → rI (ruleT.getD k 0) := by unfold rI; decide +kernel
      exact this k hk
    · rw [List.getD_eq_getElem?_getD, List.getElem?_eq_none (by show 33 ≤ k; omega)]; show rI 0; unfold rI; decide
  exact e _
theorem certV_rI {nl r so : Int} {E : Nat → Int} {w : Nat} (h : boxP nl E 4 ≤ 1000000) (x : Nat) : rI (certV r so (fF nl E) w x) := by
  unfold certV
  refine lowS_rI ?_
  split
  · exact ruleA_any _ _
  · exact fF_rI h _ _
set_option maxHeartbeats 4000000 in
set_option maxRecDepth 100000 in
theorem cMX8_certify {s q sh fr : Int} (hs : rI s) (hq : rI q) (hsh : rI sh) (hfr : rI fr) (hO : ORUL g) (hW : WD A c Kd J Rd n s0) : ZC g l MX8_certify [.ref 4, .int (iZ s), .int (iZ q), .int (iZ sh), .int (iZ fr)] (KF Kd, zi J, zj P, RF Rd, n, s0) (PW (aCertify A s q sh fr).2 (c + 1) J P (.int (iZ (aCertify A s q sh fr).1))) := by
  refine ZC.of (by decide) (Nat.le_of_ble_eq_true rfl) ?_
  generalize hQ0 : (PW (aCertify A s q sh fr).2 (c + 1) J P (.int (iZ (aCertify A s q sh fr).1)) : Option Value → ZH → Prop) = Q0
  show Z g l MX8_certify 0 [some (.ref 4), some (.int (iZ s)), some (.int (iZ q)), some (.int (iZ sh)), some (.int (iZ fr)), none, none, none, none, none, none, none] [] (KF Kd, zi J, zj P, RF Rd, n, s0) Q0
  refine z_aload_n dX8_certify_0 rfl rfl ?_
  refine z_iload_n dX8_certify_1 rfl rfl ?_
  refine z_callv (N := MX8_held) (ci := 8) (nas := 1) (as := [_]) dX8_certify_2 w_333 w_330 w_332 ws_2 w_1 (by decide +kernel) rfl rfl rfl (by decide) (Nat.le_of_ble_eq_true rfl) (by decide) (by decide) (ZC.mono (cMX8_held (by omega) hW) ?_)
  rintro _ _ ⟨rfl, hd2⟩
  rcases hd2 with ⟨hf2, rfl⟩ | ⟨hf2, r2, rfl, hr2⟩
  · skip
    refine z_astoreN dX8_certify_5 (by decide) rfl ?_
    refine z_aloadN dX8_certify_7 rfl ?_
    refine z_ifnullN (tgt := 26) dX8_certify_9 (by decide) ?_
    refine c_iconst dX8_certify_26 ?_
    refine c_ireturn dX8_certify_27 rfl ?_
    subst hQ0; unfold aCertify; rw [cif_neg (by omega)]; exact PW_id hW
  · have hK2 := FA_K1 hr2.1
    have hE2 := WD_ent hW hr2.1
    have hF2 := FA_okF hW hr2
    have hl2 := hF2.2.1
    refine z_astore dX8_certify_5 (by decide) rfl ?_
    refine z_aload dX8_certify_7 rfl ?_
    refine z_ifnull dX8_certify_9 ?_
    refine z_iload_n dX8_certify_12 rfl rfl ?_
    refine z_calls (N := MX8_isRule) (nas := 1) (as := [_]) dX8_certify_13 w_562 w_560 w_561 w_1 (by decide +kernel) rfl rfl (Nat.le_of_ble_eq_true rfl) (by decide) (by decide) (ZC.mono (cMX8_isRule (by omega)) ?_)
    rintro _ _ ⟨b13, rfl, rfl, hb13⟩
    refine c_if_eq (tgt := 26) dX8_certify_16 (by decide) (by omega) (fun h16 => ?_) (fun h16 => ?_)
    · have g13 := (hb13.resolve_left (fun z => by have := z.1; omega)).2
      clear hb13
      refine c_iconst dX8_certify_26 ?_
      refine c_ireturn dX8_certify_27 rfl ?_
      subst hQ0; unfold aCertify; rw [cif_neg (by omega)]; exact PW_id hW
    · have g13 := (hb13.resolve_right (fun z => by have := z.1; omega)).2
      clear hb13
      refine z_iload_n dX8_certify_19 rfl rfl ?_
      refine z_calls (N := MX8_isSheet) (nas := 1) (as := [_]) dX8_certify_20 w_313 w_311 w_312 w_1 (by decide +kernel) rfl rfl (Nat.le_of_ble_eq_true rfl) (by decide) (by decide) (ZC.mono (cMX8_isSheet (by omega)) ?_)
      rintro _ _ ⟨b20, rfl, rfl, hb20⟩
      refine c_if_ne (tgt := 28) dX8_certify_23 (by decide) (by omega) (fun h23 => ?_) (fun h23 => ?_)
      · have g20 := (hb20.resolve_right (fun z => by have := z.1; omega)).2
        clear hb20
        refine z_aload_n dX8_certify_28 rfl rfl ?_
        refine z_aload dX8_certify_29 rfl ?_
        refine z_callv (N := MX8_takenBy) (ci := 8) (nas := 1) (as := [_]) dX8_certify_31 w_445 w_442 w_444 ws_3 w_1 (by decide +kernel) rfl rfl rfl (by decide) (Nat.le_of_ble_eq_true rfl) (by decide) (by decide) (ZC.mono (cMX8_takenBy hr2.1 hW) ?_)
        rintro _ _ ⟨K31, J31, P31, R31, n31, s31, t31, c31, f31, rfl, rfl, hW31, hE31, hD31, hk31, hP31⟩
        have hT31 := TK_pub hr2 hF2 hD31
        refine z_astore dX8_certify_34 (by decide) rfl ?_
        have hsh := WD_sh hW31 (t := sh.toNat) (by omega)
        have kr31 : (KF K31 r2).1 = 13 := FA_K1 (Ev_isF hE31 hr2.1)
        have hrn := ruleN_bd q
        have hlb := lackN_bd (cF (A 44 s.toNat) (eE A s)) q (ruleN q).toNat
        have hl4 := hF2.2.1
        have hl1 := hF2.1
        refine z_aload dX8_certify_36 rfl ?_
        refine z_iload_n dX8_certify_38 rfl rfl ?_
        refine z_calls (N := MX8_isClaimed) (nas := 2) (as := [_, _]) dX8_certify_39 w_578 w_576 w_577 w_1 (by decide +kernel) rfl rfl (Nat.le_of_ble_eq_true rfl) (by decide) (by decide) (ZC.mono (cMX8_isClaimed (f := (cF (A 44 s.toNat) (eE A s))) hD31.1.1 hD31.1.2.1 hD31.2.2.1.1 hT31.1 hO (q := q) (by omega)) ?_)
        rintro _ _ ⟨b39, rfl, rfl, hb39⟩
        refine c_if_ne (tgt := 48) dX8_certify_42 (by decide) (by omega) (fun h42 => ?_) (fun h42 => ?_)
        · have g39 := (hb39.resolve_right (fun z => by have := z.1; omega)).2
          clear hb39
          have hlz0 := g39
          refine z_aload_n dX8_certify_48 rfl rfl ?_
          refine z_getR (ci := 8) (kf := 5) dX8_certify_49 rfl (by decide) (by decide) rfl w_187 rfl ?_
          refine z_iload_n dX8_certify_52 rfl rfl ?_
          refine c_aald dX8_certify_53 (Or.inr rfl) (by omega) (by decide) (sh_R (by omega)) ?_
          refine z_astore dX8_certify_54 (by decide) rfl ?_
          refine z_aload dX8_certify_56 rfl ?_
          refine z_callv (N := MX5_isMissing) (ci := 5) (nas := 0) (as := []) dX8_certify_58 w_317 w_314 w_315 w_316 w_3 (by decide +kernel) rfl rfl (sh_K1 (by omega)) (by decide) (Nat.le_of_ble_eq_true rfl) (by decide) (by decide) (ZC.mono (cMX5_isMissing (t := sh.toNat) (by omega) (by omega)) ?_)
          rintro _ _ ⟨b58, rfl, rfl, hb58⟩
          refine c_if_eq (tgt := 67) dX8_certify_61 (by decide) (by omega) (fun h61 => ?_) (fun h61 => ?_)
          · have g58 := (hb58.resolve_left (fun z => by have := z.1; omega)).2
            clear hb58
            refine z_aload dX8_certify_67 rfl ?_
            refine z_iload dX8_certify_69 rfl ?_
            refine c_iconst dX8_certify_71 ?_
            refine z_callv (N := MX5_has) (ci := 5) (nas := 2) (as := [_, _]) dX8_certify_72 w_324 w_321 w_322 w_323 w_3 (by decide +kernel) rfl rfl (sh_K1 (by omega)) (by decide) (Nat.le_of_ble_eq_true rfl) (by decide) (by decide) (ZC.mono (cMX5_has (t := sh.toNat) (by omega) (by omega) (by omega) (by omega)) ?_)
            rintro _ _ ⟨b72, rfl, rfl, hb72⟩
            refine c_if_ne (tgt := 81) dX8_certify_75 (by decide) (by omega) (fun h75 => ?_) (fun h75 => ?_)
            · have g72 := (hb72.resolve_right (fun z => by have := z.1; omega)).2
              clear hb72
              refine z_iload_n dX8_certify_81 rfl rfl ?_
              refine z_calls (N := MX8_numbersOf) (nas := 1) (as := [_]) dX8_certify_82 w_565 w_563 w_564 w_1 (by decide +kernel) rfl rfl (Nat.le_of_ble_eq_true rfl) (by decide) (by decide) (ZC.mono (cMX8_numbersOf (by omega)) ?_)
              rintro _ _ ⟨rfl, rfl⟩
              refine z_astore dX8_certify_85 (by decide) rfl ?_
              refine c_iconst dX8_certify_87 ?_
              refine z_istore dX8_certify_88 (by decide) rfl ?_
              refine z_iload dX8_certify_90 rfl ?_
              refine z_istore dX8_certify_92 (by decide) rfl ?_
              have L94 : ∀ (m94 : Nat), ∀ (cn cw p : Int) (J3 : Nat → Nat → Int), (ruleN q - cn).toNat = m94 → (0 ≤ cn ∧ cn ≤ certK (ruleN q) fr ((A 44 s.toNat) + 1) (A 64 sh.toNat)) → (cn ≤ ruleN q) → (cn * ((A 44 s.toNat) + 1) = cw) → (0 ≤ cw ∧ fr + cw ≤ A 64 sh.toNat) → (p = fr + cw) → (J3 = rwJ J31 (19 + 2 * sh.toNat) fr.toNat (certV q (A 63 sh.toNat) (fF (A 44 s.toNat) (eE A s)) ((A 44 s.toNat) + 1).toNat) cw.toNat) → Z g l MX8_certify 94 [some (.ref 4), some (.int (iZ s)), some (.int (iZ q)), some (.int (iZ sh)), some (.int (iZ fr)), some (.ref r2), some (.ref t31), some (.ref (18 + 2 * sh.toNat)), some (.ref (q.toNat + 1)), some (.int (iZ cn)), some (.int (iZ p)), none] [] (KF K31, zi J3, zj P31, RF R31, n31, s31) Q0 := by
                intro m94
                induction m94 using Nat.strongRecOn with
                | ind m94 ih94 =>
                  intro cn cw p J3 hm94 hc hcr hcw hcb hp hJ
                  have e63k : J3 (18 + 2 * sh.toNat) 0 = A 63 sh.toNat := by rw [hJ, rwJ_off (by omega)]; exact hsh.1
                  have e64k : J3 (18 + 2 * sh.toNat) 1 = A 64 sh.toNat := by rw [hJ, rwJ_off (by omega)]; exact hsh.2.1
                  have elk : J3 r2 0 = (A 44 s.toNat) := by rw [hJ, rwJ_off (by have := hr2.1.1; omega), (hE31.2.1 r2 hr2.1).2.1]; exact hr2.2.1
                  have hck := certK_iff (rn := ruleN q) (fr := fr) (wd := (A 44 s.toNat) + 1) (sz := A 64 sh.toNat) (c := cn) (by omega)
                  have hcw1 : (cn + 1) * ((A 44 s.toNat) + 1) = cw + ((A 44 s.toNat) + 1) := by rw [Int.add_mul, Int.one_mul, hcw]
                  rw [hcw1] at hck
                  refine z_iload dX8_certify_94 rfl ?_
                  refine z_aload dX8_certify_96 rfl ?_
                  refine c_alen_old dX8_certify_98 (by omega) (hO q (by omega) (by omega)) ?_
                  refine c_icmp_ge (tgt := 200) dX8_certify_99 (by decide) (by omega) (by omega) (fun h99 => ?_) (fun h99 => ?_)
                  · refine z_iload dX8_certify_200 rfl ?_
                    refine c_ireturn dX8_certify_202 rfl ?_
                    subst hQ0; unfold aCertify; rw [cif_pos (by omega), cif_neg (by omega), cif_neg (by omega), cif_pos (by omega)]
                    have hfin : certK (ruleN q) fr ((A 44 s.toNat) + 1) (A 64 sh.toNat) = cn := by
                      have : ¬ cn < certK (ruleN q) fr ((A 44 s.toNat) + 1) (A 64 sh.toNat) := fun z => by have := hck.mpr z; omega
                      omega
                    have hwr := WD_row (t := sh.toNat) (f := fr.toNat) (m := cw.toNat) (V := (certV q (A 63 sh.toNat) (fF (A 44 s.toNat) (eE A s)) ((A 44 s.toNat) + 1).toNat)) hW31 (by omega) (by omega) (fun x => certV_rI hF2.2.2.1.2.2 x)
                    rw [hfin, hcw, show (40 * sh + fr).toNat = 40 * sh.toNat + fr.toNat by omega, hJ]
                    exact ⟨rfl, _, _, _, _, _, _, rfl, WD_mono hwr, fun a a1 a2 => by rw [rwJ_off (by omega)]; exact cs_Ev hE31 a a1 a2, fun a a1 a2 => hP31 a (by omega) a2⟩
                  · refine z_aload dX8_certify_102 rfl ?_
                    refine z_iload dX8_certify_104 rfl ?_
                    refine c_iconst dX8_certify_106 ?_
                    refine z_aload dX8_certify_107 rfl ?_
                    refine c_getI (ci := 3) (kf := 0) dX8_certify_109 kr31 (by decide) (by decide) rfl w_280 ?_
                    rw [elk]
                    refine c_iadd dX8_certify_112 ?_
                    refine z_callv (N := MX5_has) (ci := 5) (nas := 2) (as := [_, _]) dX8_certify_113 w_324 w_321 w_322 w_323 w_3 (by decide +kernel) rfl rfl (sh_K1 (by omega)) (by decide) (Nat.le_of_ble_eq_true rfl) (by decide) (by decide) (ZC.mono (cMX5_has (t := sh.toNat) (by omega) (by omega) (by omega) (by omega)) ?_)
                    rintro _ _ ⟨b113, rfl, rfl, hb113⟩
                    refine c_if_eq (tgt := 200) dX8_certify_116 (by decide) (by omega) (fun h116 => ?_) (fun h116 => ?_)
                    · have g113 := (hb113.resolve_left (fun z => by have := z.1; omega)).2
                      clear hb113
                      refine z_iload dX8_certify_200 rfl ?_
                      refine c_ireturn dX8_certify_202 rfl ?_
                      subst hQ0; unfold aCertify; rw [cif_pos (by omega), cif_neg (by omega), cif_neg (by omega), cif_pos (by omega)]
                      have hfin : certK (ruleN q) fr ((A 44 s.toNat) + 1) (A 64 sh.toNat) = cn := by
                        have : ¬ cn < certK (ruleN q) fr ((A 44 s.toNat) + 1) (A 64 sh.toNat) := fun z => by have := hck.mpr z; omega
                        omega
                      have hwr := WD_row (t := sh.toNat) (f := fr.toNat) (m := cw.toNat) (V := (certV q (A 63 sh.toNat) (fF (A 44 s.toNat) (eE A s)) ((A 44 s.toNat) + 1).toNat)) hW31 (by omega) (by omega) (fun x => certV_rI hF2.2.2.1.2.2 x)
                      rw [hfin, hcw, show (40 * sh + fr).toNat = 40 * sh.toNat + fr.toNat by omega, hJ]
                      exact ⟨rfl, _, _, _, _, _, _, rfl, WD_mono hwr, fun a a1 a2 => by rw [rwJ_off (by omega)]; exact cs_Ev hE31 a a1 a2, fun a a1 a2 => hP31 a (by omega) a2⟩
                    · have g113 := (hb113.resolve_right (fun z => by have := z.1; omega)).2
                      clear hb113
                      have hlt := hck.mp ⟨by omega, by omega⟩
                      have hra := ruleA_bd (r := q) (i := cn) (by omega) (by omega)
                      have hlz : (cF (A 44 s.toNat) (eE A s)) (ruleA q cn).toNat ≠ 0 := lackN_zero (k := (ruleN q).toNat) hlz0 cn (by omega)
                      have hcp := (hT31.1 (ruleA q cn).toNat (by omega)).2.1
                      have hdv := cert_div (c := cn.toNat) (w := ((A 44 s.toNat) + 1).toNat)
                      have hcN : cn.toNat * ((A 44 s.toNat) + 1).toNat = cw.toNat := by rw [← hcw, Int.toNat_mul (by omega) (by omega)]
                      rw [hcN] at hdv
                      refine z_aload dX8_certify_119 rfl ?_
                      refine z_iload dX8_certify_121 rfl ?_
                      refine z_aload dX8_certify_123 rfl ?_
                      refine z_iload dX8_certify_125 rfl ?_
                      refine c_iald_old dX8_certify_127 (by omega) (hO q (by omega) (by omega)) (by omega) (by omega) ?_
                      rw [Int.toNat_of_nonneg (show 0 ≤ cn by omega)]
                      refine z_callv (N := MX5_put) (ci := 5) (nas := 2) (as := [_, _]) dX8_certify_128 w_337 w_334 w_335 w_336 w_3 (by decide +kernel) rfl rfl (sh_K1 (by omega)) (by decide) (Nat.le_of_ble_eq_true rfl) (by decide) (by decide) (ZC.mono (cMX5_put (t := sh.toNat) (by omega) (by omega) (by omega)) ?_)
                      rintro _ _ ⟨rfl, rfl⟩
                      have d0 := hdv 0 (by omega)
                      rw [e63k, show lowS (A 63 sh.toNat) (ruleA q cn) = (certV q (A 63 sh.toNat) (fF (A 44 s.toNat) (eE A s)) ((A 44 s.toNat) + 1).toNat) cw.toNat by unfold certV; rw [show cw.toNat = cw.toNat + 0 from rfl, d0.1, d0.2, if_pos rfl, Int.toNat_of_nonneg (by omega)]]
                      rw [show p.toNat = fr.toNat + cw.toNat by omega, hJ, rwJ_step]
                      refine c_iconst dX8_certify_131 ?_
                      refine z_istore dX8_certify_132 (by decide) rfl ?_
                      have L134 : ∀ (m134 : Nat), ∀ (j : Int) (J4 : Nat → Nat → Int), ((A 44 s.toNat) - j).toNat = m134 → (0 ≤ j ∧ j ≤ (A 44 s.toNat)) → (J4 = rwJ J31 (19 + 2 * sh.toNat) fr.toNat (certV q (A 63 sh.toNat) (fF (A 44 s.toNat) (eE A s)) ((A 44 s.toNat) + 1).toNat) (cw + 1 + j).toNat) → Z g l MX8_certify 134 [some (.ref 4), some (.int (iZ s)), some (.int (iZ q)), some (.int (iZ sh)), some (.int (iZ fr)), some (.ref r2), some (.ref t31), some (.ref (18 + 2 * sh.toNat)), some (.ref (q.toNat + 1)), some (.int (iZ cn)), some (.int (iZ p)), some (.int (iZ j))] [] (KF K31, zi J4, zj P31, RF R31, n31, s31) Q0 := by
                        intro m134
                        induction m134 using Nat.strongRecOn with
                        | ind m134 ih134 =>
                          intro j J4 hm134 hj hJ
                          have e63k : J4 (18 + 2 * sh.toNat) 0 = A 63 sh.toNat := by rw [hJ, rwJ_off (by omega)]; exact hsh.1
                          have e64k : J4 (18 + 2 * sh.toNat) 1 = A 64 sh.toNat := by rw [hJ, rwJ_off (by omega)]; exact hsh.2.1
                          have elk : J4 r2 0 = (A 44 s.toNat) := by rw [hJ, rwJ_off (by have := hr2.1.1; omega), (hE31.2.1 r2 hr2.1).2.1]; exact hr2.2.1
                          have eff : J4 f31 = J31 f31 := by rw [hJ, rwJ_off (by have := hD31.2.2.2.1.2.1; omega)]
                          refine z_iload dX8_certify_134 rfl ?_
                          refine z_aload dX8_certify_136 rfl ?_
                          refine c_getI (ci := 3) (kf := 0) dX8_certify_138 kr31 (by decide) (by decide) rfl w_280 ?_
                          rw [elk]
                          refine c_icmp_ge (tgt := 182) dX8_certify_141 (by decide) (by omega) (by omega) (fun h141 => ?_) (fun h141 => ?_)
                          · refine z_iload dX8_certify_182 rfl ?_
                            refine c_iconst dX8_certify_184 ?_
                            refine z_aload dX8_certify_185 rfl ?_
                            refine c_getI (ci := 3) (kf := 0) dX8_certify_187 kr31 (by decide) (by decide) rfl w_280 ?_
                            rw [elk]
                            refine c_iadd dX8_certify_190 ?_
                            refine c_iadd dX8_certify_191 ?_
                            refine z_istore dX8_certify_192 (by decide) rfl ?_
                            refine c_iinc dX8_certify_194 rfl (by decide) rfl ?_
                            refine z_goto (tgt := 94) dX8_certify_197 (by decide) ?_
                            exact Z.fg2 (ih94 _ (by omega) _ (cw + ((A 44 s.toNat) + 1)) _ _ rfl (by omega) (by omega) (by rw [hcw1]) (by omega) (by omega) (by rw [hJ, show (cw + 1 + j).toNat = (cw + ((A 44 s.toNat) + 1)).toNat by omega])) (zs1 rfl (zs1 rfl (zs1 rfl (zs1 rfl (zs1 rfl (zs1 rfl (zs1 rfl (zs1 rfl (zs1 rfl (zs1 rfl (zs1 rfl (zsn zs0))))))))))))
                          · refine z_aload dX8_certify_144 rfl ?_
                            refine z_iload dX8_certify_146 rfl ?_
                            refine c_iconst dX8_certify_148 ?_
                            refine c_iadd dX8_certify_149 ?_
                            refine z_iload dX8_certify_150 rfl ?_
                            refine c_iadd dX8_certify_152 ?_
                            refine z_aload dX8_certify_153 rfl ?_
                            refine z_getR (ci := 6) (kf := 1) dX8_certify_155 hD31.1.1 (by decide) (by decide) rfl w_486 hD31.1.2.2 ?_
                            refine z_aload dX8_certify_158 rfl ?_
                            refine c_getI (ci := 3) (kf := 0) dX8_certify_160 kr31 (by decide) (by decide) rfl w_280 ?_
                            rw [elk]
                            refine z_aload dX8_certify_163 rfl ?_
                            refine z_iload dX8_certify_165 rfl ?_
                            refine c_iald_old dX8_certify_167 (by omega) (hO q (by omega) (by omega)) (by omega) (by omega) ?_
                            rw [Int.toNat_of_nonneg (show 0 ≤ cn by omega)]
                            have hnl : 0 ≤ (A 44 s.toNat) * ruleA q cn + j ∧ (A 44 s.toNat) * ruleA q cn + j < ((101 * (A 44 s.toNat).toNat : Nat) : Int) ∧ ((A 44 s.toNat) * ruleA q cn + j).toNat = (A 44 s.toNat).toNat * (ruleA q cn).toNat + j.toNat := by
                              generalize ruleA q cn = u at hra
                              generalize A 44 s.toNat = nl at hl4 hl1 hj h141
                              rcases (show nl = 1 ∨ nl = 2 ∨ nl = 3 ∨ nl = 4 by omega) with rfl | rfl | rfl | rfl <;> (simp only [show (1 : Int).toNat = 1 from rfl, show (2 : Int).toNat = 2 from rfl, show (3 : Int).toNat = 3 from rfl, show (4 : Int).toNat = 4 from rfl]; omega)
                            refine c_imul dX8_certify_168 ?_
                            refine z_iload dX8_certify_169 rfl ?_
                            refine c_iadd dX8_certify_171 ?_
                            refine c_iald dX8_certify_172 hT31.2.1 (by omega) (by omega) ?_
                            rw [eff, hnl.2.2, hT31.2.2 (ruleA q cn).toNat (by omega) (by omega) j.toNat (by omega), Int.toNat_of_nonneg (show 0 ≤ j by omega)]
                            refine z_callv (N := MX5_put) (ci := 5) (nas := 2) (as := [_, _]) dX8_certify_173 w_337 w_334 w_335 w_336 w_3 (by decide +kernel) rfl rfl (sh_K1 (by omega)) (by decide) (Nat.le_of_ble_eq_true rfl) (by decide) (by decide) (ZC.mono (cMX5_put (t := sh.toNat) (by omega) (by omega) (by omega)) ?_)
                            rintro _ _ ⟨rfl, rfl⟩
                            have d1 := hdv (1 + j.toNat) (by omega)
                            rw [e63k, show lowS (A 63 sh.toNat) (vAt (fF (A 44 s.toNat) (eE A s) (ruleA q cn).toNat) j) = (certV q (A 63 sh.toNat) (fF (A 44 s.toNat) (eE A s)) ((A 44 s.toNat) + 1).toNat) (cw + 1 + j).toNat by unfold certV; rw [show (cw + 1 + j).toNat = cw.toNat + (1 + j.toNat) by omega, d1.1, d1.2, if_neg (by omega), Int.toNat_of_nonneg (show 0 ≤ cn by omega), show ((1 + j.toNat - 1 : Nat) : Int) = j by omega]]
                            rw [show (p + 1 + j).toNat = fr.toNat + (cw + 1 + j).toNat by omega, hJ, rwJ_step]
                            refine c_iinc dX8_certify_176 rfl (by decide) rfl ?_
                            refine z_goto (tgt := 134) dX8_certify_179 (by decide) ?_
                            exact Z.fg2 (ih134 _ (by omega) _ _ rfl (by omega) (by rw [show (cw + 1 + (j + 1)).toNat = (cw + 1 + j).toNat + 1 by omega])) (zs1 rfl (zs1 rfl (zs1 rfl (zs1 rfl (zs1 rfl (zs1 rfl (zs1 rfl (zs1 rfl (zs1 rfl (zs1 rfl (zs1 rfl (zs1 rfl zs0))))))))))))
                      exact Z.fg2 (L134 _ _ _ rfl (by omega) (by rw [show (cw + 1 + 0).toNat = cw.toNat + 1 by omega])) (zs1 rfl (zs1 rfl (zs1 rfl (zs1 rfl (zs1 rfl (zs1 rfl (zs1 rfl (zs1 rfl (zs1 rfl (zs1 rfl (zs1 rfl (zs1 rfl zs0))))))))))))
              exact Z.fg2 (L94 _ 0 0 _ _ rfl ⟨by omega, certK_nn (by omega) (by omega) (by omega)⟩ (by omega) (Int.zero_mul _) (by omega) (by omega) (rwJ_0.symm)) (zs1 rfl (zs1 rfl (zs1 rfl (zs1 rfl (zs1 rfl (zs1 rfl (zs1 rfl (zs1 rfl (zs1 rfl (zs1 rfl (zs1 rfl (zsn zs0))))))))))))
            · have g72 := (hb72.resolve_left (fun z => by have := z.1; omega)).2
              clear hb72
              refine c_bipush dX8_certify_78 (by decide) ?_
              refine c_ireturn dX8_certify_80 rfl ?_
              subst hQ0; unfold aCertify; rw [cif_pos (by omega), cif_neg (by omega), cif_neg (by omega), cif_neg (by omega)]; exact ⟨rfl, _, _, _, _, _, _, rfl, WD_mono hW31, cs_Ev hE31, fun a a1 a2 => hP31 a (by omega) a2⟩
          · have g58 := (hb58.resolve_right (fun z => by have := z.1; omega)).2
            clear hb58
            refine c_bipush dX8_certify_64 (by decide) ?_
            refine c_ireturn dX8_certify_66 rfl ?_
            subst hQ0; unfold aCertify; rw [cif_pos (by omega), cif_neg (by omega), cif_pos (by omega)]; exact ⟨rfl, _, _, _, _, _, _, rfl, WD_mono hW31, cs_Ev hE31, fun a a1 a2 => hP31 a (by omega) a2⟩
        · have g39 := (hb39.resolve_left (fun z => by have := z.1; omega)).2
          clear hb39
          refine c_bipush dX8_certify_45 (by decide) ?_
          refine c_ireturn dX8_certify_47 rfl ?_
          subst hQ0; unfold aCertify; rw [cif_pos (by omega), cif_pos (by omega)]; exact ⟨rfl, _, _, _, _, _, _, rfl, WD_mono hW31, cs_Ev hE31, fun a a1 a2 => hP31 a (by omega) a2⟩
      · have g20 := (hb20.resolve_left (fun z => by have := z.1; omega)).2
        clear hb20
        refine c_iconst dX8_certify_26 ?_
        refine c_ireturn dX8_certify_27 rfl ?_
        subst hQ0; unfold aCertify; rw [cif_neg (by omega)]; exact PW_id hW
end Cls21
