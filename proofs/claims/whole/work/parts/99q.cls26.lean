section Cls26
variable {g : ZG} {l : Launch} {Kd : ZK} {Rd : ZR} {n s0 c : Nat} {A J P : Nat → Nat → Int}
theorem c_getRV {M : ZM} {pc : Nat} {ls : List (Option Value)} {st : List Value} {K : ZK} {I : ZI} {L : ZL} {R : ZR} {Q : Option Value → ZH → Prop} {a ci kf index : Nat} (hd : decode M.2.1 pc = .ok (.getfield index, 3)) (hK : (K a).1 = 10 + ci) (hc : ci < 10) (hk : kf < zN ci) (hs : zsort (zty ci kf) = 2) (hw : Cond.fieldLink M.1.cls index (zTT ci kf).1 (zTT ci kf).2.1 (zTT ci kf).2.2.1 ∈ gw) (k : Z g l M (pc + 3) ls (va_rf (R a kf) :: st) (K, I, L, R, n, s0) Q) : Z g l M pc ls (.ref a :: st) (K, I, L, R, n, s0) Q := z_getV hd hK hc hk (by simp only [zfv, hs]; cases R a kf <;> rfl) hw k
theorem WD_BrOK {r : Nat} (hW : WD A c Kd J Rd n s0) (hp : Rd 40 0 = some r) : isF Kd n r ∧ ∃ rw j : Nat, (Rd 40 3 = some rw ∧ KF Kd rw = (1, 64 * 2 ^ j) ∧ j ≤ 15 ∧ (rw = 41 ∨ (66 ≤ rw ∧ rw < n))) ∧ BrOK J (J r 0) (J (ent Rd r)) rw j := by
  obtain ⟨_, _, _, _, rw, j, ⟨b1, b2⟩, _⟩ := hW
  rcases b2 with z | ⟨q, z1, z2, z3⟩
  · rw [hp] at z; cases z
  · rw [hp] at z1
    have e : r = q := Option.some.inj z1
    subst e
    exact ⟨z2, rw, j, b1, z3⟩
theorem grow_0 {nl : Int} {E : Nat → Int} (h : grow nl E = 0) (h1 : 1 ≤ nl) (h4 : nl ≤ 4) : truF nl E ≠ 0 ∧ nl ≤ 3 := by
  unfold grow at h
  by_cases a : truF nl E = 0
  · rw [if_pos a] at h; omega
  · rw [if_neg a] at h
    by_cases b : nl = 4
    · rw [if_pos b] at h; omega
    · exact ⟨a, by omega⟩
set_option maxHeartbeats 4000000 in
set_option maxRecDepth 100000 in
theorem cMX0_shape {k nl : Int} {E : Nat → Int} {r : Nat} (hk : rI k) (hW : WD A c Kd J Rd n s0) (hp : Rd 40 0 = some r) (hl : J r 0 = nl) (hE : J (ent Rd r) = E) : ZC g l MX0_shape [.ref 40, .int (iZ k), .ref 26] (KF Kd, zi J, zj P, RF Rd, n, s0) (fun rr hh => ∃ (J' : Nat → Nat → Int) (b : Int), hh = (KF Kd, zi J', zj P, RF Rd, n, s0) ∧ rr = some (.int (iZ b)) ∧ ((b = 1 ∧ (0 ≤ k ∧ k < ((kids nl E).length : Int)) ∧ J' = dput J (nl + 1) (kidE nl E k)) ∨ (b = 0 ∧ ¬ (0 ≤ k ∧ k < ((kids nl E).length : Int)) ∧ J' = J))) := by
  refine ZC.of (by decide) (Nat.le_of_ble_eq_true rfl) ?_
  generalize hQ0 : (fun rr hh => ∃ (J' : Nat → Nat → Int) (b : Int), hh = (KF Kd, zi J', zj P, RF Rd, n, s0) ∧ rr = some (.int (iZ b)) ∧ ((b = 1 ∧ (0 ≤ k ∧ k < ((kids nl E).length : Int)) ∧ J' = dput J (nl + 1) (kidE nl E k)) ∨ (b = 0 ∧ ¬ (0 ≤ k ∧ k < ((kids nl E).length : Int)) ∧ J' = J)) : Option Value → ZH → Prop) = Q0
  show Z g l MX0_shape 0 [some (.ref 40), some (.int (iZ k)), some (.ref 26), none, none] [] (KF Kd, zi J, zj P, RF Rd, n, s0) Q0
  obtain ⟨hr, rw9, j9, hrw, hbr⟩ := WD_BrOK hW hp
  rw [hl, hE] at hbr
  obtain ⟨hg0, hb2, hb1, hbl, hbx⟩ := hbr
  have hrb := hr.1
  have hG0 := (WD_GF hW hr).2.1
  have hEn := WD_ent hW hr
  rw [hl, hE] at hG0
  have hn : 1 ≤ nl := hG0.1
  have hO := hG0.2.1
  have hgr := grow_0 hg0 hn hO.1
  have h3 := hgr.2
  have htb := truF_bd nl E
  have hkl := kids_len nl E
  have p15 : 2 ^ j9 ≤ 32768 := by have := Nat.pow_le_pow_right (n := 2) (by decide) hrw.2.2.1; simpa using this
  have r9 : rw9 ≠ 26 ∧ rw9 ≠ 27 := by have := hrw.2.2.2; omega
  refine z_aload_n dX0_shape_0 rfl rfl ?_
  refine z_getR (ci := 0) (kf := 0) dX0_shape_1 rfl (by decide) (by decide) rfl w_167 hp ?_
  refine z_ifnull dX0_shape_4 ?_
  refine z_iload_n dX0_shape_7 rfl rfl ?_
  refine c_if_lt (tgt := 19) dX0_shape_8 (by decide) hk (fun h8 => ?_) (fun h8 => ?_)
  · refine c_iconst dX0_shape_19 ?_
    refine c_zreturn dX0_shape_20 rfl (by omega) ?_
    subst hQ0; exact ⟨_, _, rfl, rfl, Or.inr ⟨rfl, by omega, rfl⟩⟩
  · refine z_iload_n dX0_shape_11 rfl rfl ?_
    refine z_aload_n dX0_shape_12 rfl rfl ?_
    refine c_getI (ci := 0) (kf := 1) dX0_shape_13 rfl (by decide) (by decide) rfl w_169 ?_
    rw [hb1]
    refine c_icmp_lt (tgt := 21) dX0_shape_16 (by decide) hk (by omega) (fun h16 => ?_) (fun h16 => ?_)
    · obtain ⟨X, hX⟩ : ∃ X, (kids nl E)[k.toNat]? = some X := ⟨_, List.getElem?_eq_getElem (by omega)⟩
      have hXe := hbx k.toNat X hX
      have hXb := kids_bd hn h3 hO (by omega) (List.mem_of_getElem? hX)
      have hke : kidE nl E k = chE nl.toNat E (truF nl E) X := by unfold kidE; rw [hX]; rfl
      refine z_aload_n dX0_shape_21 rfl rfl ?_
      refine z_getR (ci := 0) (kf := 0) dX0_shape_22 rfl (by decide) (by decide) rfl w_167 hp ?_
      refine c_getI (ci := 3) (kf := 0) dX0_shape_25 (FA_K1 hr) (by decide) (by decide) rfl w_276 ?_
      rw [hl]
      refine z_istore_n dX0_shape_28 rfl (by decide) rfl ?_
      refine z_aload_n dX0_shape_29 rfl rfl ?_
      refine z_aload_n dX0_shape_30 rfl rfl ?_
      refine z_getR (ci := 0) (kf := 0) dX0_shape_31 rfl (by decide) (by decide) rfl w_167 hp ?_
      refine z_callv (N := MX1_load) (ci := 1) (nas := 1) (as := [_]) dX0_shape_34 w_352 w_613 w_350 w_351 w_4 (by decide +kernel) rfl rfl rfl (by decide) (Nat.le_of_ble_eq_true rfl) (by decide) (by decide) (ZC.mono (cMX1_load (FA_K1 hr) hEn.1 hEn.2.1 ⟨hrb, hEn.2.2.1⟩) ?_)
      rintro _ _ ⟨rfl, rfl⟩
      rw [hl, hE]
      refine z_aload_n dX0_shape_37 rfl rfl ?_
      refine z_iload_n dX0_shape_38 rfl rfl ?_
      refine c_iconst dX0_shape_39 ?_
      refine c_iadd dX0_shape_40 ?_
      refine c_putI (ci := 1) (kf := 0) dX0_shape_41 rfl (by decide) (by decide) rfl (by decide) w_79 ?_
      rw [dput_setl]
      refine c_iconst dX0_shape_44 ?_
      refine z_istore dX0_shape_45 (by decide) rfl ?_
      have L47 : ∀ (m47 : Nat), ∀ (m : Int), (nl - m).toNat = m47 → (0 ≤ m ∧ m ≤ nl) → Z g l MX0_shape 47 [some (.ref 40), some (.int (iZ k)), some (.ref 26), some (.int (iZ nl)), some (.int (iZ m))] [] (KF Kd, zi (dput J (nl + 1) (chR nl.toNat E X m.toNat)), zj P, RF Rd, n, s0) Q0 := by
        intro m47
        induction m47 using Nat.strongRecOn with
        | ind m47 ih47 =>
          intro m hm47 hm
          refine z_iload dX0_shape_47 rfl ?_
          refine z_iload_n dX0_shape_49 rfl rfl ?_
          refine c_icmp_ge (tgt := 79) dX0_shape_50 (by decide) (by omega) (by omega) (fun h50 => ?_) (fun h50 => ?_)
          · have em : m = nl := by omega
            rw [em]
            refine z_aload_n dX0_shape_79 rfl rfl ?_
            refine z_iload_n dX0_shape_80 rfl rfl ?_
            refine z_iload_n dX0_shape_81 rfl rfl ?_
            refine z_aload_n dX0_shape_82 rfl rfl ?_
            refine c_getI (ci := 0) (kf := 2) dX0_shape_83 rfl (by decide) (by decide) rfl w_171 ?_
            rw [dput_off (by decide) (by decide), hb2]
            refine z_callv (N := MX1_set) (ci := 1) (nas := 3) (as := [_, _, _]) dX0_shape_86 w_230 w_614 w_228 w_229 w_4 (by decide +kernel) rfl rfl rfl (by decide) (Nat.le_of_ble_eq_true rfl) (by decide) (by decide) (ZC.mono (cMX1_set (by omega) (by omega)) ?_)
            rintro _ _ ⟨rfl, rfl⟩
            refine c_iconst dX0_shape_89 ?_
            refine c_zreturn dX0_shape_90 rfl (by omega) ?_
            subst hQ0; exact ⟨_, _, rfl, rfl, Or.inl ⟨rfl, by omega, by rw [hke]; rfl⟩⟩
          · refine z_aload_n dX0_shape_53 rfl rfl ?_
            refine z_iload_n dX0_shape_54 rfl rfl ?_
            refine z_iload dX0_shape_55 rfl ?_
            refine z_aload_n dX0_shape_57 rfl rfl ?_
            refine z_getR (ci := 0) (kf := 3) dX0_shape_58 rfl (by decide) (by decide) rfl w_172 hrw.1 ?_
            refine z_iload_n dX0_shape_61 rfl rfl ?_
            refine c_iald dX0_shape_62 hrw.2.1 (by omega) (by omega) ?_
            rw [dput_off r9.1 r9.2, hXe]
            refine c_bipush dX0_shape_63 (by decide) ?_
            refine z_iload dX0_shape_65 rfl ?_
            refine c_imul dX0_shape_67 ?_
            refine z_ishr dX0_shape_68 ?_
            rw [enc_shr (encV_bd X) (by omega)]
            refine c_i2b dX0_shape_69 ?_
            have hXm := hXb m.toNat (by omega)
            rw [show ((m.toNat : Nat) : Int) = m by omega] at hXm
            rw [enc_at (v := X) (by omega) (by omega)]
            refine z_callv (N := MX1_set) (ci := 1) (nas := 3) (as := [_, _, _]) dX0_shape_70 w_230 w_614 w_228 w_229 w_4 (by decide +kernel) rfl rfl rfl (by decide) (Nat.le_of_ble_eq_true rfl) (by decide) (by decide) (ZC.mono (cMX1_set (by omega) (by omega)) ?_)
            rintro _ _ ⟨rfl, rfl⟩
            have hcs : setE (chR nl.toNat E X m.toNat) nl.toNat m.toNat (vAt X m) = chR nl.toNat E X (m + 1).toNat := by
              rw [show (m + 1).toNat = m.toNat + 1 by omega, chR, show ((m.toNat : Nat) : Int) = m by omega]
            rw [hcs]
            refine c_iinc dX0_shape_73 rfl (by decide) rfl ?_
            refine z_goto (tgt := 47) dX0_shape_76 (by decide) ?_
            exact Z.fg2 (ih47 _ (by omega) _ rfl (by omega)) (zs1 rfl (zs1 rfl (zs1 rfl (zs1 rfl (zs1 rfl zs0)))))
      exact Z.fg2 (L47 _ 0 rfl (by omega)) (zs1 rfl (zs1 rfl (zs1 rfl (zs1 rfl (zs1 rfl zs0)))))
    · refine c_iconst dX0_shape_19 ?_
      refine c_zreturn dX0_shape_20 rfl (by omega) ?_
      subst hQ0; exact ⟨_, _, rfl, rfl, Or.inr ⟨rfl, by omega, rfl⟩⟩
set_option maxHeartbeats 4000000 in
set_option maxRecDepth 100000 in
theorem cMX8_broodOf {r : Nat} (hr : isF Kd n r) (hg : grow (J r 0) (J (ent Rd r)) = 0) (hW : WD A c Kd J Rd n s0) : ZC g l MX8_broodOf [.ref 4, .ref r] (KF Kd, zi J, zj P, RF Rd, n, s0) (fun rr hh => rr = some (.ref 40) ∧ ∃ (Kd' : ZK) (J' P' : Nat → Nat → Int) (Rd' : ZR) (n' s0' : Nat), hh = (KF Kd', zi J', zj P', RF Rd', n', s0') ∧ WD A c Kd' J' Rd' n' s0' ∧ Ev Kd J Rd n Kd' J' Rd' n' ∧ Rd' 40 0 = some r ∧ ∀ a, 35 ≤ a → a < 66 → P' a = P a) := by
  refine ZC.of (by decide) (Nat.le_of_ble_eq_true rfl) ?_
  generalize hQ0 : (fun rr hh => rr = some (.ref 40) ∧ ∃ (Kd' : ZK) (J' P' : Nat → Nat → Int) (Rd' : ZR) (n' s0' : Nat), hh = (KF Kd', zi J', zj P', RF Rd', n', s0') ∧ WD A c Kd' J' Rd' n' s0' ∧ Ev Kd J Rd n Kd' J' Rd' n' ∧ Rd' 40 0 = some r ∧ ∀ a, 35 ≤ a → a < 66 → P' a = P a : Option Value → ZH → Prop) = Q0
  show Z g l MX8_broodOf 0 [some (.ref 4), some (.ref r)] [] (KF Kd, zi J, zj P, RF Rd, n, s0) Q0
  have hrb := hr.1
  have hG0 := (WD_GF hW hr).2.1
  have hgr := grow_0 hg hG0.1 hG0.2.1.1
  have hx8 : ∀ a, RF Rd 40 0 = some a → 4 ≤ a := fun a ha => by
    have z := (WD_BrOK hW (r := a) ha).1.1
    omega
  refine z_aload_n dX8_broodOf_0 rfl rfl ?_
  refine z_getR (ci := 8) (kf := 9) dX8_broodOf_1 rfl (by decide) (by decide) rfl w_191 rfl ?_
  refine c_getRV (ci := 0) (kf := 0) dX8_broodOf_4 rfl (by decide) (by decide) rfl w_168 ?_
  refine z_aload_n dX8_broodOf_7 rfl rfl ?_
  refine z_acmp_eq (tgt := 35) dX8_broodOf_8 (by decide) hx8 (by omega) (fun h8 => ?_) (fun h8 => ?_)
  · refine z_aload_n dX8_broodOf_35 rfl rfl ?_
    refine z_getR (ci := 8) (kf := 9) dX8_broodOf_36 rfl (by decide) (by decide) rfl w_191 rfl ?_
    refine z_areturn dX8_broodOf_39 rfl (Or.inl ⟨_, rfl⟩) ?_
    subst hQ0; first | exact ⟨rfl, _, _, _, _, _, _, rfl, hW32, Ev_trans hE18 hE32, hp32, fun a a1 a2 => (hP32 a a1 a2).trans (hP18 a a1 a2)⟩ | exact ⟨rfl, _, _, _, _, _, _, rfl, hW, Ev_refl, h8, fun _ _ _ => rfl⟩
  · refine z_aload_n dX8_broodOf_11 rfl rfl ?_
    refine z_getR (ci := 8) (kf := 9) dX8_broodOf_12 rfl (by decide) (by decide) rfl w_191 rfl ?_
    refine z_aload_n dX8_broodOf_15 rfl rfl ?_
    refine z_aload_n dX8_broodOf_16 rfl rfl ?_
    refine z_aload_n dX8_broodOf_17 rfl rfl ?_
    refine z_callv (N := MX8_takenBy) (ci := 8) (nas := 1) (as := [_]) dX8_broodOf_18 w_445 w_442 w_444 ws_3 w_1 (by decide +kernel) rfl rfl rfl (by decide) (Nat.le_of_ble_eq_true rfl) (by decide) (by decide) (ZC.mono (cMX8_takenBy hr hW) ?_)
    rintro _ _ ⟨K18, J18, P18, R18, n18, s18, t18, c18, f18, rfl, rfl, hW18, hE18, hD18, hk18, hP18⟩
    have hT18 := TKD_f hG0.2.1 hD18
    refine z_callv (N := MX6_firstLacking) (ci := 6) (nas := 0) (as := []) dX8_broodOf_21 w_507 w_504 w_505 w_506 w_13 (by decide +kernel) rfl rfl hD18.1.1 (by decide) (Nat.le_of_ble_eq_true rfl) (by decide) (by decide) (ZC.mono (cMX6_firstLacking (f := cF (J r 0) (J (ent Rd r))) hD18.1.1 hD18.1.2.1 hD18.2.2.1.1 hT18) ?_)
    rintro _ _ ⟨rfl, rfl⟩
    rw [show lackD (cF (J r 0) (J (ent Rd r))) 100 = truF (J r 0) (J (ent Rd r)) from rfl]
    refine z_aload_n dX8_broodOf_24 rfl rfl ?_
    refine z_getR (ci := 8) (kf := 6) dX8_broodOf_25 rfl (by decide) (by decide) rfl w_188 rfl ?_
    refine z_aload_n dX8_broodOf_28 rfl rfl ?_
    refine z_getR (ci := 8) (kf := 7) dX8_broodOf_29 rfl (by decide) (by decide) rfl w_189 rfl ?_
    refine z_callv (N := MX0_gather) (ci := 0) (nas := 4) (as := [_, _, _, _]) dX8_broodOf_32 w_605 w_602 w_603 w_604 w_7 (by decide +kernel) rfl rfl rfl (by decide) (Nat.le_of_ble_eq_true rfl) (by decide) (by decide) (ZC.mono (cMX0_gather (r := r) (nl := J r 0) (E := J (ent Rd r)) (Ev_isF hE18 hr) hW18 (by rw [(hE18.2.1 r hr).2.1]) (by rw [Ev_ent hE18 hr]; exact (hE18.2.1 r hr).2.2.2) hgr.2 rfl hgr.1) ?_)
    rintro _ _ ⟨rfl, K32, J32, P32, R32, n32, s32, rfl, hW32, hE32, hp32, hP32⟩
    refine z_aload_n dX8_broodOf_35 rfl rfl ?_
    refine z_getR (ci := 8) (kf := 9) dX8_broodOf_36 rfl (by decide) (by decide) rfl w_191 rfl ?_
    refine z_areturn dX8_broodOf_39 rfl (Or.inl ⟨_, rfl⟩) ?_
    subst hQ0; first | exact ⟨rfl, _, _, _, _, _, _, rfl, hW32, Ev_trans hE18 hE32, hp32, fun a a1 a2 => (hP32 a a1 a2).trans (hP18 a a1 a2)⟩ | exact ⟨rfl, _, _, _, _, _, _, rfl, hW, Ev_refl, h8, fun _ _ _ => rfl⟩
end Cls26
