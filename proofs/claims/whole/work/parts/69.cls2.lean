section Cls2
variable {g : ZG} {l : Launch} {Kd : ZK} {Rd : ZR} {n s0 : Nat} {J P : Nat → Nat → Int}
set_option maxHeartbeats 4000000 in
set_option maxRecDepth 100000 in
theorem cMX1_get {nl i j : Int} {E : Nat → Int} (hi : 0 ≤ i ∧ i < 4) (hj : 0 ≤ j ∧ j < 4) : ZC g l MX1_get [.ref 26, .int (iZ i), .int (iZ j)] (KF Kd, zi (dput J nl E), zj P, RF Rd, n, s0) (fun rr hh => rr = some (.int (iZ (E (4 * i.toNat + j.toNat)))) ∧ hh = (KF Kd, zi (dput J nl E), zj P, RF Rd, n, s0)) := by
  refine ZC.of (by decide) (Nat.le_of_ble_eq_true rfl) ?_
  generalize hQ0 : (fun rr hh => rr = some (.int (iZ (E (4 * i.toNat + j.toNat)))) ∧ hh = (KF Kd, zi (dput J nl E), zj P, RF Rd, n, s0) : Option Value → ZH → Prop) = Q0
  show Z g l MX1_get 0 [some (.ref 26), some (.int (iZ i)), some (.int (iZ j))] [] (KF Kd, zi (dput J nl E), zj P, RF Rd, n, s0) Q0
  refine z_aload_n dX1_get_0 rfl rfl ?_
  refine z_getR (ci := 1) (kf := 1) dX1_get_1 rfl (by decide) (by decide) rfl w_81 rfl ?_
  refine c_iconst dX1_get_4 ?_
  refine z_iload_n dX1_get_5 rfl rfl ?_
  refine c_imul dX1_get_6 ?_
  refine z_iload_n dX1_get_7 rfl rfl ?_
  refine c_iadd dX1_get_8 ?_
  refine c_iald dX1_get_9 rfl (by omega) (by decide) ?_
  refine c_ireturn dX1_get_10 rfl ?_
  subst hQ0; rw [dput_at hi hj]; exact ⟨rfl, rfl⟩
set_option maxHeartbeats 4000000 in
set_option maxRecDepth 100000 in
theorem cMX1_set {nl i j a : Int} {E : Nat → Int} (hi : 0 ≤ i ∧ i < 4) (hj : 0 ≤ j ∧ j < 4) : ZC g l MX1_set [.ref 26, .int (iZ i), .int (iZ j), .int (iZ a)] (KF Kd, zi (dput J nl E), zj P, RF Rd, n, s0) (fun rr hh => rr = none ∧ hh = (KF Kd, zi (dput J nl (setE E i.toNat j.toNat a)), zj P, RF Rd, n, s0)) := by
  refine ZC.of (by decide) (Nat.le_of_ble_eq_true rfl) ?_
  generalize hQ0 : (fun rr hh => rr = none ∧ hh = (KF Kd, zi (dput J nl (setE E i.toNat j.toNat a)), zj P, RF Rd, n, s0) : Option Value → ZH → Prop) = Q0
  show Z g l MX1_set 0 [some (.ref 26), some (.int (iZ i)), some (.int (iZ j)), some (.int (iZ a))] [] (KF Kd, zi (dput J nl E), zj P, RF Rd, n, s0) Q0
  refine z_aload_n dX1_set_0 rfl rfl ?_
  refine z_getR (ci := 1) (kf := 1) dX1_set_1 rfl (by decide) (by decide) rfl w_81 rfl ?_
  refine c_iconst dX1_set_4 ?_
  refine z_iload_n dX1_set_5 rfl rfl ?_
  refine c_imul dX1_set_6 ?_
  refine z_iload_n dX1_set_7 rfl rfl ?_
  refine c_iadd dX1_set_8 ?_
  refine z_iload_n dX1_set_9 rfl rfl ?_
  refine c_iast dX1_set_10 rfl (by omega) (by decide) ?_
  refine z_aload_n dX1_set_11 rfl rfl ?_
  refine z_getR (ci := 1) (kf := 1) dX1_set_12 rfl (by decide) (by decide) rfl w_81 rfl ?_
  refine c_iconst dX1_set_15 ?_
  refine z_iload_n dX1_set_16 rfl rfl ?_
  refine c_imul dX1_set_17 ?_
  refine z_iload_n dX1_set_18 rfl rfl ?_
  refine c_iadd dX1_set_19 ?_
  refine z_iload_n dX1_set_20 rfl rfl ?_
  refine c_iast dX1_set_21 rfl (by omega) (by decide) ?_
  refine z_return dX1_set_22 rfl ?_
  subst hQ0; refine ⟨rfl, ?_⟩; rw [show (4 * i + j).toNat = 4 * i.toNat + j.toNat by omega, show (4 * j + i).toNat = 4 * j.toNat + i.toNat by omega, dput_lay (by omega) (by omega)]
set_option maxHeartbeats 4000000 in
set_option maxRecDepth 100000 in
theorem cMX1_begin {k : Int} : ZC g l MX1_begin [.ref 26, .int (iZ k)] (KF Kd, zi J, zj P, RF Rd, n, s0) (fun rr hh => rr = none ∧ hh = (KF Kd, zi (dput J k (fun _ => 0)), zj P, RF Rd, n, s0)) := by
  refine ZC.of (by decide) (Nat.le_of_ble_eq_true rfl) ?_
  generalize hQ0 : (fun rr hh => rr = none ∧ hh = (KF Kd, zi (dput J k (fun _ => 0)), zj P, RF Rd, n, s0) : Option Value → ZH → Prop) = Q0
  show Z g l MX1_begin 0 [some (.ref 26), some (.int (iZ k))] [] (KF Kd, zi J, zj P, RF Rd, n, s0) Q0
  refine z_aload_n dX1_begin_0 rfl rfl ?_
  refine z_iload_n dX1_begin_1 rfl rfl ?_
  refine c_putI (ci := 1) (kf := 0) dX1_begin_2 rfl (by decide) (by decide) rfl (by decide) w_78 ?_
  refine z_aload_n dX1_begin_5 rfl rfl ?_
  refine z_getR (ci := 1) (kf := 1) dX1_begin_6 rfl (by decide) (by decide) rfl w_81 rfl ?_
  refine c_iconst dX1_begin_9 ?_
  refine z_calls (N := MJ7_fill_53178) (nas := 2) (as := [_, _]) dX1_begin_10 w_226 w_224 w_225 w_9 (by decide +kernel) rfl rfl (Nat.le_of_ble_eq_true rfl) (by decide) (by decide) (ZC.mono (cMJ7_fill_53178 (a := 27) (len := 16) rfl (by decide)) ?_)
  rintro _ _ ⟨rfl, rfl⟩
  refine z_return dX1_begin_13 rfl ?_
  subst hQ0; refine ⟨rfl, ?_⟩
  rw [show (fun b q => if b = 27 ∧ q < 16 then (0 : Int) else zup J 26 0 k b q) = dput J k (fun _ => 0) by
    funext b q; simp only [zup, dput]
    by_cases hb : b = 26
    · subst hb; by_cases hq : q = 0 <;> simp [hq]
    · simp [hb]]
set_option maxHeartbeats 4000000 in
set_option maxRecDepth 100000 in
theorem cMX1_load {r e : Nat} (hK : (KF Kd r).1 = 13) (hR : RF Rd r 1 = some e) (hKe : KF Kd e = (1, 16)) (hre : 66 ≤ r ∧ 66 ≤ e) : ZC g l MX1_load [.ref 26, .ref r] (KF Kd, zi J, zj P, RF Rd, n, s0) (fun rr hh => rr = none ∧ hh = (KF Kd, zi (dput J (J r 0) (J e)), zj P, RF Rd, n, s0)) := by
  refine ZC.of (by decide) (Nat.le_of_ble_eq_true rfl) ?_
  generalize hQ0 : (fun rr hh => rr = none ∧ hh = (KF Kd, zi (dput J (J r 0) (J e)), zj P, RF Rd, n, s0) : Option Value → ZH → Prop) = Q0
  show Z g l MX1_load 0 [some (.ref 26), some (.ref r)] [] (KF Kd, zi J, zj P, RF Rd, n, s0) Q0
  refine z_aload_n dX1_load_0 rfl rfl ?_
  refine z_aload_n dX1_load_1 rfl rfl ?_
  refine c_getI (ci := 3) (kf := 0) dX1_load_2 hK (by decide) (by decide) rfl w_277 ?_
  refine c_putI (ci := 1) (kf := 0) dX1_load_5 rfl (by decide) (by decide) rfl (by decide) w_78 ?_
  refine z_aload_n dX1_load_8 rfl rfl ?_
  refine z_getR (ci := 3) (kf := 1) dX1_load_9 hK (by decide) (by decide) rfl w_283 hR ?_
  refine c_iconst dX1_load_12 ?_
  refine z_aload_n dX1_load_13 rfl rfl ?_
  refine z_getR (ci := 1) (kf := 1) dX1_load_14 rfl (by decide) (by decide) rfl w_81 rfl ?_
  refine c_iconst dX1_load_17 ?_
  refine z_aload_n dX1_load_18 rfl rfl ?_
  refine z_getR (ci := 1) (kf := 1) dX1_load_19 rfl (by decide) (by decide) rfl w_81 rfl ?_
  refine c_alen dX1_load_22 rfl (by decide) ?_
  refine c_copyi dX1_load_23 w_353 w_355 w_354 w_11 hKe rfl (by omega) (by omega) (by omega) (by decide) (by decide) (by decide) (Nat.le_of_ble_eq_true rfl) ?_
  refine z_return dX1_load_26 rfl ?_
  subst hQ0; refine ⟨rfl, ?_⟩
  rw [show zupA (zup J 26 0 (J r 0)) 27 (va_cpy (zup J 26 0 (J r 0) e) (zup J 26 0 (J r 0) 27) (0 : Int).toNat (0 : Int).toNat ((16 : Nat) : Int).toNat) = dput J (J r 0) (J e) by
    funext b q
    rw [zup_ne (show e ≠ 26 by omega), zup_ne (show (27 : Nat) ≠ 26 by decide)]
    show (if b = 27 then va_cpy (J e) (J 27) 0 0 16 else zup J 26 0 (J r 0) b) q = _
    by_cases hb : b = 27
    · subst hb; rw [if_pos rfl]; unfold va_cpy
      by_cases hq : q < 16
      · rw [dput_in hq]; simp [hq]
      · simp [hq, dput]
    · rw [if_neg hb]
      by_cases hc : b = 26
      · subst hc; by_cases hq : q = 0
        · subst hq; rw [zz, dput_let]
        · rw [zzi hq, dput_26 hq]
      · rw [zup_ne hc, dput_off hc hb]]
set_option maxHeartbeats 4000000 in
set_option maxRecDepth 100000 in
theorem cMX1_paste {nl a : Int} {E : Nat → Int} {r e : Nat} (hK : (KF Kd r).1 = 13) (hR : RF Rd r 1 = some e) (hKe : KF Kd e = (1, 16)) (hre : 66 ≤ r ∧ 66 ≤ e) (hn : 0 ≤ a ∧ 1 ≤ J r 0 ∧ a + J r 0 ≤ 4) (hF : symS (J e)) : ZC g l MX1_paste [.ref 26, .ref r, .int (iZ a)] (KF Kd, zi (dput J nl E), zj P, RF Rd, n, s0) (fun rr hh => rr = none ∧ hh = (KF Kd, zi (dput J nl (joinE E (J e) a.toNat (J r 0).toNat)), zj P, RF Rd, n, s0)) := by
  refine ZC.of (by decide) (Nat.le_of_ble_eq_true rfl) ?_
  generalize hQ0 : (fun rr hh => rr = none ∧ hh = (KF Kd, zi (dput J nl (joinE E (J e) a.toNat (J r 0).toNat)), zj P, RF Rd, n, s0) : Option Value → ZH → Prop) = Q0
  show Z g l MX1_paste 0 [some (.ref 26), some (.ref r), some (.int (iZ a)), none, none] [] (KF Kd, zi (dput J nl E), zj P, RF Rd, n, s0) Q0
  refine c_iconst dX1_paste_0 ?_
  refine z_istore_n dX1_paste_1 rfl (by decide) rfl ?_
  have L2 : ∀ (m2 : Nat), ∀ (i : Int) (J1 : Nat → Nat → Int), (J r 0 - i).toNat = m2 → (0 ≤ i ∧ i ≤ J r 0) → (J1 = (dput J nl (fun q : Nat => if a.toNat ≤ q / 4 ∧ q / 4 < a.toNat + (J r 0).toNat ∧ a.toNat ≤ q % 4 ∧ q % 4 < a.toNat + (J r 0).toNat ∧ (((q / 4 : Nat) : Int) < a + i ∧ ((q % 4 : Nat) : Int) < a + i) then J e (4 * (q / 4 - a.toNat) + (q % 4 - a.toNat)) else E q))) → Z g l MX1_paste 2 [some (.ref 26), some (.ref r), some (.int (iZ a)), some (.int (iZ i)), none] [] (KF Kd, zi J1, zj P, RF Rd, n, s0) Q0 := by
    intro m2
    induction m2 using Nat.strongRecOn with
    | ind m2 ih2 =>
      intro i J1 hm2 hi hJ
      refine z_iload_n dX1_paste_2 rfl rfl ?_
      refine z_aload_n dX1_paste_3 rfl rfl ?_
      refine c_getI (ci := 3) (kf := 0) dX1_paste_4 hK (by decide) (by decide) rfl w_277 ?_
      rw [show J1 r 0 = J r 0 by rw [hJ, dput_off (by omega) (by omega)]]
      refine c_icmp_ge (tgt := 60) dX1_paste_7 (by decide) (by omega) (by omega) (fun h7 => ?_) (fun h7 => ?_)
      · refine z_return dX1_paste_60 rfl ?_
        subst hQ0; refine ⟨rfl, ?_⟩; subst hJ; rw [dput_ext (F := joinE E (J e) a.toNat (J r 0).toNat) (fun q hq => ifc (by omega))]
      · refine z_iload_n dX1_paste_10 rfl rfl ?_
        refine z_iload_n dX1_paste_11 rfl rfl ?_
        refine c_iadd dX1_paste_12 ?_
        refine c_iconst dX1_paste_13 ?_
        refine c_icmp_ge (tgt := 60) dX1_paste_14 (by decide) (by omega) (by omega) (fun h14 => ?_) (fun h14 => ?_)
        · exact absurd h14 (by omega)
        · refine c_iconst dX1_paste_17 ?_
          refine z_istore dX1_paste_18 (by decide) rfl ?_
          have L20 : ∀ (m20 : Nat), ∀ (j : Int) (J1 : Nat → Nat → Int), (i + 1 - j).toNat = m20 → (0 ≤ j ∧ j ≤ i + 1) → (J1 = (dput J nl (fun q : Nat => if a.toNat ≤ q / 4 ∧ q / 4 < a.toNat + (J r 0).toNat ∧ a.toNat ≤ q % 4 ∧ q % 4 < a.toNat + (J r 0).toNat ∧ ((((q / 4 : Nat) : Int) < a + i ∧ ((q % 4 : Nat) : Int) < a + i) ∨ (((q / 4 : Nat) : Int) = a + i ∧ ((q % 4 : Nat) : Int) < a + j) ∨ (((q % 4 : Nat) : Int) = a + i ∧ ((q / 4 : Nat) : Int) < a + j)) then J e (4 * (q / 4 - a.toNat) + (q % 4 - a.toNat)) else E q))) → Z g l MX1_paste 20 [some (.ref 26), some (.ref r), some (.int (iZ a)), some (.int (iZ i)), some (.int (iZ j))] [] (KF Kd, zi J1, zj P, RF Rd, n, s0) Q0 := by
            intro m20
            induction m20 using Nat.strongRecOn with
            | ind m20 ih20 =>
              intro j J1 hm20 hj hJ
              refine z_iload dX1_paste_20 rfl ?_
              refine z_iload_n dX1_paste_22 rfl rfl ?_
              refine c_icmp_gt (tgt := 54) dX1_paste_23 (by decide) (by omega) (by omega) (fun h23 => ?_) (fun h23 => ?_)
              · refine c_iinc dX1_paste_54 rfl (by decide) rfl ?_
                refine z_goto (tgt := 2) dX1_paste_57 (by decide) ?_
                exact Z.fg2 (ih2 _ (by omega) _ _ rfl (by omega) (by subst hJ; exact dput_ext (fun q hq => ifc (by omega)))) (zs1 rfl (zs1 rfl (zs1 rfl (zs1 rfl (zsn zs0)))))
              · refine z_aload_n dX1_paste_26 rfl rfl ?_
                refine z_iload_n dX1_paste_27 rfl rfl ?_
                refine z_iload_n dX1_paste_28 rfl rfl ?_
                refine c_iadd dX1_paste_29 ?_
                refine z_iload_n dX1_paste_30 rfl rfl ?_
                refine z_iload dX1_paste_31 rfl ?_
                refine c_iadd dX1_paste_33 ?_
                refine z_aload_n dX1_paste_34 rfl rfl ?_
                refine z_getR (ci := 3) (kf := 1) dX1_paste_35 hK (by decide) (by decide) rfl w_283 hR ?_
                refine c_iconst dX1_paste_38 ?_
                refine z_iload_n dX1_paste_39 rfl rfl ?_
                refine c_imul dX1_paste_40 ?_
                refine z_iload dX1_paste_41 rfl ?_
                refine c_iadd dX1_paste_43 ?_
                refine c_iald dX1_paste_44 hKe (by omega) (by decide) ?_
                rw [show J1 e (4 * i + j).toNat = J e (4 * i.toNat + j.toNat) by rw [hJ, dput_off (by omega) (by omega)]; congr 1; omega]
                subst hJ
                refine z_callv (N := MX1_set) (ci := 1) (nas := 3) (as := [_, _, _]) dX1_paste_45 w_230 w_398 w_228 w_229 w_4 (by decide +kernel) rfl rfl rfl (by decide) (Nat.le_of_ble_eq_true rfl) (by decide) (by decide) (ZC.mono (cMX1_set (by omega) (by omega)) ?_)
                rintro _ _ ⟨rfl, rfl⟩
                refine c_iinc dX1_paste_48 rfl (by decide) rfl ?_
                refine z_goto (tgt := 20) dX1_paste_51 (by decide) ?_
                exact Z.fg2 (ih20 _ (by omega) _ _ rfl (by omega) (dput_ext (fun q hq => paste_step hF (by omega) (by omega) (by omega) hq))) (zs1 rfl (zs1 rfl (zs1 rfl (zs1 rfl (zs1 rfl zs0)))))
          exact Z.fg2 (L20 _ _ _ rfl (by omega) (by subst hJ; exact dput_ext (fun q hq => ifc (by omega)))) (zs1 rfl (zs1 rfl (zs1 rfl (zs1 rfl (zs1 rfl zs0)))))
  exact Z.fg2 (L2 _ _ _ rfl (by omega) (dput_ext (fun q hq => by rw [if_neg (by omega)]))) (zs1 rfl (zs1 rfl (zs1 rfl (zs1 rfl (zsn zs0)))))
set_option maxHeartbeats 4000000 in
set_option maxRecDepth 100000 in
theorem cMX1_multiply {nl c : Int} {E : Nat → Int} : ZC g l MX1_multiply [.ref 26, .int (iZ c)] (KF Kd, zi (dput J nl E), zj P, RF Rd, n, s0) (fun rr hh => rr = none ∧ hh = (KF Kd, zi (dput J nl (fun q => E q * c)), zj P, RF Rd, n, s0)) := by
  refine ZC.of (by decide) (Nat.le_of_ble_eq_true rfl) ?_
  generalize hQ0 : (fun rr hh => rr = none ∧ hh = (KF Kd, zi (dput J nl (fun q => E q * c)), zj P, RF Rd, n, s0) : Option Value → ZH → Prop) = Q0
  show Z g l MX1_multiply 0 [some (.ref 26), some (.int (iZ c)), none] [] (KF Kd, zi (dput J nl E), zj P, RF Rd, n, s0) Q0
  refine c_iconst dX1_multiply_0 ?_
  refine z_istore_n dX1_multiply_1 rfl (by decide) rfl ?_
  have L2 : ∀ (m2 : Nat), ∀ (i : Int) (J1 : Nat → Nat → Int), (16 - i).toNat = m2 → (0 ≤ i ∧ i ≤ 16) → (J1 = (dput J nl (fun q : Nat => if (q : Int) < i then E q * c else E q))) → Z g l MX1_multiply 2 [some (.ref 26), some (.int (iZ c)), some (.int (iZ i))] [] (KF Kd, zi J1, zj P, RF Rd, n, s0) Q0 := by
    intro m2
    induction m2 using Nat.strongRecOn with
    | ind m2 ih2 =>
      intro i J1 hm2 hi hJ
      refine z_iload_n dX1_multiply_2 rfl rfl ?_
      refine z_aload_n dX1_multiply_3 rfl rfl ?_
      refine z_getR (ci := 1) (kf := 1) dX1_multiply_4 rfl (by decide) (by decide) rfl w_81 rfl ?_
      refine c_alen dX1_multiply_7 rfl (by decide) ?_
      refine c_icmp_ge (tgt := 27) dX1_multiply_8 (by decide) (by omega) (by omega) (fun h8 => ?_) (fun h8 => ?_)
      · refine z_return dX1_multiply_27 rfl ?_
        subst hQ0; refine ⟨rfl, ?_⟩; subst hJ; rw [dput_ext (F := fun q => E q * c) (fun q hq => if_pos (by omega))]
      · refine z_aload_n dX1_multiply_11 rfl rfl ?_
        refine z_getR (ci := 1) (kf := 1) dX1_multiply_12 rfl (by decide) (by decide) rfl w_81 rfl ?_
        refine z_iload_n dX1_multiply_15 rfl rfl ?_
        refine z_dup2 dX1_multiply_16 rfl rfl ?_
        refine c_iald dX1_multiply_17 rfl (by omega) (by decide) ?_
        rw [show J1 27 i.toNat = E i.toNat by rw [hJ, dput_in (by omega), if_neg (by omega)]]
        refine z_iload_n dX1_multiply_18 rfl rfl ?_
        refine c_imul dX1_multiply_19 ?_
        refine c_iast dX1_multiply_20 rfl (by omega) (by decide) ?_
        refine c_iinc dX1_multiply_21 rfl (by decide) rfl ?_
        refine z_goto (tgt := 2) dX1_multiply_24 (by decide) ?_
        exact Z.fg2 (ih2 _ (by omega) _ _ rfl (by omega) (by subst hJ; rw [dput_set (by omega)]; refine dput_ext (fun q hq => ?_); by_cases e2 : q = i.toNat; (subst e2; rw [if_pos rfl, if_pos (by omega)]); (rw [if_neg e2]; exact ifc (by omega)))) (zs1 rfl (zs1 rfl (zs1 rfl zs0)))
  exact Z.fg2 (L2 _ _ _ rfl (by omega) (dput_ext (fun q hq => by rw [if_neg (by omega)]))) (zs1 rfl (zs1 rfl (zs1 rfl zs0)))
set_option maxHeartbeats 4000000 in
set_option maxRecDepth 100000 in
theorem cMX1_exchange {nl i j : Int} {r e : Nat} (hK : (KF Kd r).1 = 13) (hR : RF Rd r 1 = some e) (hKe : KF Kd e = (1, 16)) (hre : 66 ≤ r ∧ 66 ≤ e) (hn : 1 ≤ nl ∧ nl ≤ 4) (hi : 0 ≤ i ∧ i < nl) (hj : 0 ≤ j ∧ j < nl) (hF : symS (J e)) : ZC g l MX1_exchange [.ref 26, .ref r, .int (iZ i), .int (iZ j)] (KF Kd, zi (dput J nl (J e)), zj P, RF Rd, n, s0) (fun rr hh => rr = none ∧ hh = (KF Kd, zi (dput J nl (swpE (J e) nl.toNat i.toNat j.toNat)), zj P, RF Rd, n, s0)) := by
  refine ZC.of (by decide) (Nat.le_of_ble_eq_true rfl) ?_
  generalize hQ0 : (fun rr hh => rr = none ∧ hh = (KF Kd, zi (dput J nl (swpE (J e) nl.toNat i.toNat j.toNat)), zj P, RF Rd, n, s0) : Option Value → ZH → Prop) = Q0
  show Z g l MX1_exchange 0 [some (.ref 26), some (.ref r), some (.int (iZ i)), some (.int (iZ j)), none, none, none, none] [] (KF Kd, zi (dput J nl (J e)), zj P, RF Rd, n, s0) Q0
  refine c_iconst dX1_exchange_0 ?_
  refine z_istore dX1_exchange_1 (by decide) rfl ?_
  have L3 : ∀ (m3 : Nat), ∀ (k : Int) (J1 : Nat → Nat → Int), (nl - k).toNat = m3 → (0 ≤ k ∧ k ≤ nl) → (J1 = (dput J nl (fun q : Nat => if q / 4 < nl.toNat ∧ q % 4 < nl.toNat ∧ (((q / 4 : Nat) : Int) < k ∧ ((q % 4 : Nat) : Int) < k) then J e (4 * swi i.toNat j.toNat (q / 4) + swi i.toNat j.toNat (q % 4)) else J e q))) → Z g l MX1_exchange 3 [some (.ref 26), some (.ref r), some (.int (iZ i)), some (.int (iZ j)), some (.int (iZ k)), none, none, none] [] (KF Kd, zi J1, zj P, RF Rd, n, s0) Q0 := by
    intro m3
    induction m3 using Nat.strongRecOn with
    | ind m3 ih3 =>
      intro k J1 hm3 hk hJ
      refine z_iload dX1_exchange_3 rfl ?_
      refine z_aload_n dX1_exchange_5 rfl rfl ?_
      refine c_getI (ci := 1) (kf := 0) dX1_exchange_6 rfl (by decide) (by decide) rfl w_78 ?_
      rw [show J1 26 0 = nl by rw [hJ, dput_let]]
      refine c_icmp_ge (tgt := 102) dX1_exchange_9 (by decide) (by omega) (by omega) (fun h9 => ?_) (fun h9 => ?_)
      · refine z_return dX1_exchange_102 rfl ?_
        subst hQ0; refine ⟨rfl, ?_⟩; subst hJ; rw [dput_ext (F := swpE (J e) nl.toNat i.toNat j.toNat) (fun q hq => ifc (by omega))]
      · have L34 : ∀ (a : Int), (0 ≤ a ∧ a < 4) → (a.toNat = swi i.toNat j.toNat k.toNat) → Z g l MX1_exchange 34 [some (.ref 26), some (.ref r), some (.int (iZ i)), some (.int (iZ j)), some (.int (iZ k)), none, none, none] [.int (iZ a)] (KF Kd, zi J1, zj P, RF Rd, n, s0) Q0 := by
          intro a ha hA
          refine z_istore dX1_exchange_34 (by decide) rfl ?_
          refine c_iconst dX1_exchange_36 ?_
          refine z_istore dX1_exchange_37 (by decide) rfl ?_
          have L39 : ∀ (m39 : Nat), ∀ (m : Int) (J1 : Nat → Nat → Int), (k + 1 - m).toNat = m39 → (0 ≤ m ∧ m ≤ k + 1) → (J1 = (dput J nl (fun q : Nat => if q / 4 < nl.toNat ∧ q % 4 < nl.toNat ∧ ((((q / 4 : Nat) : Int) < k ∧ ((q % 4 : Nat) : Int) < k) ∨ (((q / 4 : Nat) : Int) = k ∧ ((q % 4 : Nat) : Int) < m) ∨ (((q % 4 : Nat) : Int) = k ∧ ((q / 4 : Nat) : Int) < m)) then J e (4 * swi i.toNat j.toNat (q / 4) + swi i.toNat j.toNat (q % 4)) else J e q))) → Z g l MX1_exchange 39 [some (.ref 26), some (.ref r), some (.int (iZ i)), some (.int (iZ j)), some (.int (iZ k)), some (.int (iZ a)), some (.int (iZ m)), none] [] (KF Kd, zi J1, zj P, RF Rd, n, s0) Q0 := by
            intro m39
            induction m39 using Nat.strongRecOn with
            | ind m39 ih39 =>
              intro m J1 hm39 hm hJ
              refine z_iload dX1_exchange_39 rfl ?_
              refine z_iload dX1_exchange_41 rfl ?_
              refine c_icmp_gt (tgt := 96) dX1_exchange_43 (by decide) (by omega) (by omega) (fun h43 => ?_) (fun h43 => ?_)
              · refine c_iinc dX1_exchange_96 rfl (by decide) rfl ?_
                refine z_goto (tgt := 3) dX1_exchange_99 (by decide) ?_
                exact Z.fg2 (ih3 _ (by omega) _ _ rfl (by omega) (by subst hJ; exact dput_ext (fun q hq => ifc (by omega)))) (zs1 rfl (zs1 rfl (zs1 rfl (zs1 rfl (zs1 rfl (zsn (zsn (zsn zs0))))))))
              · have L68 : ∀ (b : Int), (0 ≤ b ∧ b < 4) → (b.toNat = swi i.toNat j.toNat m.toNat) → Z g l MX1_exchange 68 [some (.ref 26), some (.ref r), some (.int (iZ i)), some (.int (iZ j)), some (.int (iZ k)), some (.int (iZ a)), some (.int (iZ m)), none] [.int (iZ b)] (KF Kd, zi J1, zj P, RF Rd, n, s0) Q0 := by
                  intro b hbb hB
                  refine z_istore dX1_exchange_68 (by decide) rfl ?_
                  refine z_aload_n dX1_exchange_70 rfl rfl ?_
                  refine z_iload dX1_exchange_71 rfl ?_
                  refine z_iload dX1_exchange_73 rfl ?_
                  refine z_aload_n dX1_exchange_75 rfl rfl ?_
                  refine z_getR (ci := 3) (kf := 1) dX1_exchange_76 hK (by decide) (by decide) rfl w_283 hR ?_
                  refine c_iconst dX1_exchange_79 ?_
                  refine z_iload dX1_exchange_80 rfl ?_
                  refine c_imul dX1_exchange_82 ?_
                  refine z_iload dX1_exchange_83 rfl ?_
                  refine c_iadd dX1_exchange_85 ?_
                  refine c_iald dX1_exchange_86 hKe (by omega) (by decide) ?_
                  rw [show J1 e (4 * a + b).toNat = J e (4 * a.toNat + b.toNat) by rw [hJ, dput_off (by omega) (by omega)]; congr 1; omega]
                  subst hJ
                  refine z_callv (N := MX1_set) (ci := 1) (nas := 3) (as := [_, _, _]) dX1_exchange_87 w_230 w_398 w_228 w_229 w_4 (by decide +kernel) rfl rfl rfl (by decide) (Nat.le_of_ble_eq_true rfl) (by decide) (by decide) (ZC.mono (cMX1_set (by omega) (by omega)) ?_)
                  rintro _ _ ⟨rfl, rfl⟩
                  refine c_iinc dX1_exchange_90 rfl (by decide) rfl ?_
                  refine z_goto (tgt := 39) dX1_exchange_93 (by decide) ?_
                  exact Z.fg2 (ih39 _ (by omega) _ _ rfl (by omega) (dput_ext (fun q hq => exch_step hF hn hi hj (by omega) (by omega) hA hB hq))) (zs1 rfl (zs1 rfl (zs1 rfl (zs1 rfl (zs1 rfl (zs1 rfl (zs1 rfl (zsn zs0))))))))
                refine z_iload dX1_exchange_46 rfl ?_
                refine z_iload_n dX1_exchange_48 rfl rfl ?_
                refine c_icmp_ne (tgt := 56) dX1_exchange_49 (by decide) (by omega) (by omega) (fun h49 => ?_) (fun h49 => ?_)
                · refine z_iload dX1_exchange_56 rfl ?_
                  refine z_iload_n dX1_exchange_58 rfl rfl ?_
                  refine c_icmp_ne (tgt := 66) dX1_exchange_59 (by decide) (by omega) (by omega) (fun h59 => ?_) (fun h59 => ?_)
                  · refine z_iload dX1_exchange_66 rfl ?_
                    exact Z.fg2 (L68 _ (by omega) (by unfold swi; first | rw [if_pos (by omega)] | rw [if_neg (by omega), if_pos (by omega)] | rw [if_neg (by omega), if_neg (by omega)])) (zs1 rfl (zs1 rfl (zs1 rfl (zs1 rfl (zs1 rfl (zs1 rfl (zs1 rfl (zsn zs0))))))))
                  · refine z_iload_n dX1_exchange_62 rfl rfl ?_
                    refine z_goto (tgt := 68) dX1_exchange_63 (by decide) ?_
                    exact Z.fg2 (L68 _ (by omega) (by unfold swi; first | rw [if_pos (by omega)] | rw [if_neg (by omega), if_pos (by omega)] | rw [if_neg (by omega), if_neg (by omega)])) (zs1 rfl (zs1 rfl (zs1 rfl (zs1 rfl (zs1 rfl (zs1 rfl (zs1 rfl (zsn zs0))))))))
                · refine z_iload_n dX1_exchange_52 rfl rfl ?_
                  refine z_goto (tgt := 68) dX1_exchange_53 (by decide) ?_
                  exact Z.fg2 (L68 _ (by omega) (by unfold swi; first | rw [if_pos (by omega)] | rw [if_neg (by omega), if_pos (by omega)] | rw [if_neg (by omega), if_neg (by omega)])) (zs1 rfl (zs1 rfl (zs1 rfl (zs1 rfl (zs1 rfl (zs1 rfl (zs1 rfl (zsn zs0))))))))
          exact Z.fg2 (L39 _ _ _ rfl (by omega) (by subst hJ; exact dput_ext (fun q hq => ifc (by omega)))) (zs1 rfl (zs1 rfl (zs1 rfl (zs1 rfl (zs1 rfl (zs1 rfl (zs1 rfl (zsn zs0))))))))
        refine z_iload dX1_exchange_12 rfl ?_
        refine z_iload_n dX1_exchange_14 rfl rfl ?_
        refine c_icmp_ne (tgt := 22) dX1_exchange_15 (by decide) (by omega) (by omega) (fun h15 => ?_) (fun h15 => ?_)
        · refine z_iload dX1_exchange_22 rfl ?_
          refine z_iload_n dX1_exchange_24 rfl rfl ?_
          refine c_icmp_ne (tgt := 32) dX1_exchange_25 (by decide) (by omega) (by omega) (fun h25 => ?_) (fun h25 => ?_)
          · refine z_iload dX1_exchange_32 rfl ?_
            exact Z.fg2 (L34 _ (by omega) (by unfold swi; first | rw [if_pos (by omega)] | rw [if_neg (by omega), if_pos (by omega)] | rw [if_neg (by omega), if_neg (by omega)])) (zs1 rfl (zs1 rfl (zs1 rfl (zs1 rfl (zs1 rfl (zsn (zsn (zsn zs0))))))))
          · refine z_iload_n dX1_exchange_28 rfl rfl ?_
            refine z_goto (tgt := 34) dX1_exchange_29 (by decide) ?_
            exact Z.fg2 (L34 _ (by omega) (by unfold swi; first | rw [if_pos (by omega)] | rw [if_neg (by omega), if_pos (by omega)] | rw [if_neg (by omega), if_neg (by omega)])) (zs1 rfl (zs1 rfl (zs1 rfl (zs1 rfl (zs1 rfl (zsn (zsn (zsn zs0))))))))
        · refine z_iload_n dX1_exchange_18 rfl rfl ?_
          refine z_goto (tgt := 34) dX1_exchange_19 (by decide) ?_
          exact Z.fg2 (L34 _ (by omega) (by unfold swi; first | rw [if_pos (by omega)] | rw [if_neg (by omega), if_pos (by omega)] | rw [if_neg (by omega), if_neg (by omega)])) (zs1 rfl (zs1 rfl (zs1 rfl (zs1 rfl (zs1 rfl (zsn (zsn (zsn zs0))))))))
  exact Z.fg2 (L3 _ _ _ rfl (by omega) (dput_ext (fun q hq => by rw [if_neg (by omega)]))) (zs1 rfl (zs1 rfl (zs1 rfl (zs1 rfl (zs1 rfl (zsn (zsn (zsn zs0))))))))
set_option maxHeartbeats 4000000 in
set_option maxRecDepth 100000 in
theorem cMX1_addLetter {i j c nl : Int} {E : Nat → Int} (hn : 1 ≤ nl ∧ nl ≤ 4) (hi : 0 ≤ i ∧ i < nl) (hj : 0 ≤ j ∧ j < nl) (hij : ¬ i = j) : ZC g l MX1_addLetter [.ref 26, .int (iZ i), .int (iZ j), .int (iZ c)] (KF Kd, zi (dput J nl E), zj P, RF Rd, n, s0) (fun rr hh => rr = none ∧ hh = (KF Kd, zi (dput J nl (chgE E nl.toNat i.toNat j.toNat c)), zj P, RF Rd, n, s0)) := by
  refine ZC.of (by decide) (Nat.le_of_ble_eq_true rfl) ?_
  generalize hQ0 : (fun rr hh => rr = none ∧ hh = (KF Kd, zi (dput J nl (chgE E nl.toNat i.toNat j.toNat c)), zj P, RF Rd, n, s0) : Option Value → ZH → Prop) = Q0
  show Z g l MX1_addLetter 0 [some (.ref 26), some (.int (iZ i)), some (.int (iZ j)), some (.int (iZ c)), none, none] [] (KF Kd, zi (dput J nl E), zj P, RF Rd, n, s0) Q0
  refine z_aload_n dX1_addLetter_0 rfl rfl ?_
  refine z_iload_n dX1_addLetter_1 rfl rfl ?_
  refine z_iload_n dX1_addLetter_2 rfl rfl ?_
  refine z_callv (N := MX1_get) (ci := 1) (nas := 2) (as := [_, _]) dX1_addLetter_3 w_250 w_247 w_248 w_249 w_4 (by decide +kernel) rfl rfl rfl (by decide) (Nat.le_of_ble_eq_true rfl) (by decide) (by decide) (ZC.mono (cMX1_get (by omega) (by omega)) ?_)
  rintro _ _ ⟨rfl, rfl⟩
  refine c_iconst dX1_addLetter_6 ?_
  refine z_iload_n dX1_addLetter_7 rfl rfl ?_
  refine c_imul dX1_addLetter_8 ?_
  refine z_aload_n dX1_addLetter_9 rfl rfl ?_
  refine z_iload_n dX1_addLetter_10 rfl rfl ?_
  refine z_iload_n dX1_addLetter_11 rfl rfl ?_
  refine z_callv (N := MX1_get) (ci := 1) (nas := 2) (as := [_, _]) dX1_addLetter_12 w_250 w_247 w_248 w_249 w_4 (by decide +kernel) rfl rfl rfl (by decide) (Nat.le_of_ble_eq_true rfl) (by decide) (by decide) (ZC.mono (cMX1_get (by omega) (by omega)) ?_)
  rintro _ _ ⟨rfl, rfl⟩
  refine c_imul dX1_addLetter_15 ?_
  refine c_iadd dX1_addLetter_16 ?_
  refine z_iload_n dX1_addLetter_17 rfl rfl ?_
  refine z_iload_n dX1_addLetter_18 rfl rfl ?_
  refine c_imul dX1_addLetter_19 ?_
  refine z_aload_n dX1_addLetter_20 rfl rfl ?_
  refine z_iload_n dX1_addLetter_21 rfl rfl ?_
  refine z_iload_n dX1_addLetter_22 rfl rfl ?_
  refine z_callv (N := MX1_get) (ci := 1) (nas := 2) (as := [_, _]) dX1_addLetter_23 w_250 w_247 w_248 w_249 w_4 (by decide +kernel) rfl rfl rfl (by decide) (Nat.le_of_ble_eq_true rfl) (by decide) (by decide) (ZC.mono (cMX1_get (by omega) (by omega)) ?_)
  rintro _ _ ⟨rfl, rfl⟩
  refine c_imul dX1_addLetter_26 ?_
  refine c_iadd dX1_addLetter_27 ?_
  refine z_istore dX1_addLetter_28 (by decide) rfl ?_
  refine c_iconst dX1_addLetter_30 ?_
  refine z_istore dX1_addLetter_31 (by decide) rfl ?_
  have L33 : ∀ (m33 : Nat), ∀ (k : Int) (J1 : Nat → Nat → Int), (nl - k).toNat = m33 → (0 ≤ k ∧ k ≤ nl) → (J1 = dput J nl (chgK E i.toNat j.toNat c k.toNat)) → Z g l MX1_addLetter 33 [some (.ref 26), some (.int (iZ i)), some (.int (iZ j)), some (.int (iZ c)), some (.int (iZ (E (4 * i.toNat + i.toNat) + 2 * c * E (4 * i.toNat + j.toNat) + c * c * E (4 * j.toNat + j.toNat)))), some (.int (iZ k))] [] (KF Kd, zi J1, zj P, RF Rd, n, s0) Q0 := by
    intro m33
    induction m33 using Nat.strongRecOn with
    | ind m33 ih33 =>
      intro k J1 hm33 hk hJ
      subst hJ
      refine z_iload dX1_addLetter_33 rfl ?_
      refine z_aload_n dX1_addLetter_35 rfl rfl ?_
      refine c_getI (ci := 1) (kf := 0) dX1_addLetter_36 rfl (by decide) (by decide) rfl w_78 ?_
      rw [dput_let]
      refine c_icmp_ge (tgt := 78) dX1_addLetter_39 (by decide) (by omega) (by omega) (fun h39 => ?_) (fun h39 => ?_)
      · rw [show k.toNat = nl.toNat by omega]
        refine z_aload_n dX1_addLetter_78 rfl rfl ?_
        refine z_iload_n dX1_addLetter_79 rfl rfl ?_
        refine z_iload_n dX1_addLetter_80 rfl rfl ?_
        refine z_iload dX1_addLetter_81 rfl ?_
        refine z_callv (N := MX1_set) (ci := 1) (nas := 3) (as := [_, _, _]) dX1_addLetter_83 w_230 w_398 w_228 w_229 w_4 (by decide +kernel) rfl rfl rfl (by decide) (Nat.le_of_ble_eq_true rfl) (by decide) (by decide) (ZC.mono (cMX1_set (by omega) (by omega)) ?_)
        rintro _ _ ⟨rfl, rfl⟩
        refine z_return dX1_addLetter_86 rfl ?_
        subst hQ0; exact ⟨rfl, rfl⟩
      · refine z_iload dX1_addLetter_42 rfl ?_
        refine z_iload_n dX1_addLetter_44 rfl rfl ?_
        refine c_icmp_eq (tgt := 72) dX1_addLetter_45 (by decide) (by omega) (by omega) (fun h45 => ?_) (fun h45 => ?_)
        · refine c_iinc dX1_addLetter_72 rfl (by decide) rfl ?_
          refine z_goto (tgt := 33) dX1_addLetter_75 (by decide) ?_
          exact Z.fg2 (ih33 _ (by omega) _ _ rfl (by omega) (by rw [show (k + 1).toNat = k.toNat + 1 by omega]; first | exact dput_ext (chgK_step (by omega) (by omega) (by omega)) | exact dput_ext (fun q _ => by rw [show k.toNat = i.toNat by omega]; exact (chgK_skip q).symm))) (zs1 rfl (zs1 rfl (zs1 rfl (zs1 rfl (zs1 rfl (zs1 rfl zs0))))))
        · refine z_aload_n dX1_addLetter_48 rfl rfl ?_
          refine z_iload_n dX1_addLetter_49 rfl rfl ?_
          refine z_iload dX1_addLetter_50 rfl ?_
          refine z_aload_n dX1_addLetter_52 rfl rfl ?_
          refine z_iload_n dX1_addLetter_53 rfl rfl ?_
          refine z_iload dX1_addLetter_54 rfl ?_
          refine z_callv (N := MX1_get) (ci := 1) (nas := 2) (as := [_, _]) dX1_addLetter_56 w_250 w_247 w_248 w_249 w_4 (by decide +kernel) rfl rfl rfl (by decide) (Nat.le_of_ble_eq_true rfl) (by decide) (by decide) (ZC.mono (cMX1_get (by omega) (by omega)) ?_)
          rintro _ _ ⟨rfl, rfl⟩
          rw [(chgK_at (E := E) (i := i.toNat) (j := j.toNat) (k := k.toNat) (c := c) (by omega) (by omega) (by omega)).1]
          refine z_iload_n dX1_addLetter_59 rfl rfl ?_
          refine z_aload_n dX1_addLetter_60 rfl rfl ?_
          refine z_iload_n dX1_addLetter_61 rfl rfl ?_
          refine z_iload dX1_addLetter_62 rfl ?_
          refine z_callv (N := MX1_get) (ci := 1) (nas := 2) (as := [_, _]) dX1_addLetter_64 w_250 w_247 w_248 w_249 w_4 (by decide +kernel) rfl rfl rfl (by decide) (Nat.le_of_ble_eq_true rfl) (by decide) (by decide) (ZC.mono (cMX1_get (by omega) (by omega)) ?_)
          rintro _ _ ⟨rfl, rfl⟩
          rw [(chgK_at (E := E) (i := i.toNat) (j := j.toNat) (k := k.toNat) (c := c) (by omega) (by omega) (by omega)).2]
          refine c_imul dX1_addLetter_67 ?_
          refine c_iadd dX1_addLetter_68 ?_
          refine z_callv (N := MX1_set) (ci := 1) (nas := 3) (as := [_, _, _]) dX1_addLetter_69 w_230 w_398 w_228 w_229 w_4 (by decide +kernel) rfl rfl rfl (by decide) (Nat.le_of_ble_eq_true rfl) (by decide) (by decide) (ZC.mono (cMX1_set (by omega) (by omega)) ?_)
          rintro _ _ ⟨rfl, rfl⟩
          refine c_iinc dX1_addLetter_72 rfl (by decide) rfl ?_
          refine z_goto (tgt := 33) dX1_addLetter_75 (by decide) ?_
          exact Z.fg2 (ih33 _ (by omega) _ _ rfl (by omega) (by rw [show (k + 1).toNat = k.toNat + 1 by omega]; first | exact dput_ext (chgK_step (by omega) (by omega) (by omega)) | exact dput_ext (fun q _ => by rw [show k.toNat = i.toNat by omega]; exact (chgK_skip q).symm))) (zs1 rfl (zs1 rfl (zs1 rfl (zs1 rfl (zs1 rfl (zs1 rfl zs0))))))
  exact Z.fg2 (L33 _ _ _ rfl (by omega) (by rw [show (0 : Int).toNat = 0 from rfl, chgK_0])) (zs1 rfl (zs1 rfl (zs1 rfl (zs1 rfl (zs1 rfl (zs1 rfl zs0))))))
end Cls2
