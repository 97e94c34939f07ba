section Cls16
variable {g : ZG} {l : Launch} {Kd : ZK} {Rd : ZR} {n s0 c : Nat} {A J P : Nat → Nat → Int}
theorem zuA_ne {α : Type} {I : Nat → Nat → α} {r a : Nat} {f : Nat → α} (h : a ≠ r) : zupA I r f a = I a := by show (if a = r then _ else _) = _; rw [if_neg h]
theorem zuA_eq {α : Type} {I : Nat → Nat → α} {r : Nat} {f : Nat → α} : zupA I r f r = f := by show (if r = r then _ else _) = _; rw [if_pos rfl]
/-- counts and firsts of what was seen -/
def TkC (J : Nat → Nat → Int) (nl : Int) (E : Nat → Int) (L : List V4) (c f : Nat) : Prop := ∀ m : Nat, m ≤ 100 → J c m = (if m = 0 then 1 else 2) * cntL E L m ∧ (0 < cntL E L m → ∀ j : Nat, (j : Int) < nl → J f (nl.toNat * m + j) = vAt (fstL E L m) j)
section Tk
variable {nl k : Int} {E : Nat → Int} {L : List V4} {v : V4} {f : Nat} {J' : Nat → Nat → Int}
theorem vAt_fv {j : Nat} (hj : j < 4) : vAt v (j : Int) = fv v j := by
  rcases (show j = 0 ∨ j = 1 ∨ j = 2 ∨ j = 3 by omega) with rfl | rfl | rfl | rfl <;> rfl
theorem TkC_bd {m : Nat} (h : TkC J nl E L c f) (hl : L.length ≤ 1000000) (hm : m ≤ 100) : 0 ≤ J c m ∧ J c m ≤ 2000000 := by
  have b := cntL_bd E L m
  rw [(h m hm).1]
  split <;> omega
theorem TkC_step (h : TkC J nl E L c f) (hn : 1 ≤ nl ∧ nl ≤ 4) (hw : 0 ≤ wv E v ∧ wv E v ≤ 100) (hc : J' c = upx (J c) (wv E v).toNat (J c (wv E v).toNat + if wv E v = 0 then 1 else 2)) (hf1 : J c (wv E v).toNat ≠ 0 → J' f = J f) (hf2 : J c (wv E v).toNat = 0 → ∀ q, J' f q = if nl.toNat * (wv E v).toNat ≤ q ∧ q < nl.toNat * (wv E v).toNat + nl.toNat then fv v (q - nl.toNat * (wv E v).toNat) else J f q) : TkC J' nl E (L ++ [v]) c f := by
  intro m hm
  have hh := h m hm
  rw [cntL_app, hc]
  by_cases e : wv E v = m
  · have em : (wv E v).toNat = m := by omega
    rw [if_pos e, em, upx_eq]
    refine ⟨?_, fun _ j hj => ?_⟩
    · rw [hh.1, e]
      by_cases m0 : m = 0
      · rw [if_pos m0, if_pos (by omega)]; omega
      · rw [if_neg m0, if_neg (by omega)]; omega
    · by_cases z : cntL E L m = 0
      · have z2 : J c (wv E v).toNat = 0 := by rw [em, hh.1, z]; exact Int.mul_zero _
        rw [hf2 z2, em, if_pos (by omega), show nl.toNat * m + j - nl.toNat * m = j by omega, vAt_fv (by omega), ← e, fstL_app_new (by rw [e]; exact z)]
      · have p : 0 < cntL E L m := by have := (cntL_bd E L m).1; omega
        have z2 : J c (wv E v).toNat ≠ 0 := by rw [em, hh.1]; split <;> omega
        rw [hf1 z2, fstL_app_old p]; exact hh.2 p j hj
  · rw [if_neg e, Int.add_zero, upx_ne (by omega)]
    refine ⟨hh.1, fun p j hj => ?_⟩
    rw [fstL_app_old p, ← hh.2 p j hj]
    by_cases z : J c (wv E v).toNat = 0
    · rw [hf2 z, if_neg]
      have : m ≠ (wv E v).toNat := by omega
      generalize (wv E v).toNat = w at *
      rcases (show nl = 1 ∨ nl = 2 ∨ nl = 3 ∨ nl = 4 by omega) with rfl | rfl | rfl | rfl <;> (simp only [show (1 : Int).toNat = 1 from rfl, show (2 : Int).toNat = 2 from rfl, show (3 : Int).toNat = 3 from rfl, show (4 : Int).toNat = 4 from rfl]; omega)
    · rw [hf1 z]
theorem TkC_old (h : TkC J nl E L c f) (hn : 1 ≤ nl ∧ nl ≤ 4) (hcf : f ≠ c) (hw : 0 ≤ wv E v ∧ wv E v ≤ 100) (hk : k = if wv E v = 0 then 1 else 2) (h0 : J c (wv E v).toNat ≠ 0) : TkC (zup J c (wv E v).toNat (J c (wv E v).toNat + k)) nl E (L ++ [v]) c f :=
  TkC_step h hn hw (by rw [zup_row, hk]) (fun _ => zup_ne hcf) (fun z => absurd z h0)
theorem TkC_new {x : Nat → Int} (h : TkC J nl E L c f) (hn : 1 ≤ nl ∧ nl ≤ 4) (hcf : f ≠ c) (hw : 0 ≤ wv E v ∧ wv E v ≤ 100) (hk : k = if wv E v = 0 then 1 else 2) (h0 : J c (wv E v).toNat = 0) (hv : v = tupN nl.toNat x) : TkC (zup (zupA J f (va_cpy x (J f) (0 : Int).toNat (nl * wv E v).toNat nl.toNat)) c (wv E v).toNat (zupA J f (va_cpy x (J f) (0 : Int).toNat (nl * wv E v).toNat nl.toNat) c (wv E v).toNat + k)) nl E (L ++ [v]) c f := by
  refine TkC_step h hn hw (by rw [zup_row, hk, zuA_ne (Ne.symm hcf)]) (fun z => absurd h0 z) (fun _ q => ?_)
  rw [zup_ne hcf, zuA_eq]
  have e : (nl * wv E v).toNat = nl.toNat * (wv E v).toNat := by
    rw [Int.toNat_mul (by omega) (by omega)]
  unfold va_cpy
  rw [e]
  by_cases q1 : nl.toNat * (wv E v).toNat ≤ q ∧ q < nl.toNat * (wv E v).toNat + nl.toNat
  · rw [if_pos q1, if_pos q1]
    generalize nl.toNat * (wv E v).toNat = u at *
    have := fv_tup (x := x) (n := nl.toNat) (by omega) (j := q - u) (by omega)
    rw [← hv] at this
    rw [this, show (0 : Int).toNat = 0 from rfl, Nat.zero_add]
  · rw [if_neg q1, if_neg q1]
theorem TkC_nil (h : ∀ q, J c q = 0) : TkC J nl E [] c f := fun m _ => ⟨by rw [h]; show (0 : Int) = _ * 0; rw [Int.mul_zero], fun z => absurd z (by show ¬ (0 : Int) < 0; decide)⟩
theorem TkC_end (hn : 1 ≤ nl) (hO : okF nl E) (h : TkC J nl E (hlf nl E 100) c f) : TkV J nl E c f := by
  intro m hm
  have a := hlf_cnt (tp := 100) hn hO (by omega) (m := m) (by omega)
  have b := h m hm
  refine ⟨by rw [a.1]; exact b.1, fun p j hj => ?_⟩
  rw [a.2]
  refine b.2 ?_ j hj
  rw [a.1] at p
  split at p <;> omega
theorem TkC_mv (h : TkC J nl E L c f) (hc : J' c = J c) (hf : J' f = J f) : TkC J' nl E L c f := by unfold TkC at h ⊢; rw [hc, hf]; exact h
theorem EI_cells {e : EP} {q : Int} (h : EI e J P q) (h1 : J' 30 = J 30) (h2 : J' 35 = J 35) (h3 : J' 36 = J 36) : EI e J' P q := by
  unfold EI at h ⊢; rw [h1, h2, h3]; exact h
end Tk
set_option maxHeartbeats 4000000 in
set_option maxRecDepth 100000 in
theorem cMX6_init {t r ee : Nat} {nl : Int} {E : Nat → Int} (hn : 1 ≤ nl) (hO : okF nl E) (hK : (KF Kd t).1 = 16) (ht : 66 ≤ t ∧ t < n) (hKr : (KF Kd r).1 = 13) (hr : 66 ≤ r ∧ r < n ∧ r ≠ t) (hRr : RF Rd r 1 = some ee) (hKe : KF Kd ee = (1, 16)) (he : 66 ≤ ee ∧ ee < n) (hl : J r 0 = nl) (hE : J ee = E) : ZC g l MX6_init [.ref t, .ref r, .ref 30] (KF Kd, zi J, zj P, RF Rd, n, s0) (fun rr hh => rr = none ∧ ∃ J' P' : Nat → Nat → Int, hh = (KF (zkp (zkp Kd n (1, 101)) (n + 1) (1, (nl * 101).toNat)), zi J', zj P', RF (zup (zup Rd t 0 (some n)) t 1 (some (n + 1))), n + 2, s0 + 101 + (nl * 101).toNat) ∧ TkV J' nl E n (n + 1) ∧ (∀ a, a ≠ n → a ≠ n + 1 → a ≠ 30 → a ≠ 35 → a ≠ 36 → J' a = J a) ∧ ∀ a, a ≠ 31 → a ≠ 32 → a ≠ 33 → a ≠ 34 → P' a = P a) := by
  refine ZC.of (by decide) (Nat.le_of_ble_eq_true rfl) ?_
  generalize hQ0 : (fun rr hh => rr = none ∧ ∃ J' P' : Nat → Nat → Int, hh = (KF (zkp (zkp Kd n (1, 101)) (n + 1) (1, (nl * 101).toNat)), zi J', zj P', RF (zup (zup Rd t 0 (some n)) t 1 (some (n + 1))), n + 2, s0 + 101 + (nl * 101).toNat) ∧ TkV J' nl E n (n + 1) ∧ (∀ a, a ≠ n → a ≠ n + 1 → a ≠ 30 → a ≠ 35 → a ≠ 36 → J' a = J a) ∧ ∀ a, a ≠ 31 → a ≠ 32 → a ≠ 33 → a ≠ 34 → P' a = P a : Option Value → ZH → Prop) = Q0
  show Z g l MX6_init 0 [some (.ref t), some (.ref r), some (.ref 30), none, none, none] [] (KF Kd, zi J, zj P, RF Rd, n, s0) Q0
  have h4 := hO.1
  have hok := eW_ok (tp := 100) hn hO (by omega)
  have hlen := hlf_len (tp := 100) hn hO (by omega)
  refine z_aload_n dX6_init_0 rfl rfl ?_
  refine z_objInit dX6_init_1 w_451 w_20 w_21 (by decide) (Nat.le_of_ble_eq_true rfl) ?_
  refine z_aload_n dX6_init_4 rfl rfl ?_
  refine c_bipush dX6_init_5 (by decide) ?_
  refine c_newi dX6_init_7 w_51 (by omega) ?_
  rw [KF_kp (by omega)]
  have k1 : (KF (zkp Kd n (1, 101)) t).1 = 16 := by rw [KF_zk (by omega)]; exact hK
  have kr1 : (KF (zkp Kd n (1, 101)) r).1 = 13 := by rw [KF_zk (by omega)]; exact hKr
  refine z_putR (ci := 6) (kf := 0) dX6_init_9 k1 (by decide) (by decide) rfl (by decide) (fun _ => rfl) (fun _ => rfl) w_483 ?_
  rw [RF_up (Or.inr (by omega))]
  refine z_aload_n dX6_init_12 rfl rfl ?_
  refine c_getI (ci := 3) (kf := 0) dX6_init_13 kr1 (by decide) (by decide) rfl w_275 ?_
  rw [show zupA J n (fun _ => 0) r 0 = nl by rw [zuA_ne (by omega)]; exact hl]
  refine z_istore_n dX6_init_16 rfl (by decide) rfl ?_
  refine z_aload_n dX6_init_17 rfl rfl ?_
  refine z_iload_n dX6_init_18 rfl rfl ?_
  refine c_bipush dX6_init_19 (by decide) ?_
  refine c_imul dX6_init_21 ?_
  refine c_newi dX6_init_22 w_51 (by omega) ?_
  rw [KF_kp (by omega)]
  have k2 : (KF (zkp (zkp Kd n (1, 101)) (n + 1) (1, (nl * 101).toNat)) t).1 = 16 := by rw [KF_zk (by omega)]; exact k1
  have kr2 : (KF (zkp (zkp Kd n (1, 101)) (n + 1) (1, (nl * 101).toNat)) r).1 = 13 := by rw [KF_zk (by omega)]; exact kr1
  have kc : KF (zkp (zkp Kd n (1, 101)) (n + 1) (1, (nl * 101).toNat)) n = (1, 101) := by rw [KF_zk (by omega), KF_dyn (by omega), zkp_eq]
  have kf : KF (zkp (zkp Kd n (1, 101)) (n + 1) (1, (nl * 101).toNat)) (n + 1) = (1, (nl * 101).toNat) := by rw [KF_dyn (by omega), zkp_eq]
  have ke : KF (zkp (zkp Kd n (1, 101)) (n + 1) (1, (nl * 101).toNat)) ee = (1, 16) := by rw [KF_zk (by omega), KF_zk (by omega)]; exact hKe
  have r0 : RF (zup (zup Rd t 0 (some n)) t 1 (some (n + 1))) t 0 = some n := by rw [RF_dyn (by omega), zzi (by decide), zz]
  have r1 : RF (zup (zup Rd t 0 (some n)) t 1 (some (n + 1))) t 1 = some (n + 1) := by rw [RF_dyn (by omega), zz]
  have rr2 : RF (zup (zup Rd t 0 (some n)) t 1 (some (n + 1))) r 1 = some ee := by rw [RF_dyn hr.1, zzr hr.2.2, zzr hr.2.2]; rw [RF_dyn hr.1] at hRr; exact hRr
  have hE9 : ∀ k, k < 16 → zupA (zupA J n (fun _ => 0)) (n + 1) (fun _ => 0) ee k = E k := fun k _ => by rw [zuA_ne (by omega), zuA_ne (by omega), hE]
  refine z_putR (ci := 6) (kf := 1) dX6_init_24 k2 (by decide) (by decide) rfl (by decide) (fun _ => rfl) (fun _ => rfl) w_485 ?_
  rw [RF_up (Or.inr (by omega))]
  refine z_aload_n dX6_init_27 rfl rfl ?_
  refine z_iload_n dX6_init_28 rfl rfl ?_
  refine z_aload_n dX6_init_29 rfl rfl ?_
  refine z_getR (ci := 3) (kf := 1) dX6_init_30 kr2 (by decide) (by decide) rfl w_282 rr2 ?_
  refine c_bipush dX6_init_33 (by decide) ?_
  refine z_callv (N := MX2_openWorths) (ci := 2) (nas := 3) (as := [_, _, _]) dX6_init_35 w_455 w_452 w_453 w_454 w_5 (by decide +kernel) rfl rfl rfl (by decide) (Nat.le_of_ble_eq_true rfl) (by decide) (by decide) (ZC.mono (cMX2_openWorths (nl := nl) (tp := 100) (E := E) (ee := ee) hn hO (by omega) ke (by omega) hE9) ?_)
  rintro _ _ ⟨rfl, J9, P9, rfl, hE0, hrs0, h300, hoJ9, hoP9⟩
  refine c_iconst dX6_init_38 ?_
  refine z_istore dX6_init_39 (by decide) rfl ?_
  have L41 : ∀ (m41 : Nat), ∀ (gd k0 : Int) (L1 L2 : List V4) (J1 P1 : Nat → Nat → Int), (((L2.length : Nat) : Int)).toNat = m41 → (gd = ((L1.length : Nat) : Int) ∧ L1.length + L2.length ≤ 1000000) → (hlf nl E 100 = L1 ++ L2) → (EI (eW nl E 100) J1 P1 k0) → (L2 = (eW nl E 100).rs (J1 35) (J1 36) (k0 + 1).toNat) → (J1 30 2 = 100) → (TkC J1 nl E L1 n (n + 1)) → (∀ a, a ≠ n → a ≠ n + 1 → a ≠ 30 → a ≠ 35 → a ≠ 36 → J1 a = J a) → (∀ a, a ≠ 31 → a ≠ 32 → a ≠ 33 → a ≠ 34 → P1 a = P a) → Z g l MX6_init 41 [some (.ref t), some (.ref r), some (.ref 30), some (.int (iZ nl)), some (.int (iZ gd)), none] [] (KF (zkp (zkp Kd n (1, 101)) (n + 1) (1, (nl * 101).toNat)), zi J1, zj P1, RF (zup (zup Rd t 0 (some n)) t 1 (some (n + 1))), n + 2, s0 + 101 + (nl * 101).toNat) Q0 := by
    intro m41
    induction m41 using Nat.strongRecOn with
    | ind m41 ih41 =>
      intro gd k0 L1 L2 J1 P1 hm41 hg hH hEI hL2 h30 hT hoJ hoP
      refine z_iload dX6_init_41 rfl ?_
      refine c_ldc (z := 4000000) dX6_init_43 w_468 (by decide) ?_
      refine c_icmp_ge (tgt := 126) dX6_init_45 (by decide) (by omega) (by omega) (fun h45 => ?_) (fun h45 => ?_)
      · exact absurd h45 (by omega)
      · refine z_aload_n dX6_init_48 rfl rfl ?_
        refine z_callv (N := MX2_advance) (ci := 2) (nas := 0) (as := []) dX6_init_49 w_472 w_469 w_470 w_471 w_5 (by decide +kernel) rfl rfl rfl (by decide) (Nat.le_of_ble_eq_true rfl) (by decide) (by decide) (ZC.mono (cMX2_advance (e := (eW nl E 100)) (L := L2) (k0 := k0) hok hEI hL2) ?_)
        rintro _ _ ⟨J2, P2, b, rfl, rfl, hb, hof⟩
        refine c_if_eq (tgt := 126) dX6_init_52 (by decide) (by omega) (fun h52 => ?_) (fun h52 => ?_)
        · refine z_return dX6_init_126 rfl ?_
          subst hQ0
          have hz := (hb.resolve_left (fun z => by have := z.1; omega)).2
          rw [hz, List.append_nil] at hH
          refine ⟨rfl, J2, P2, rfl, TkC_end hn hO ?_, fun a a1 a2 a3 a4 a5 => ?_, fun a a1 a2 a3 a4 => ?_⟩
          · rw [hH]; exact TkC_mv hT (hof.1 n (by omega) (by omega) (by omega)) (hof.1 (n + 1) (by omega) (by omega) (by omega))
          · rw [hof.1 a a3 a4 a5]; exact hoJ a a1 a2 a3 a4 a5
          · rw [hof.2.2 a a3 a4]; exact hoP a a1 a2 a3 a4
        · obtain ⟨hb1, L3, k3, hL3, hE3, hr3, hP3, hs3⟩ := hb.resolve_right (fun z => h52 z.1)
          have hv : (tupN nl.toNat (J2 35)) ∈ hlf nl E 100 := by rw [hH, hL3]; exact List.mem_append_right _ List.mem_cons_self
          have hwv := hlf_mem hn hO (by omega) hv
          have hwe : P2 33 (eW nl E 100).n = 100 - wv E (tupN nl.toNat (J2 35)) := by rw [hP3]; exact lW_end hn hO (J2 35)
          have h302 : J2 30 2 = 100 := by rw [hof.2.1 2 (by decide)]; exact h30
          have hT2 : TkC J2 nl E L1 n (n + 1) := TkC_mv hT (hof.1 n (by omega) (by omega) (by omega)) (hof.1 (n + 1) (by omega) (by omega) (by omega))
          have hl2 : L1.length + (L3.length + 1) ≤ 1000000 := by
            have e := congrArg List.length hH
            rw [hL3, List.length_append, List.length_cons] at e
            omega
          have hl3 : L2.length = L3.length + 1 := by rw [hL3, List.length_cons]
          have hb80 := TkC_bd (m := (wv E (tupN nl.toNat (J2 35))).toNat) hT2 (by omega) (by omega)
          have hnl : 0 ≤ nl * wv E (tupN nl.toNat (J2 35)) ∧ nl * wv E (tupN nl.toNat (J2 35)) + nl ≤ nl * 101 ∧ nl * 101 ≤ 404 := by
            generalize wv E (tupN nl.toNat (J2 35)) = w at hwv
            rcases (show nl = 1 ∨ nl = 2 ∨ nl = 3 ∨ nl = 4 by omega) with rfl | rfl | rfl | rfl <;> omega
          refine z_aload_n dX6_init_55 rfl rfl ?_
          refine z_callv (N := MX2_worthHere) (ci := 2) (nas := 0) (as := []) dX6_init_56 w_481 w_478 w_479 w_480 w_5 (by decide +kernel) rfl rfl rfl (by decide) (Nat.le_of_ble_eq_true rfl) (by decide) (by decide) (ZC.mono (cMX2_worthHere (e := (eW nl E 100)) (tp := 100) (w := 100 - wv E (tupN nl.toNat (J2 35))) hE3.1.1 (by show nl.toNat ≤ 4; omega) h302 hwe) ?_)
          rintro _ _ ⟨rfl, rfl⟩
          rw [show (100 : Int) - (100 - wv E (tupN nl.toNat (J2 35))) = wv E (tupN nl.toNat (J2 35)) by omega]
          refine z_istore dX6_init_59 (by decide) rfl ?_
          refine z_iload dX6_init_61 rfl ?_
          refine c_if_lt (tgt := 120) dX6_init_63 (by decide) (by omega) (fun h63 => ?_) (fun h63 => ?_)
          · exact absurd h63 (by omega)
          · refine z_iload dX6_init_66 rfl ?_
            refine c_bipush dX6_init_68 (by decide) ?_
            refine c_icmp_gt (tgt := 120) dX6_init_70 (by decide) (by omega) (by omega) (fun h70 => ?_) (fun h70 => ?_)
            · exact absurd h70 (by omega)
            · refine z_aload_n dX6_init_73 rfl rfl ?_
              refine z_getR (ci := 6) (kf := 0) dX6_init_74 k2 (by decide) (by decide) rfl w_483 r0 ?_
              refine z_iload dX6_init_77 rfl ?_
              refine c_iald dX6_init_79 kc (by omega) (by decide) ?_
              refine c_if_ne (tgt := 100) dX6_init_80 (by decide) (by omega) (fun h80 => ?_) (fun h80 => ?_)
              · refine z_aload_n dX6_init_100 rfl rfl ?_
                refine z_getR (ci := 6) (kf := 0) dX6_init_101 k2 (by decide) (by decide) rfl w_483 r0 ?_
                refine z_iload dX6_init_104 rfl ?_
                refine z_dup2 dX6_init_106 rfl rfl ?_
                refine c_iald dX6_init_107 kc (by omega) (by decide) ?_
                refine z_iload dX6_init_108 rfl ?_
                refine c_if_ne (tgt := 117) dX6_init_110 (by decide) (by omega) (fun h110 => ?_) (fun h110 => ?_)
                · refine c_iconst dX6_init_117 ?_
                  refine c_iadd dX6_init_118 ?_
                  refine c_iast dX6_init_119 kc (by omega) (by decide) ?_
                  refine c_iinc dX6_init_120 rfl (by decide) rfl ?_
                  refine z_goto (tgt := 41) dX6_init_123 (by decide) ?_
                  exact Z.fg2 (ih41 _ (by omega) _ k3 (L1 ++ [(tupN nl.toNat (J2 35))]) L3 _ _ rfl ⟨by rw [List.length_append, hg.1]; simp, by rw [List.length_append, List.length_singleton]; omega⟩ (by rw [hH, hL3, List.append_assoc]; rfl) (EI_cells hE3 (by first | exact zup_ne (by omega) | exact (zup_ne (by omega)).trans (zuA_ne (by omega))) (by first | exact zup_ne (by omega) | exact (zup_ne (by omega)).trans (zuA_ne (by omega))) (by first | exact zup_ne (by omega) | exact (zup_ne (by omega)).trans (zuA_ne (by omega)))) (by rw [zup_ne (by omega), zup_ne (by omega)]; first | exact hr3 | (rw [zuA_ne (by omega), zuA_ne (by omega)]; exact hr3)) (by rw [zup_ne (by omega)]; first | exact h302 | (rw [zuA_ne (by omega)]; exact h302)) (by first | exact TkC_old hT2 ⟨hn, h4⟩ (by omega) hwv (by split <;> omega) h80 | exact TkC_new hT2 ⟨hn, h4⟩ (by omega) hwv (by split <;> omega) (by omega) rfl) (fun a a1 a2 a3 a4 a5 => by rw [zup_ne a1]; first | (rw [hof.1 a a3 a4 a5]; exact hoJ a a1 a2 a3 a4 a5) | (rw [zuA_ne a2, hof.1 a a3 a4 a5]; exact hoJ a a1 a2 a3 a4 a5)) (fun a a1 a2 a3 a4 => by rw [hof.2.2 a a3 a4]; exact hoP a a1 a2 a3 a4)) (zs1 rfl (zs1 rfl (zs1 rfl (zs1 rfl (zs1 rfl (zsn zs0))))))
                · refine c_iconst dX6_init_113 ?_
                  refine z_goto (tgt := 118) dX6_init_114 (by decide) ?_
                  refine c_iadd dX6_init_118 ?_
                  refine c_iast dX6_init_119 kc (by omega) (by decide) ?_
                  refine c_iinc dX6_init_120 rfl (by decide) rfl ?_
                  refine z_goto (tgt := 41) dX6_init_123 (by decide) ?_
                  exact Z.fg2 (ih41 _ (by omega) _ k3 (L1 ++ [(tupN nl.toNat (J2 35))]) L3 _ _ rfl ⟨by rw [List.length_append, hg.1]; simp, by rw [List.length_append, List.length_singleton]; omega⟩ (by rw [hH, hL3, List.append_assoc]; rfl) (EI_cells hE3 (by first | exact zup_ne (by omega) | exact (zup_ne (by omega)).trans (zuA_ne (by omega))) (by first | exact zup_ne (by omega) | exact (zup_ne (by omega)).trans (zuA_ne (by omega))) (by first | exact zup_ne (by omega) | exact (zup_ne (by omega)).trans (zuA_ne (by omega)))) (by rw [zup_ne (by omega), zup_ne (by omega)]; first | exact hr3 | (rw [zuA_ne (by omega), zuA_ne (by omega)]; exact hr3)) (by rw [zup_ne (by omega)]; first | exact h302 | (rw [zuA_ne (by omega)]; exact h302)) (by first | exact TkC_old hT2 ⟨hn, h4⟩ (by omega) hwv (by split <;> omega) h80 | exact TkC_new hT2 ⟨hn, h4⟩ (by omega) hwv (by split <;> omega) (by omega) rfl) (fun a a1 a2 a3 a4 a5 => by rw [zup_ne a1]; first | (rw [hof.1 a a3 a4 a5]; exact hoJ a a1 a2 a3 a4 a5) | (rw [zuA_ne a2, hof.1 a a3 a4 a5]; exact hoJ a a1 a2 a3 a4 a5)) (fun a a1 a2 a3 a4 => by rw [hof.2.2 a a3 a4]; exact hoP a a1 a2 a3 a4)) (zs1 rfl (zs1 rfl (zs1 rfl (zs1 rfl (zs1 rfl (zsn zs0))))))
              · refine z_aload_n dX6_init_83 rfl rfl ?_
                refine z_getR (ci := 2) (kf := 9) dX6_init_84 rfl (by decide) (by decide) rfl w_121 rfl ?_
                refine c_iconst dX6_init_87 ?_
                refine z_aload_n dX6_init_88 rfl rfl ?_
                refine z_getR (ci := 6) (kf := 1) dX6_init_89 k2 (by decide) (by decide) rfl w_485 r1 ?_
                refine z_iload_n dX6_init_92 rfl rfl ?_
                refine z_iload dX6_init_93 rfl ?_
                refine c_imul dX6_init_95 ?_
                refine z_iload_n dX6_init_96 rfl rfl ?_
                refine c_copyi dX6_init_97 w_482 w_355 w_354 w_11 rfl kf (by omega) (by omega) (by omega) (by decide) (by omega) (by decide) (Nat.le_of_ble_eq_true rfl) ?_
                refine z_aload_n dX6_init_100 rfl rfl ?_
                refine z_getR (ci := 6) (kf := 0) dX6_init_101 k2 (by decide) (by decide) rfl w_483 r0 ?_
                refine z_iload dX6_init_104 rfl ?_
                refine z_dup2 dX6_init_106 rfl rfl ?_
                refine c_iald dX6_init_107 kc (by omega) (by decide) ?_
                refine z_iload dX6_init_108 rfl ?_
                refine c_if_ne (tgt := 117) dX6_init_110 (by decide) (by omega) (fun h110 => ?_) (fun h110 => ?_)
                · refine c_iconst dX6_init_117 ?_
                  refine c_iadd dX6_init_118 ?_
                  refine c_iast dX6_init_119 kc (by omega) (by decide) ?_
                  refine c_iinc dX6_init_120 rfl (by decide) rfl ?_
                  refine z_goto (tgt := 41) dX6_init_123 (by decide) ?_
                  exact Z.fg2 (ih41 _ (by omega) _ k3 (L1 ++ [(tupN nl.toNat (J2 35))]) L3 _ _ rfl ⟨by rw [List.length_append, hg.1]; simp, by rw [List.length_append, List.length_singleton]; omega⟩ (by rw [hH, hL3, List.append_assoc]; rfl) (EI_cells hE3 (by first | exact zup_ne (by omega) | exact (zup_ne (by omega)).trans (zuA_ne (by omega))) (by first | exact zup_ne (by omega) | exact (zup_ne (by omega)).trans (zuA_ne (by omega))) (by first | exact zup_ne (by omega) | exact (zup_ne (by omega)).trans (zuA_ne (by omega)))) (by rw [zup_ne (by omega), zup_ne (by omega)]; first | exact hr3 | (rw [zuA_ne (by omega), zuA_ne (by omega)]; exact hr3)) (by rw [zup_ne (by omega)]; first | exact h302 | (rw [zuA_ne (by omega)]; exact h302)) (by first | exact TkC_old hT2 ⟨hn, h4⟩ (by omega) hwv (by split <;> omega) h80 | exact TkC_new hT2 ⟨hn, h4⟩ (by omega) hwv (by split <;> omega) (by omega) rfl) (fun a a1 a2 a3 a4 a5 => by rw [zup_ne a1]; first | (rw [hof.1 a a3 a4 a5]; exact hoJ a a1 a2 a3 a4 a5) | (rw [zuA_ne a2, hof.1 a a3 a4 a5]; exact hoJ a a1 a2 a3 a4 a5)) (fun a a1 a2 a3 a4 => by rw [hof.2.2 a a3 a4]; exact hoP a a1 a2 a3 a4)) (zs1 rfl (zs1 rfl (zs1 rfl (zs1 rfl (zs1 rfl (zsn zs0))))))
                · refine c_iconst dX6_init_113 ?_
                  refine z_goto (tgt := 118) dX6_init_114 (by decide) ?_
                  refine c_iadd dX6_init_118 ?_
                  refine c_iast dX6_init_119 kc (by omega) (by decide) ?_
                  refine c_iinc dX6_init_120 rfl (by decide) rfl ?_
                  refine z_goto (tgt := 41) dX6_init_123 (by decide) ?_
                  exact Z.fg2 (ih41 _ (by omega) _ k3 (L1 ++ [(tupN nl.toNat (J2 35))]) L3 _ _ rfl ⟨by rw [List.length_append, hg.1]; simp, by rw [List.length_append, List.length_singleton]; omega⟩ (by rw [hH, hL3, List.append_assoc]; rfl) (EI_cells hE3 (by first | exact zup_ne (by omega) | exact (zup_ne (by omega)).trans (zuA_ne (by omega))) (by first | exact zup_ne (by omega) | exact (zup_ne (by omega)).trans (zuA_ne (by omega))) (by first | exact zup_ne (by omega) | exact (zup_ne (by omega)).trans (zuA_ne (by omega)))) (by rw [zup_ne (by omega), zup_ne (by omega)]; first | exact hr3 | (rw [zuA_ne (by omega), zuA_ne (by omega)]; exact hr3)) (by rw [zup_ne (by omega)]; first | exact h302 | (rw [zuA_ne (by omega)]; exact h302)) (by first | exact TkC_old hT2 ⟨hn, h4⟩ (by omega) hwv (by split <;> omega) h80 | exact TkC_new hT2 ⟨hn, h4⟩ (by omega) hwv (by split <;> omega) (by omega) rfl) (fun a a1 a2 a3 a4 a5 => by rw [zup_ne a1]; first | (rw [hof.1 a a3 a4 a5]; exact hoJ a a1 a2 a3 a4 a5) | (rw [zuA_ne a2, hof.1 a a3 a4 a5]; exact hoJ a a1 a2 a3 a4 a5)) (fun a a1 a2 a3 a4 => by rw [hof.2.2 a a3 a4]; exact hoP a a1 a2 a3 a4)) (zs1 rfl (zs1 rfl (zs1 rfl (zs1 rfl (zs1 rfl (zsn zs0))))))
  exact Z.fg2 (L41 _ _ 0 [] (hlf nl E 100) _ _ rfl ⟨rfl, by rw [List.length_nil]; omega⟩ rfl hE0 (by rw [show ((0 : Int) + 1).toNat = 1 from rfl, hrs0]; exact (hlf_any hn hO (by omega) _).symm) h300 (TkC_nil (fun q => by rw [hoJ9 n (by omega) (by omega) (by omega), zuA_ne (by omega), zuA_eq])) (fun a a1 a2 a3 a4 a5 => by rw [hoJ9 a a3 a4 a5, zuA_ne a2, zuA_ne a1]) hoP9) (zs1 rfl (zs1 rfl (zs1 rfl (zs1 rfl (zs1 rfl (zsn zs0))))))
set_option maxHeartbeats 4000000 in
set_option maxRecDepth 100000 in
theorem cMX6_firstLacking {t cc : Nat} {f : Nat → Int} (hK : (KF Kd t).1 = 16) (hR : RF Rd t 0 = some cc) (hKc : KF Kd cc = (1, 101)) (hf : ∀ m : Nat, m ≤ 100 → J cc m = f m ∧ 0 ≤ f m ∧ f m ≤ 2000000) : ZC g l MX6_firstLacking [.ref t] (KF Kd, zi J, zj P, RF Rd, n, s0) (fun rr hh => rr = some (.int (iZ (lackD f 100))) ∧ hh = (KF Kd, zi J, zj P, RF Rd, n, s0)) := by
  refine ZC.of (by decide) (Nat.le_of_ble_eq_true rfl) ?_
  generalize hQ0 : (fun rr hh => rr = some (.int (iZ (lackD f 100))) ∧ hh = (KF Kd, zi J, zj P, RF Rd, n, s0) : Option Value → ZH → Prop) = Q0
  show Z g l MX6_firstLacking 0 [some (.ref t), none] [] (KF Kd, zi J, zj P, RF Rd, n, s0) Q0
  refine c_iconst dX6_firstLacking_0 ?_
  refine z_istore_n dX6_firstLacking_1 rfl (by decide) rfl ?_
  have L2 : ∀ (m2 : Nat), ∀ (m : Int), (101 - m).toNat = m2 → (1 ≤ m ∧ m ≤ 101) → (lackD f 100 = lackD f (101 - m).toNat) → Z g l MX6_firstLacking 2 [some (.ref t), some (.int (iZ m))] [] (KF Kd, zi J, zj P, RF Rd, n, s0) Q0 := by
    intro m2
    induction m2 using Nat.strongRecOn with
    | ind m2 ih2 =>
      intro m hm2 hm0 hl
      refine z_iload_n dX6_firstLacking_2 rfl rfl ?_
      refine c_bipush dX6_firstLacking_3 (by decide) ?_
      refine c_icmp_gt (tgt := 25) dX6_firstLacking_5 (by decide) (by omega) (by omega) (fun h5 => ?_) (fun h5 => ?_)
      · refine c_iconst dX6_firstLacking_25 ?_
        refine c_ireturn dX6_firstLacking_26 rfl ?_
        subst hQ0; refine ⟨?_, rfl⟩; rw [hl, show (101 - m).toNat = 0 by omega]; rfl
      · refine z_aload_n dX6_firstLacking_8 rfl rfl ?_
        refine z_getR (ci := 6) (kf := 0) dX6_firstLacking_9 hK (by decide) (by decide) rfl w_483 hR ?_
        refine z_iload_n dX6_firstLacking_12 rfl rfl ?_
        refine c_iald dX6_firstLacking_13 hKc (by omega) (by decide) ?_
        have hm := hf m.toNat (by omega)
        rw [hm.1]
        have hd : lackD f (101 - m).toNat = if f m.toNat = 0 then m else lackD f (101 - (m + 1)).toNat := by
          rw [show (101 - m).toNat = (101 - (m + 1)).toNat + 1 by omega, lackD, show 100 - (101 - (m + 1)).toNat = m.toNat by omega, Int.toNat_of_nonneg (by omega)]
        refine c_if_ne (tgt := 19) dX6_firstLacking_14 (by decide) (by omega) (fun h14 => ?_) (fun h14 => ?_)
        · refine c_iinc dX6_firstLacking_19 rfl (by decide) rfl ?_
          refine z_goto (tgt := 2) dX6_firstLacking_22 (by decide) ?_
          exact Z.fg2 (ih2 _ (by omega) _ rfl (by omega) (by rw [hl, hd, if_neg h14])) (zs1 rfl (zs1 rfl zs0))
        · refine z_iload_n dX6_firstLacking_17 rfl rfl ?_
          refine c_ireturn dX6_firstLacking_18 rfl ?_
          subst hQ0; refine ⟨?_, rfl⟩; rw [hl, hd, if_pos (by omega)]
  exact Z.fg2 (L2 _ _ rfl (by omega) rfl) (zs1 rfl (zs1 rfl zs0))
end Cls16
