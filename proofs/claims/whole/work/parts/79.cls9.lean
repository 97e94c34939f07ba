section Cls9
variable {g : ZG} {l : Launch} {Kd : ZK} {Rd : ZR} {n s0 c : Nat} {A J P : Nat → Nat → Int}
theorem fund_from {un : Nat → Int} {x : Int} : ∀ (d f : Nat) (k : Int), (∀ q : Int, k ≤ q → q < k + d → un q.toNat ≠ x) → fund (d + f) un x k = fund f un x (k + d)
  | 0, f, k, _ => by rw [Nat.zero_add]; congr 1; omega
  | d + 1, f, k, h => by
    rw [show d + 1 + f = (d + f) + 1 by omega, fund, if_neg (h k (by omega) (by omega)), fund_from d f (k + 1) (fun q a b => h q (by omega) (by omega))]
    congr 1; omega
theorem fund_skip {nd : Int} {un : Nat → Int} (hU : okU nd un) {x : Int} (hx : 0 ≤ x ∧ x < nd) : fund nd.toNat un x 0 = fund (nd - (x + 1)).toNat un x (x + 1) := by
  have h := fund_from (un := un) (x := x) (x + 1).toNat (nd - (x + 1)).toNat 0 (fun q a b => by
    by_cases e : q = 0
    · subst e; have := hU.2.2.1 (by omega); show un 0 ≠ x; omega
    · have := hU.2.2.2 q.toNat (by omega) (by omega); omega)
  rw [show (x + 1).toNat + (nd - (x + 1)).toNat = nd.toNat by omega, show (0 : Int) + ((x + 1).toNat : Int) = x + 1 by omega] at h
  exact h
set_option maxHeartbeats 4000000 in
set_option maxRecDepth 100000 in
theorem cMX7_isNode {x nd : Int} (hx : rI x) (hnd : J 7 0 = nd) (h30 : 0 ≤ nd ∧ nd ≤ 30) : ZC g l MX7_isNode [.ref 7, .int (iZ x)] (KF Kd, zi J, zj P, RF Rd, n, s0) (fun rr hh => ∃ b : Int, hh = (KF Kd, zi J, zj P, RF Rd, n, s0) ∧ rr = some (.int (iZ b)) ∧ (b = 1 ∧ (0 ≤ x ∧ x < nd) ∨ b = 0 ∧ ¬ (0 ≤ x ∧ x < nd))) := by
  refine ZC.of (by decide) (Nat.le_of_ble_eq_true rfl) ?_
  generalize hQ0 : (fun rr hh => ∃ b : Int, hh = (KF Kd, zi J, zj P, RF Rd, n, s0) ∧ rr = some (.int (iZ b)) ∧ (b = 1 ∧ (0 ≤ x ∧ x < nd) ∨ b = 0 ∧ ¬ (0 ≤ x ∧ x < nd)) : Option Value → ZH → Prop) = Q0
  show Z g l MX7_isNode 0 [some (.ref 7), some (.int (iZ x))] [] (KF Kd, zi J, zj P, RF Rd, n, s0) Q0
  refine z_iload_n dX7_isNode_0 rfl rfl ?_
  refine c_if_lt (tgt := 16) dX7_isNode_1 (by decide) (by omega) (fun h1 => ?_) (fun h1 => ?_)
  · refine c_iconst dX7_isNode_16 ?_
    refine c_zreturn dX7_isNode_17 rfl (by omega) ?_
    subst hQ0; refine ⟨_, rfl, rfl, ?_⟩; omega
  · refine z_iload_n dX7_isNode_4 rfl rfl ?_
    refine z_aload_n dX7_isNode_5 rfl rfl ?_
    refine c_getI (ci := 7) (kf := 0) dX7_isNode_6 rfl (by decide) (by decide) rfl w_31 ?_
    refine c_icmp_ge (tgt := 16) dX7_isNode_9 (by decide) (by omega) (by omega) (fun h9 => ?_) (fun h9 => ?_)
    · refine c_iconst dX7_isNode_16 ?_
      refine c_zreturn dX7_isNode_17 rfl (by omega) ?_
      subst hQ0; refine ⟨_, rfl, rfl, ?_⟩; omega
    · refine c_iconst dX7_isNode_12 ?_
      refine z_goto (tgt := 17) dX7_isNode_13 (by decide) ?_
      refine c_zreturn dX7_isNode_17 rfl (by omega) ?_
      subst hQ0; refine ⟨_, rfl, rfl, ?_⟩; omega
set_option maxHeartbeats 4000000 in
set_option maxRecDepth 100000 in
theorem cMX7_under {x : Int} {nd : Int} {un : Nat → Int} (hnd : J 7 0 = nd) (hun : ∀ q : Nat, (q : Int) < nd → J 9 q = un q) (hU : okU nd un) (hx : 0 ≤ x ∧ x < nd) : ZC g l MX7_under [.ref 7, .int (iZ x)] (KF Kd, zi J, zj P, RF Rd, n, s0) (fun rr hh => rr = some (.int (iZ (dirF un x nd.toNat))) ∧ hh = (KF Kd, zi J, zj P, RF Rd, n, s0)) := by
  refine ZC.of (by decide) (Nat.le_of_ble_eq_true rfl) ?_
  generalize hQ0 : (fun rr hh => rr = some (.int (iZ (dirF un x nd.toNat))) ∧ hh = (KF Kd, zi J, zj P, RF Rd, n, s0) : Option Value → ZH → Prop) = Q0
  show Z g l MX7_under 0 [some (.ref 7), some (.int (iZ x)), none, none] [] (KF Kd, zi J, zj P, RF Rd, n, s0) Q0
  have hU1 := hU.1
  have hU2 := hU.2.1
  refine c_iconst dX7_under_0 ?_
  refine z_istore_n dX7_under_1 rfl (by decide) rfl ?_
  refine z_iload_n dX7_under_2 rfl rfl ?_
  refine c_iconst dX7_under_3 ?_
  refine c_iadd dX7_under_4 ?_
  refine z_istore_n dX7_under_5 rfl (by decide) rfl ?_
  have L6 : ∀ (m6 : Nat), ∀ (q w : Int), (nd - q).toNat = m6 → (x + 1 ≤ q ∧ q ≤ nd) → (w = dirF un x q.toNat) → Z g l MX7_under 6 [some (.ref 7), some (.int (iZ x)), some (.int (iZ w)), some (.int (iZ q))] [] (KF Kd, zi J, zj P, RF Rd, n, s0) Q0 := by
    intro m6
    induction m6 using Nat.strongRecOn with
    | ind m6 ih6 =>
      intro q w hm6 hq hw
      refine z_iload_n dX7_under_6 rfl rfl ?_
      refine z_aload_n dX7_under_7 rfl rfl ?_
      refine c_getI (ci := 7) (kf := 0) dX7_under_8 rfl (by decide) (by decide) rfl w_31 ?_
      rw [hnd]
      refine c_icmp_ge (tgt := 33) dX7_under_11 (by decide) (by omega) (by omega) (fun h11 => ?_) (fun h11 => ?_)
      · refine z_iload_n dX7_under_33 rfl rfl ?_
        refine c_ireturn dX7_under_34 rfl ?_
        subst hQ0; refine ⟨?_, rfl⟩; rw [hw, show q = nd by omega]
      · refine z_aload_n dX7_under_14 rfl rfl ?_
        refine z_getR (ci := 7) (kf := 2) dX7_under_15 rfl (by decide) (by decide) rfl w_35 rfl ?_
        refine z_iload_n dX7_under_18 rfl rfl ?_
        refine c_iald dX7_under_19 rfl (by omega) (by decide) ?_
        rw [hun q.toNat (by omega)]
        have huq := hU.2.2.2 q.toNat (by omega) (by omega)
        refine z_iload_n dX7_under_20 rfl rfl ?_
        refine c_icmp_ne (tgt := 27) dX7_under_21 (by decide) (by omega) (by omega) (fun h21 => ?_) (fun h21 => ?_)
        · refine c_iinc dX7_under_27 rfl (by decide) rfl ?_
          refine z_goto (tgt := 6) dX7_under_30 (by decide) ?_
          exact Z.fg2 (ih6 _ (by omega) _ _ rfl (by omega) (by rw [show (q + 1).toNat = q.toNat + 1 by omega, show dirF un x (q.toNat + 1) = dirF un x q.toNat + (if decide (un q.toNat = x) then 1 else 0) from rfl]; first | (rw [decide_eq_true (by omega)]; simp; omega) | (rw [decide_eq_false (by omega)]; simp; omega))) (zs1 rfl (zs1 rfl (zs1 rfl (zs1 rfl zs0))))
        · refine c_iinc dX7_under_24 rfl (by decide) rfl ?_
          refine c_iinc dX7_under_27 rfl (by decide) rfl ?_
          refine z_goto (tgt := 6) dX7_under_30 (by decide) ?_
          exact Z.fg2 (ih6 _ (by omega) _ _ rfl (by omega) (by rw [show (q + 1).toNat = q.toNat + 1 by omega, show dirF un x (q.toNat + 1) = dirF un x q.toNat + (if decide (un q.toNat = x) then 1 else 0) from rfl]; first | (rw [decide_eq_true (by omega)]; simp; omega) | (rw [decide_eq_false (by omega)]; simp; omega))) (zs1 rfl (zs1 rfl (zs1 rfl (zs1 rfl zs0))))
  exact Z.fg2 (L6 _ _ _ rfl (by omega) (dirF_own hU hx).symm) (zs1 rfl (zs1 rfl (zs1 rfl (zs1 rfl zs0))))
set_option maxHeartbeats 4000000 in
set_option maxRecDepth 100000 in
theorem cMX7_isWithin {x y : Int} {nd : Int} {un : Nat → Int} (hnd : J 7 0 = nd) (hun : ∀ q : Nat, (q : Int) < nd → J 9 q = un q) (hU : okU nd un) (hx : 0 ≤ x ∧ x < nd) (hy : 0 ≤ y ∧ y < nd) : ZC g l MX7_isWithin [.ref 7, .int (iZ y), .int (iZ x)] (KF Kd, zi J, zj P, RF Rd, n, s0) (fun rr hh => ∃ b : Int, hh = (KF Kd, zi J, zj P, RF Rd, n, s0) ∧ rr = some (.int (iZ b)) ∧ (b = 1 ∧ (climb 30 un x y = x) ∨ b = 0 ∧ ¬ (climb 30 un x y = x))) := by
  refine ZC.of (by decide) (Nat.le_of_ble_eq_true rfl) ?_
  generalize hQ0 : (fun rr hh => ∃ b : Int, hh = (KF Kd, zi J, zj P, RF Rd, n, s0) ∧ rr = some (.int (iZ b)) ∧ (b = 1 ∧ (climb 30 un x y = x) ∨ b = 0 ∧ ¬ (climb 30 un x y = x)) : Option Value → ZH → Prop) = Q0
  show Z g l MX7_isWithin 0 [some (.ref 7), some (.int (iZ y)), some (.int (iZ x)), none, none] [] (KF Kd, zi J, zj P, RF Rd, n, s0) Q0
  have hU1 := hU.1
  have hU2 := hU.2.1
  refine z_iload_n dX7_isWithin_0 rfl rfl ?_
  refine z_istore_n dX7_isWithin_1 rfl (by decide) rfl ?_
  refine c_iconst dX7_isWithin_2 ?_
  refine z_istore dX7_isWithin_3 (by decide) rfl ?_
  have L5 : ∀ (m5 : Nat), ∀ (q k : Int), (30 - k).toNat = m5 → (0 ≤ q ∧ q ≤ 29 - k ∧ q < nd) → (0 ≤ k) → (climb 30 un x y = climb 30 un x q) → Z g l MX7_isWithin 5 [some (.ref 7), some (.int (iZ y)), some (.int (iZ x)), some (.int (iZ q)), some (.int (iZ k))] [] (KF Kd, zi J, zj P, RF Rd, n, s0) Q0 := by
    intro m5
    induction m5 using Nat.strongRecOn with
    | ind m5 ih5 =>
      intro q k hm5 hq hk hc
      refine z_iload dX7_isWithin_5 rfl ?_
      refine c_bipush dX7_isWithin_7 (by decide) ?_
      refine c_icmp_ge (tgt := 30) dX7_isWithin_9 (by decide) (by omega) (by omega) (fun h9 => ?_) (fun h9 => ?_)
      · exact absurd h9 (by omega)
      · refine z_iload_n dX7_isWithin_12 rfl rfl ?_
        refine z_iload_n dX7_isWithin_13 rfl rfl ?_
        refine c_icmp_le (tgt := 30) dX7_isWithin_14 (by decide) (by omega) (by omega) (fun h14 => ?_) (fun h14 => ?_)
        · have hcs := climb_stop (un := un) (show q ≤ x by omega) 30
          refine z_iload_n dX7_isWithin_30 rfl rfl ?_
          refine z_iload_n dX7_isWithin_31 rfl rfl ?_
          refine c_icmp_ne (tgt := 39) dX7_isWithin_32 (by decide) (by omega) (by omega) (fun h32 => ?_) (fun h32 => ?_)
          · refine c_iconst dX7_isWithin_39 ?_
            refine c_zreturn dX7_isWithin_40 rfl (by omega) ?_
            subst hQ0; refine ⟨_, rfl, rfl, ?_⟩; omega
          · refine c_iconst dX7_isWithin_35 ?_
            refine z_goto (tgt := 40) dX7_isWithin_36 (by decide) ?_
            refine c_zreturn dX7_isWithin_40 rfl (by omega) ?_
            subst hQ0; refine ⟨_, rfl, rfl, ?_⟩; omega
        · refine z_aload_n dX7_isWithin_17 rfl rfl ?_
          refine z_getR (ci := 7) (kf := 2) dX7_isWithin_18 rfl (by decide) (by decide) rfl w_35 rfl ?_
          refine z_iload_n dX7_isWithin_21 rfl rfl ?_
          refine c_iald dX7_isWithin_22 rfl (by omega) (by decide) ?_
          rw [hun q.toNat (by omega)]
          have huq := hU.2.2.2 q.toNat (by omega) (by omega)
          have hcs := climb_step hU hx.1 (show x < q by omega) (by omega)
          refine z_istore_n dX7_isWithin_23 rfl (by decide) rfl ?_
          refine c_iinc dX7_isWithin_24 rfl (by decide) rfl ?_
          refine z_goto (tgt := 5) dX7_isWithin_27 (by decide) ?_
          exact Z.fg2 (ih5 _ (by omega) _ _ rfl (by omega) (by omega) (by rw [hc, hcs])) (zs1 rfl (zs1 rfl (zs1 rfl (zs1 rfl (zs1 rfl zs0)))))
  exact Z.fg2 (L5 _ _ _ rfl (by omega) (by omega) rfl) (zs1 rfl (zs1 rfl (zs1 rfl (zs1 rfl (zs1 rfl zs0)))))
set_option maxHeartbeats 4000000 in
set_option maxRecDepth 100000 in
theorem cMX7_heightOf {x : Int} {nd : Int} {un : Nat → Int} (hnd : J 7 0 = nd) (hun : ∀ q : Nat, (q : Int) < nd → J 9 q = un q) (hU : okU nd un) (hx : 0 ≤ x ∧ x < nd) : ZC g l MX7_heightOf [.ref 7, .int (iZ x)] (KF Kd, zi J, zj P, RF Rd, n, s0) (fun rr hh => ∃ J' : Nat → Nat → Int, hh = (KF Kd, zi J', zj P, RF Rd, n, s0) ∧ rr = some (.int (iZ (htS nd un nd.toNat x.toNat))) ∧ ∀ a, a ≠ 11 → J' a = J a) := by
  refine ZC.of (by decide) (Nat.le_of_ble_eq_true rfl) ?_
  generalize hQ0 : (fun rr hh => ∃ J' : Nat → Nat → Int, hh = (KF Kd, zi J', zj P, RF Rd, n, s0) ∧ rr = some (.int (iZ (htS nd un nd.toNat x.toNat))) ∧ ∀ a, a ≠ 11 → J' a = J a : Option Value → ZH → Prop) = Q0
  show Z g l MX7_heightOf 0 [some (.ref 7), some (.int (iZ x)), none] [] (KF Kd, zi J, zj P, RF Rd, n, s0) Q0
  have hU1 := hU.1
  have hU2 := hU.2.1
  refine z_aload_n dX7_heightOf_0 rfl rfl ?_
  refine z_getR (ci := 7) (kf := 4) dX7_heightOf_1 rfl (by decide) (by decide) rfl w_39 rfl ?_
  refine c_iconst dX7_heightOf_4 ?_
  refine z_calls (N := MJ7_fill_53178) (nas := 2) (as := [_, _]) dX7_heightOf_5 w_226 w_682 w_225 w_9 (by decide +kernel) rfl rfl (Nat.le_of_ble_eq_true rfl) (by decide) (by decide) (ZC.mono (cMJ7_fill_53178 (a := 11) (len := 30) rfl (by decide)) ?_)
  rintro _ _ ⟨rfl, rfl⟩
  refine z_aload_n dX7_heightOf_8 rfl rfl ?_
  refine c_getI (ci := 7) (kf := 0) dX7_heightOf_9 rfl (by decide) (by decide) rfl w_31 ?_
  rw [if_neg (by omega), hnd]
  refine c_iconst dX7_heightOf_12 ?_
  refine c_isub dX7_heightOf_13 ?_
  refine z_istore_n dX7_heightOf_14 rfl (by decide) rfl ?_
  have L15 : ∀ (m15 : Nat), ∀ (q : Int) (J1 : Nat → Nat → Int), (q + 1).toNat = m15 → (x ≤ q ∧ q < nd) → (∀ p : Nat, (p : Int) < nd → J1 11 p = htS nd un (nd - 1 - q).toNat p) → (∀ a, a ≠ 11 → J1 a = J a) → Z g l MX7_heightOf 15 [some (.ref 7), some (.int (iZ x)), some (.int (iZ q))] [] (KF Kd, zi J1, zj P, RF Rd, n, s0) Q0 := by
    intro m15
    induction m15 using Nat.strongRecOn with
    | ind m15 ih15 =>
      intro q J1 hm15 hq hH ho
      refine z_iload_n dX7_heightOf_15 rfl rfl ?_
      refine z_iload_n dX7_heightOf_16 rfl rfl ?_
      refine c_icmp_le (tgt := 68) dX7_heightOf_17 (by decide) (by omega) (by omega) (fun h17 => ?_) (fun h17 => ?_)
      · refine z_aload_n dX7_heightOf_68 rfl rfl ?_
        refine z_getR (ci := 7) (kf := 4) dX7_heightOf_69 rfl (by decide) (by decide) rfl w_39 rfl ?_
        refine z_iload_n dX7_heightOf_72 rfl rfl ?_
        refine c_iald dX7_heightOf_73 rfl (by omega) (by decide) ?_
        refine c_ireturn dX7_heightOf_74 rfl ?_
        subst hQ0; refine ⟨J1, rfl, ?_, ho⟩
        rw [hH x.toNat (by omega), show q = x by omega]
        have hl := htS_late hU (q := x.toNat) (x + 1).toNat (nd - 1 - x).toNat (by omega) (by omega)
        rw [show (nd - 1 - x).toNat + (x + 1).toNat = nd.toNat by omega] at hl
        rw [hl]
      · refine z_aload_n dX7_heightOf_20 rfl rfl ?_
        refine z_getR (ci := 7) (kf := 2) dX7_heightOf_21 rfl (by decide) (by decide) rfl w_35 rfl ?_
        refine z_iload_n dX7_heightOf_24 rfl rfl ?_
        refine c_iald dX7_heightOf_25 rfl (by omega) (by decide) ?_
        rw [ho 9 (by decide), hun q.toNat (by omega)]
        have huq := hU.2.2.2 q.toNat (by omega) (by omega)
        refine c_if_lt (tgt := 62) dX7_heightOf_26 (by decide) (by omega) (fun h26 => ?_) (fun h26 => ?_)
        · exact absurd h26 (by omega)
        · refine z_aload_n dX7_heightOf_29 rfl rfl ?_
          refine z_getR (ci := 7) (kf := 4) dX7_heightOf_30 rfl (by decide) (by decide) rfl w_39 rfl ?_
          refine z_aload_n dX7_heightOf_33 rfl rfl ?_
          refine z_getR (ci := 7) (kf := 2) dX7_heightOf_34 rfl (by decide) (by decide) rfl w_35 rfl ?_
          refine z_iload_n dX7_heightOf_37 rfl rfl ?_
          refine c_iald dX7_heightOf_38 rfl (by omega) (by decide) ?_
          rw [ho 9 (by decide), hun q.toNat (by omega)]
          refine z_aload_n dX7_heightOf_39 rfl rfl ?_
          refine z_getR (ci := 7) (kf := 4) dX7_heightOf_40 rfl (by decide) (by decide) rfl w_39 rfl ?_
          refine z_aload_n dX7_heightOf_43 rfl rfl ?_
          refine z_getR (ci := 7) (kf := 2) dX7_heightOf_44 rfl (by decide) (by decide) rfl w_35 rfl ?_
          refine z_iload_n dX7_heightOf_47 rfl rfl ?_
          refine c_iald dX7_heightOf_48 rfl (by omega) (by decide) ?_
          rw [ho 9 (by decide), hun q.toNat (by omega)]
          refine c_iald dX7_heightOf_49 rfl (by omega) (by decide) ?_
          rw [hH (un q.toNat).toNat (by omega)]
          have hb1 := htS_bd nd un (nd - 1 - q).toNat (un q.toNat).toNat
          refine z_aload_n dX7_heightOf_50 rfl rfl ?_
          refine z_getR (ci := 7) (kf := 4) dX7_heightOf_51 rfl (by decide) (by decide) rfl w_39 rfl ?_
          refine z_iload_n dX7_heightOf_54 rfl rfl ?_
          refine c_iald dX7_heightOf_55 rfl (by omega) (by decide) ?_
          rw [hH q.toNat (by omega)]
          have hb2 := htS_bd nd un (nd - 1 - q).toNat q.toNat
          refine c_iconst dX7_heightOf_56 ?_
          refine c_iadd dX7_heightOf_57 ?_
          refine z_calls (N := MJ9_max_7cf53) (nas := 2) (as := [_, _]) dX7_heightOf_58 w_376 w_683 w_375 w_12 (by decide +kernel) rfl rfl (Nat.le_of_ble_eq_true rfl) (by decide) (by decide) (ZC.mono (cMJ9_max_7cf53 (by omega) (by omega)) ?_)
          rintro _ _ ⟨rfl, rfl⟩
          refine c_iast dX7_heightOf_61 rfl (by omega) (by decide) ?_
          have hH2 : ∀ p : Nat, (p : Int) < nd → zup J1 11 (un q.toNat).toNat (max (htS nd un (nd - 1 - q).toNat (un q.toNat).toNat) (htS nd un (nd - 1 - q).toNat q.toNat + 1)) 11 p = htS nd un (nd - 1 - (q + -1)).toNat p := by
            intro p hp
            rw [show (nd - 1 - (q + -1)).toNat = (nd - 1 - q).toNat + 1 by omega]
            have e : htS nd un ((nd - 1 - q).toNat + 1) p = if 0 < nd - 1 - (((nd - 1 - q).toNat : Nat) : Int) ∧ (p : Int) = un (nd - 1 - (((nd - 1 - q).toNat : Nat) : Int)).toNat ∧ htS nd un (nd - 1 - q).toNat p < htS nd un (nd - 1 - q).toNat (nd - 1 - (((nd - 1 - q).toNat : Nat) : Int)).toNat + 1 then htS nd un (nd - 1 - q).toNat (nd - 1 - (((nd - 1 - q).toNat : Nat) : Int)).toNat + 1 else htS nd un (nd - 1 - q).toNat p := rfl
            rw [e, show nd - 1 - (((nd - 1 - q).toNat : Nat) : Int) = q by omega]
            by_cases e2 : p = (un q.toNat).toNat
            · rw [← e2, zz]
              by_cases e3 : htS nd un (nd - 1 - q).toNat p < htS nd un (nd - 1 - q).toNat q.toNat + 1
              · rw [if_pos ⟨by omega, by omega, e3⟩]; omega
              · rw [if_neg (fun z => e3 z.2.2)]; omega
            · rw [zzi e2, if_neg (by omega)]; exact hH p hp
          refine c_iinc dX7_heightOf_62 rfl (by decide) rfl ?_
          refine z_goto (tgt := 15) dX7_heightOf_65 (by decide) ?_
          exact Z.fg2 (ih15 _ (by omega) _ _ rfl (by omega) hH2 (fun a ha => by rw [zup_ne ha]; exact ho a ha)) (zs1 rfl (zs1 rfl (zs1 rfl zs0)))
  exact Z.fg2 (L15 _ _ _ rfl (by omega) (fun p hp => by rw [if_pos ⟨rfl, by omega⟩, show (nd - 1 - (nd - 1)).toNat = 0 by omega]; rfl) (fun a ha => by funext p; rw [if_neg (fun z => ha z.1)])) (zs1 rfl (zs1 rfl (zs1 rfl zs0)))
set_option maxHeartbeats 4000000 in
set_option maxRecDepth 100000 in
theorem cMX7_leavesOf {x : Int} {nd : Int} {un : Nat → Int} (hnd : J 7 0 = nd) (hun : ∀ q : Nat, (q : Int) < nd → J 9 q = un q) (hU : okU nd un) (hx : 0 ≤ x ∧ x < nd) : ZC g l MX7_leavesOf [.ref 7, .int (iZ x)] (KF Kd, zi J, zj P, RF Rd, n, s0) (fun rr hh => rr = some (.int (iZ (lvC nd un x))) ∧ hh = (KF Kd, zi J, zj P, RF Rd, n, s0)) := by
  refine ZC.of (by decide) (Nat.le_of_ble_eq_true rfl) ?_
  generalize hQ0 : (fun rr hh => rr = some (.int (iZ (lvC nd un x))) ∧ hh = (KF Kd, zi J, zj P, RF Rd, n, s0) : Option Value → ZH → Prop) = Q0
  show Z g l MX7_leavesOf 0 [some (.ref 7), some (.int (iZ x)), none, none] [] (KF Kd, zi J, zj P, RF Rd, n, s0) Q0
  have hU1 := hU.1
  have hU2 := hU.2.1
  refine c_iconst dX7_leavesOf_0 ?_
  refine z_istore_n dX7_leavesOf_1 rfl (by decide) rfl ?_
  refine z_iload_n dX7_leavesOf_2 rfl rfl ?_
  refine z_istore_n dX7_leavesOf_3 rfl (by decide) rfl ?_
  have L4 : ∀ (m4 : Nat), ∀ (q w : Int), (nd - q).toNat = m4 → (x ≤ q ∧ q ≤ nd) → (w = cnt (plf nd un x x) q.toNat) → Z g l MX7_leavesOf 4 [some (.ref 7), some (.int (iZ x)), some (.int (iZ w)), some (.int (iZ q))] [] (KF Kd, zi J, zj P, RF Rd, n, s0) Q0 := by
    intro m4
    induction m4 using Nat.strongRecOn with
    | ind m4 ih4 =>
      intro q w hm4 hq hw
      refine z_iload_n dX7_leavesOf_4 rfl rfl ?_
      refine z_aload_n dX7_leavesOf_5 rfl rfl ?_
      refine c_getI (ci := 7) (kf := 0) dX7_leavesOf_6 rfl (by decide) (by decide) rfl w_31 ?_
      rw [hnd]
      refine c_icmp_ge (tgt := 38) dX7_leavesOf_9 (by decide) (by omega) (by omega) (fun h9 => ?_) (fun h9 => ?_)
      · refine z_iload_n dX7_leavesOf_38 rfl rfl ?_
        refine c_ireturn dX7_leavesOf_39 rfl ?_
        subst hQ0; refine ⟨?_, rfl⟩; rw [hw, show q = nd by omega]; rfl
      · have hpl : plf nd un x x q.toNat = (decide (dirF un q nd.toNat = 0) && decide (climb 30 un x q = x)) := by unfold plf; rw [Int.toNat_of_nonneg (by omega)]
        refine z_aload_n dX7_leavesOf_12 rfl rfl ?_
        refine z_iload_n dX7_leavesOf_13 rfl rfl ?_
        refine z_iload_n dX7_leavesOf_14 rfl rfl ?_
        refine z_callv (N := MX7_isWithin) (ci := 7) (nas := 2) (as := [_, _]) dX7_leavesOf_15 w_691 w_688 w_689 w_690 w_2 (by decide +kernel) rfl rfl rfl (by decide) (Nat.le_of_ble_eq_true rfl) (by decide) (by decide) (ZC.mono (cMX7_isWithin hnd hun hU hx (by omega)) ?_)
        rintro _ _ ⟨b15, rfl, rfl, hb15⟩
        refine c_if_eq (tgt := 32) dX7_leavesOf_18 (by decide) (by omega) (fun h18 => ?_) (fun h18 => ?_)
        · have g15 := (hb15.resolve_left (fun z => by have := z.1; omega)).2
          clear hb15
          refine c_iinc dX7_leavesOf_32 rfl (by decide) rfl ?_
          refine z_goto (tgt := 4) dX7_leavesOf_35 (by decide) ?_
          exact Z.fg2 (ih4 _ (by omega) _ _ rfl (by omega) (by rw [show (q + 1).toNat = q.toNat + 1 by omega, show cnt (plf nd un x x) (q.toNat + 1) = cnt (plf nd un x x) q.toNat + (if plf nd un x x q.toNat then 1 else 0) from rfl, hpl]; first | (rw [decide_eq_true (by omega), decide_eq_true g15]; simp; omega) | (rw [decide_eq_false (by omega)]; simp; omega) | (rw [decide_eq_false g15]; simp; omega))) (zs1 rfl (zs1 rfl (zs1 rfl (zs1 rfl zs0))))
        · have g15 := (hb15.resolve_right (fun z => by have := z.1; omega)).2
          clear hb15
          refine z_aload_n dX7_leavesOf_21 rfl rfl ?_
          refine z_iload_n dX7_leavesOf_22 rfl rfl ?_
          refine z_callv (N := MX7_under) (ci := 7) (nas := 1) (as := [_]) dX7_leavesOf_23 w_677 w_692 w_675 w_676 w_2 (by decide +kernel) rfl rfl rfl (by decide) (Nat.le_of_ble_eq_true rfl) (by decide) (by decide) (ZC.mono (cMX7_under hnd hun hU (by omega)) ?_)
          rintro _ _ ⟨rfl, rfl⟩
          have hd26 : 0 ≤ dirF un q nd.toNat ∧ dirF un q nd.toNat ≤ nd.toNat := cnt_bd _ _
          refine c_if_ne (tgt := 32) dX7_leavesOf_26 (by decide) (by omega) (fun h26 => ?_) (fun h26 => ?_)
          · refine c_iinc dX7_leavesOf_32 rfl (by decide) rfl ?_
            refine z_goto (tgt := 4) dX7_leavesOf_35 (by decide) ?_
            exact Z.fg2 (ih4 _ (by omega) _ _ rfl (by omega) (by rw [show (q + 1).toNat = q.toNat + 1 by omega, show cnt (plf nd un x x) (q.toNat + 1) = cnt (plf nd un x x) q.toNat + (if plf nd un x x q.toNat then 1 else 0) from rfl, hpl]; first | (rw [decide_eq_true (by omega), decide_eq_true g15]; simp; omega) | (rw [decide_eq_false (by omega)]; simp; omega) | (rw [decide_eq_false g15]; simp; omega))) (zs1 rfl (zs1 rfl (zs1 rfl (zs1 rfl zs0))))
          · refine c_iinc dX7_leavesOf_29 rfl (by decide) rfl ?_
            refine c_iinc dX7_leavesOf_32 rfl (by decide) rfl ?_
            refine z_goto (tgt := 4) dX7_leavesOf_35 (by decide) ?_
            exact Z.fg2 (ih4 _ (by omega) _ _ rfl (by omega) (by rw [show (q + 1).toNat = q.toNat + 1 by omega, show cnt (plf nd un x x) (q.toNat + 1) = cnt (plf nd un x x) q.toNat + (if plf nd un x x q.toNat then 1 else 0) from rfl, hpl]; first | (rw [decide_eq_true (by omega), decide_eq_true g15]; simp; omega) | (rw [decide_eq_false (by omega)]; simp; omega) | (rw [decide_eq_false g15]; simp; omega))) (zs1 rfl (zs1 rfl (zs1 rfl (zs1 rfl zs0))))
  exact Z.fg2 (L4 _ _ _ rfl (by omega) (cnt_none (fun i hi => by unfold plf; rw [climb_stop (by omega)]; simp; omega)).symm) (zs1 rfl (zs1 rfl (zs1 rfl (zs1 rfl zs0))))
set_option maxHeartbeats 4000000 in
set_option maxRecDepth 100000 in
theorem cMX7_firstUnder {x f : Int} {nd : Int} {un : Nat → Int} (hnd : J 7 0 = nd) (hun : ∀ q : Nat, (q : Int) < nd → J 9 q = un q) (hU : okU nd un) (hx : rI x) (hf : 0 ≤ f ∧ f ≤ nd) : ZC g l MX7_firstUnder [.ref 7, .int (iZ x), .int (iZ f)] (KF Kd, zi J, zj P, RF Rd, n, s0) (fun rr hh => rr = some (.int (iZ (fund (nd - f).toNat un x f))) ∧ hh = (KF Kd, zi J, zj P, RF Rd, n, s0)) := by
  refine ZC.of (by decide) (Nat.le_of_ble_eq_true rfl) ?_
  generalize hQ0 : (fun rr hh => rr = some (.int (iZ (fund (nd - f).toNat un x f))) ∧ hh = (KF Kd, zi J, zj P, RF Rd, n, s0) : Option Value → ZH → Prop) = Q0
  show Z g l MX7_firstUnder 0 [some (.ref 7), some (.int (iZ x)), some (.int (iZ f)), none] [] (KF Kd, zi J, zj P, RF Rd, n, s0) Q0
  have hU1 := hU.1
  have hU2 := hU.2.1
  refine z_iload_n dX7_firstUnder_0 rfl rfl ?_
  refine z_istore_n dX7_firstUnder_1 rfl (by decide) rfl ?_
  have L2 : ∀ (m2 : Nat), ∀ (q : Int), (nd - q).toNat = m2 → (f ≤ q ∧ q ≤ nd) → (fund (nd - f).toNat un x f = fund (nd - q).toNat un x q) → Z g l MX7_firstUnder 2 [some (.ref 7), some (.int (iZ x)), some (.int (iZ f)), some (.int (iZ q))] [] (KF Kd, zi J, zj P, RF Rd, n, s0) Q0 := by
    intro m2
    induction m2 using Nat.strongRecOn with
    | ind m2 ih2 =>
      intro q hm2 hq hw
      refine z_iload_n dX7_firstUnder_2 rfl rfl ?_
      refine z_aload_n dX7_firstUnder_3 rfl rfl ?_
      refine c_getI (ci := 7) (kf := 0) dX7_firstUnder_4 rfl (by decide) (by decide) rfl w_31 ?_
      rw [hnd]
      refine c_icmp_ge (tgt := 28) dX7_firstUnder_7 (by decide) (by omega) (by omega) (fun h7 => ?_) (fun h7 => ?_)
      · refine c_bipush dX7_firstUnder_28 (by decide) ?_
        refine c_ireturn dX7_firstUnder_30 rfl ?_
        subst hQ0; refine ⟨?_, rfl⟩; rw [hw, show (nd - q).toNat = 0 by omega]; rfl
      · refine z_aload_n dX7_firstUnder_10 rfl rfl ?_
        refine z_getR (ci := 7) (kf := 2) dX7_firstUnder_11 rfl (by decide) (by decide) rfl w_35 rfl ?_
        refine z_iload_n dX7_firstUnder_14 rfl rfl ?_
        refine c_iald dX7_firstUnder_15 rfl (by omega) (by decide) ?_
        rw [hun q.toNat (by omega)]
        have hur : rI (un q.toNat) := by
          by_cases e : q = 0
          · have h0 := hU.2.2.1 (by omega); subst e; show rI (un 0); omega
          · have := hU.2.2.2 q.toNat (by omega) (by omega); omega
        have hfs : fund (nd - q).toNat un x q = if un q.toNat = x then q else fund (nd - (q + 1)).toNat un x (q + 1) := by
          rw [show (nd - q).toNat = (nd - (q + 1)).toNat + 1 by omega]; rfl
        refine z_iload_n dX7_firstUnder_16 rfl rfl ?_
        refine c_icmp_ne (tgt := 22) dX7_firstUnder_17 (by decide) (by omega) (by omega) (fun h17 => ?_) (fun h17 => ?_)
        · refine c_iinc dX7_firstUnder_22 rfl (by decide) rfl ?_
          refine z_goto (tgt := 2) dX7_firstUnder_25 (by decide) ?_
          exact Z.fg2 (ih2 _ (by omega) _ rfl (by omega) (by rw [hw, hfs, if_neg (by omega)])) (zs1 rfl (zs1 rfl (zs1 rfl (zs1 rfl zs0))))
        · refine z_iload_n dX7_firstUnder_20 rfl rfl ?_
          refine c_ireturn dX7_firstUnder_21 rfl ?_
          subst hQ0; refine ⟨?_, rfl⟩; rw [hw, hfs, if_pos (by omega)]
  exact Z.fg2 (L2 _ _ rfl (by omega) rfl) (zs1 rfl (zs1 rfl (zs1 rfl (zs1 rfl zs0))))
set_option maxHeartbeats 4000000 in
set_option maxRecDepth 100000 in
theorem cMX7_following {x : Int} {nd : Int} {un : Nat → Int} (hnd : J 7 0 = nd) (hun : ∀ q : Nat, (q : Int) < nd → J 9 q = un q) (hU : okU nd un) (hx : 0 ≤ x ∧ x < nd) : ZC g l MX7_following [.ref 7, .int (iZ x)] (KF Kd, zi J, zj P, RF Rd, n, s0) (fun rr hh => rr = some (.int (iZ (if behS nd un x = -2 then 0 else behS nd un x))) ∧ hh = (KF Kd, zi J, zj P, RF Rd, n, s0)) := by
  refine ZC.of (by decide) (Nat.le_of_ble_eq_true rfl) ?_
  generalize hQ0 : (fun rr hh => rr = some (.int (iZ (if behS nd un x = -2 then 0 else behS nd un x))) ∧ hh = (KF Kd, zi J, zj P, RF Rd, n, s0) : Option Value → ZH → Prop) = Q0
  show Z g l MX7_following 0 [some (.ref 7), some (.int (iZ x)), none, none, none] [] (KF Kd, zi J, zj P, RF Rd, n, s0) Q0
  have hU1 := hU.1
  have hU2 := hU.2.1
  refine z_aload_n dX7_following_0 rfl rfl ?_
  refine z_iload_n dX7_following_1 rfl rfl ?_
  refine z_iload_n dX7_following_2 rfl rfl ?_
  refine c_iconst dX7_following_3 ?_
  refine c_iadd dX7_following_4 ?_
  refine z_callv (N := MX7_firstUnder) (ci := 7) (nas := 2) (as := [_, _]) dX7_following_5 w_713 w_710 w_712 ws_17 w_2 (by decide +kernel) rfl rfl rfl (by decide) (Nat.le_of_ble_eq_true rfl) (by decide) (by decide) (ZC.mono (cMX7_firstUnder hnd hun hU (by omega) (by omega)) ?_)
  rintro _ _ ⟨rfl, rfl⟩
  have hbs : behS nd un x = upB nd un 30 x (fund (nd - (x + 1)).toNat un x (x + 1)) := by unfold behS; rw [fund_skip hU hx]
  have hfb := fund_bd un x (nd - (x + 1)).toNat (x + 1)
  refine z_istore_n dX7_following_8 rfl (by decide) rfl ?_
  refine z_iload_n dX7_following_9 rfl rfl ?_
  refine z_istore_n dX7_following_10 rfl (by decide) rfl ?_
  refine c_iconst dX7_following_11 ?_
  refine z_istore dX7_following_12 (by decide) rfl ?_
  have L14 : ∀ (m14 : Nat), ∀ (nx q k : Int), (30 - k).toNat = m14 → (0 ≤ q ∧ q < nd) → (0 ≤ k ∧ k ≤ 30) → (nx = -2 ∨ (0 ≤ nx ∧ nx < nd)) → (behS nd un x = upB nd un (30 - k).toNat q nx) → Z g l MX7_following 14 [some (.ref 7), some (.int (iZ x)), some (.int (iZ nx)), some (.int (iZ q)), some (.int (iZ k))] [] (KF Kd, zi J, zj P, RF Rd, n, s0) Q0 := by
    intro m14
    induction m14 using Nat.strongRecOn with
    | ind m14 ih14 =>
      intro nx q k hm14 hq hk hn hb
      refine z_iload dX7_following_14 rfl ?_
      refine c_bipush dX7_following_16 (by decide) ?_
      refine c_icmp_ge (tgt := 58) dX7_following_18 (by decide) (by omega) (by omega) (fun h18 => ?_) (fun h18 => ?_)
      · have hend : behS nd un x = nx := by
          rw [hb]
          by_cases e : k = 30
          · rw [show (30 - k).toNat = 0 by omega]; rfl
          · exact upB_stop (by omega) _
        refine z_iload_n dX7_following_58 rfl rfl ?_
        refine c_bipush dX7_following_59 (by decide) ?_
        refine c_icmp_ne (tgt := 68) dX7_following_61 (by decide) (by omega) (by omega) (fun h61 => ?_) (fun h61 => ?_)
        · refine z_iload_n dX7_following_68 rfl rfl ?_
          refine c_ireturn dX7_following_69 rfl ?_
          subst hQ0; refine ⟨?_, rfl⟩; rw [hend]; first | (exfalso; omega) | rw [if_pos (by omega)] | rw [if_neg (by omega)]
        · refine c_iconst dX7_following_64 ?_
          refine z_goto (tgt := 69) dX7_following_65 (by decide) ?_
          refine c_ireturn dX7_following_69 rfl ?_
          subst hQ0; refine ⟨?_, rfl⟩; rw [hend]; first | (exfalso; omega) | rw [if_pos (by omega)] | rw [if_neg (by omega)]
      · refine z_iload_n dX7_following_21 rfl rfl ?_
        refine c_bipush dX7_following_22 (by decide) ?_
        refine c_icmp_ne (tgt := 58) dX7_following_24 (by decide) (by omega) (by omega) (fun h24 => ?_) (fun h24 => ?_)
        · have hend : behS nd un x = nx := by
            rw [hb]
            by_cases e : k = 30
            · rw [show (30 - k).toNat = 0 by omega]; rfl
            · exact upB_stop (by omega) _
          refine z_iload_n dX7_following_58 rfl rfl ?_
          refine c_bipush dX7_following_59 (by decide) ?_
          refine c_icmp_ne (tgt := 68) dX7_following_61 (by decide) (by omega) (by omega) (fun h61 => ?_) (fun h61 => ?_)
          · refine z_iload_n dX7_following_68 rfl rfl ?_
            refine c_ireturn dX7_following_69 rfl ?_
            subst hQ0; refine ⟨?_, rfl⟩; rw [hend]; first | (exfalso; omega) | rw [if_pos (by omega)] | rw [if_neg (by omega)]
          · refine c_iconst dX7_following_64 ?_
            refine z_goto (tgt := 69) dX7_following_65 (by decide) ?_
            refine c_ireturn dX7_following_69 rfl ?_
            subst hQ0; refine ⟨?_, rfl⟩; rw [hend]; first | (exfalso; omega) | rw [if_pos (by omega)] | rw [if_neg (by omega)]
        · refine z_iload_n dX7_following_27 rfl rfl ?_
          refine c_if_le (tgt := 58) dX7_following_28 (by decide) (by omega) (fun h28 => ?_) (fun h28 => ?_)
          · have hend : behS nd un x = nx := by
              rw [hb]
              by_cases e : k = 30
              · rw [show (30 - k).toNat = 0 by omega]; rfl
              · exact upB_stop (by omega) _
            refine z_iload_n dX7_following_58 rfl rfl ?_
            refine c_bipush dX7_following_59 (by decide) ?_
            refine c_icmp_ne (tgt := 68) dX7_following_61 (by decide) (by omega) (by omega) (fun h61 => ?_) (fun h61 => ?_)
            · refine z_iload_n dX7_following_68 rfl rfl ?_
              refine c_ireturn dX7_following_69 rfl ?_
              subst hQ0; refine ⟨?_, rfl⟩; rw [hend]; first | (exfalso; omega) | rw [if_pos (by omega)] | rw [if_neg (by omega)]
            · refine c_iconst dX7_following_64 ?_
              refine z_goto (tgt := 69) dX7_following_65 (by decide) ?_
              refine c_ireturn dX7_following_69 rfl ?_
              subst hQ0; refine ⟨?_, rfl⟩; rw [hend]; first | (exfalso; omega) | rw [if_pos (by omega)] | rw [if_neg (by omega)]
          · refine z_aload_n dX7_following_31 rfl rfl ?_
            refine z_aload_n dX7_following_32 rfl rfl ?_
            refine z_getR (ci := 7) (kf := 2) dX7_following_33 rfl (by decide) (by decide) rfl w_35 rfl ?_
            refine z_iload_n dX7_following_36 rfl rfl ?_
            refine c_iald dX7_following_37 rfl (by omega) (by decide) ?_
            rw [hun q.toNat (by omega)]
            have huq := hU.2.2.2 q.toNat (by omega) (by omega)
            refine z_iload_n dX7_following_38 rfl rfl ?_
            refine c_iconst dX7_following_39 ?_
            refine c_iadd dX7_following_40 ?_
            refine z_callv (N := MX7_firstUnder) (ci := 7) (nas := 2) (as := [_, _]) dX7_following_41 w_713 w_710 w_712 ws_17 w_2 (by decide +kernel) rfl rfl rfl (by decide) (Nat.le_of_ble_eq_true rfl) (by decide) (by decide) (ZC.mono (cMX7_firstUnder hnd hun hU (by omega) (by omega)) ?_)
            rintro _ _ ⟨rfl, rfl⟩
            have hfb2 := fund_bd un (un q.toNat) (nd - (q + 1)).toNat (q + 1)
            refine z_istore_n dX7_following_44 rfl (by decide) rfl ?_
            refine z_aload_n dX7_following_45 rfl rfl ?_
            refine z_getR (ci := 7) (kf := 2) dX7_following_46 rfl (by decide) (by decide) rfl w_35 rfl ?_
            refine z_iload_n dX7_following_49 rfl rfl ?_
            refine c_iald dX7_following_50 rfl (by omega) (by decide) ?_
            rw [hun q.toNat (by omega)]
            refine z_istore_n dX7_following_51 rfl (by decide) rfl ?_
            refine c_iinc dX7_following_52 rfl (by decide) rfl ?_
            refine z_goto (tgt := 14) dX7_following_55 (by decide) ?_
            exact Z.fg2 (ih14 _ (by omega) _ _ _ rfl (by omega) (by omega) (by omega) (by rw [hb, show (30 - k).toNat = (30 - (k + 1)).toNat + 1 by omega, upB, if_pos (by omega)])) (zs1 rfl (zs1 rfl (zs1 rfl (zs1 rfl (zs1 rfl zs0)))))
  exact Z.fg2 (L14 _ _ _ 0 rfl (by omega) (by omega) (by omega) hbs) (zs1 rfl (zs1 rfl (zs1 rfl (zs1 rfl (zs1 rfl zs0)))))
set_option maxHeartbeats 4000000 in
set_option maxRecDepth 100000 in
theorem cMX7_truncate {m : Int} (hm : 0 ≤ m ∧ m ≤ 30) : ZC g l MX7_truncate [.ref 7, .int (iZ m)] (KF Kd, zi J, zj P, RF Rd, n, s0) (fun rr hh => rr = none ∧ ∃ Rd' : ZR, hh = (KF Kd, zi (zup J 7 0 m), zj P, RF Rd', n, s0) ∧ (∀ q, Rd' 8 q = if m ≤ (q : Int) ∧ q < 30 then none else Rd 8 q) ∧ ∀ a, a ≠ 8 → Rd' a = Rd a) := by
  refine ZC.of (by decide) (Nat.le_of_ble_eq_true rfl) ?_
  generalize hQ0 : (fun rr hh => rr = none ∧ ∃ Rd' : ZR, hh = (KF Kd, zi (zup J 7 0 m), zj P, RF Rd', n, s0) ∧ (∀ q, Rd' 8 q = if m ≤ (q : Int) ∧ q < 30 then none else Rd 8 q) ∧ ∀ a, a ≠ 8 → Rd' a = Rd a : Option Value → ZH → Prop) = Q0
  show Z g l MX7_truncate 0 [some (.ref 7), some (.int (iZ m)), none] [] (KF Kd, zi J, zj P, RF Rd, n, s0) Q0
  refine z_iload_n dX7_truncate_0 rfl rfl ?_
  refine z_istore_n dX7_truncate_1 rfl (by decide) rfl ?_
  have L2 : ∀ (m2 : Nat), ∀ (q : Int) (R1 : ZR), (30 - q).toNat = m2 → (m ≤ q ∧ q ≤ 30) → (∀ p, R1 8 p = if m ≤ (p : Int) ∧ (p : Int) < q then none else Rd 8 p) → (∀ a, a ≠ 8 → R1 a = Rd a) → Z g l MX7_truncate 2 [some (.ref 7), some (.int (iZ m)), some (.int (iZ q))] [] (KF Kd, zi J, zj P, RF R1, n, s0) Q0 := by
    intro m2
    induction m2 using Nat.strongRecOn with
    | ind m2 ih2 =>
      intro q R1 hm2 hq hR ho
      refine z_iload_n dX7_truncate_2 rfl rfl ?_
      refine c_bipush dX7_truncate_3 (by decide) ?_
      refine c_icmp_ge (tgt := 21) dX7_truncate_5 (by decide) (by omega) (by omega) (fun h5 => ?_) (fun h5 => ?_)
      · refine z_aload_n dX7_truncate_21 rfl rfl ?_
        refine z_iload_n dX7_truncate_22 rfl rfl ?_
        refine c_putI (ci := 7) (kf := 0) dX7_truncate_23 rfl (by decide) (by decide) rfl (by decide) w_31 ?_
        refine z_return dX7_truncate_26 rfl ?_
        subst hQ0; refine ⟨rfl, R1, rfl, fun p => ?_, ho⟩; rw [hR]; exact ifc (by omega)
      · refine z_aload_n dX7_truncate_8 rfl rfl ?_
        refine z_getR (ci := 7) (kf := 1) dX7_truncate_9 rfl (by decide) (by decide) rfl w_33 rfl ?_
        refine z_iload_n dX7_truncate_12 rfl rfl ?_
        refine z_null dX7_truncate_13 ?_
        refine c_aastN dX7_truncate_14 rfl (by omega) (by decide) ?_
        rw [RF_up (Or.inl rfl)]
        refine c_iinc dX7_truncate_15 rfl (by decide) rfl ?_
        refine z_goto (tgt := 2) dX7_truncate_18 (by decide) ?_
        exact Z.fg2 (ih2 _ (by omega) _ _ rfl (by omega) (fun p => by by_cases e : p = q.toNat; (subst e; rw [zz, if_pos (by omega)]); (rw [zzi e, hR]; exact ifc (by omega))) (fun a ha => by rw [zup_ne ha]; exact ho a ha)) (zs1 rfl (zs1 rfl (zs1 rfl zs0)))
  exact Z.fg2 (L2 _ _ _ rfl (by omega) (fun p => by rw [if_neg (by omega)]) (fun _ _ => rfl)) (zs1 rfl (zs1 rfl (zs1 rfl zs0)))
set_option maxHeartbeats 4000000 in
set_option maxRecDepth 100000 in
theorem cMX7_add {r : Nat} {x k nd : Int} (hK : (KF Kd r).1 = 13) (hnd : J 7 0 = nd) (h30 : 0 ≤ nd ∧ nd < 30) : ZC g l MX7_add [.ref 7, .ref r, .int (iZ x), .int (iZ k)] (KF Kd, zi J, zj P, RF Rd, n, s0) (fun rr hh => rr = some (.int (iZ nd)) ∧ hh = (KF Kd, zi (zup (zup (zup J 9 nd.toNat x) 10 nd.toNat k) 7 0 (nd + 1)), zj P, RF (zup Rd 8 nd.toNat (some r)), n, s0)) := by
  refine ZC.of (by decide) (Nat.le_of_ble_eq_true rfl) ?_
  generalize hQ0 : (fun rr hh => rr = some (.int (iZ nd)) ∧ hh = (KF Kd, zi (zup (zup (zup J 9 nd.toNat x) 10 nd.toNat k) 7 0 (nd + 1)), zj P, RF (zup Rd 8 nd.toNat (some r)), n, s0) : Option Value → ZH → Prop) = Q0
  show Z g l MX7_add 0 [some (.ref 7), some (.ref r), some (.int (iZ x)), some (.int (iZ k))] [] (KF Kd, zi J, zj P, RF Rd, n, s0) Q0
  refine z_aload_n dX7_add_0 rfl rfl ?_
  refine c_getI (ci := 7) (kf := 0) dX7_add_1 rfl (by decide) (by decide) rfl w_31 ?_
  rw [hnd]
  refine c_bipush dX7_add_4 (by decide) ?_
  refine c_icmp_lt (tgt := 12) dX7_add_6 (by decide) (by omega) (by omega) (fun h6 => ?_) (fun h6 => ?_)
  · refine z_aload_n dX7_add_12 rfl rfl ?_
    refine z_getR (ci := 7) (kf := 1) dX7_add_13 rfl (by decide) (by decide) rfl w_33 rfl ?_
    refine z_aload_n dX7_add_16 rfl rfl ?_
    refine c_getI (ci := 7) (kf := 0) dX7_add_17 rfl (by decide) (by decide) rfl w_31 ?_
    rw [hnd]
    refine z_aload_n dX7_add_20 rfl rfl ?_
    refine c_aast (ci := 3) dX7_add_21 rfl (by decide) (by omega) (by decide) hK ?_
    rw [RF_up (Or.inl rfl)]
    refine z_aload_n dX7_add_22 rfl rfl ?_
    refine z_getR (ci := 7) (kf := 2) dX7_add_23 rfl (by decide) (by decide) rfl w_35 rfl ?_
    refine z_aload_n dX7_add_26 rfl rfl ?_
    refine c_getI (ci := 7) (kf := 0) dX7_add_27 rfl (by decide) (by decide) rfl w_31 ?_
    rw [hnd]
    refine z_iload_n dX7_add_30 rfl rfl ?_
    refine c_iast dX7_add_31 rfl (by omega) (by decide) ?_
    refine z_aload_n dX7_add_32 rfl rfl ?_
    refine z_getR (ci := 7) (kf := 3) dX7_add_33 rfl (by decide) (by decide) rfl w_37 rfl ?_
    refine z_aload_n dX7_add_36 rfl rfl ?_
    refine c_getI (ci := 7) (kf := 0) dX7_add_37 rfl (by decide) (by decide) rfl w_31 ?_
    rw [zzr (by decide), hnd]
    refine z_iload_n dX7_add_40 rfl rfl ?_
    refine c_iast dX7_add_41 rfl (by omega) (by decide) ?_
    refine z_aload_n dX7_add_42 rfl rfl ?_
    refine z_dup dX7_add_43 rfl ?_
    refine c_getI (ci := 7) (kf := 0) dX7_add_44 rfl (by decide) (by decide) rfl w_31 ?_
    rw [zzr (by decide), zzr (by decide), hnd]
    refine c_iconst dX7_add_47 ?_
    refine c_iadd dX7_add_48 ?_
    refine c_putI (ci := 7) (kf := 0) dX7_add_49 rfl (by decide) (by decide) rfl (by decide) w_31 ?_
    refine z_aload_n dX7_add_52 rfl rfl ?_
    refine c_getI (ci := 7) (kf := 0) dX7_add_53 rfl (by decide) (by decide) rfl w_31 ?_
    rw [zz]
    refine c_iconst dX7_add_56 ?_
    refine c_isub dX7_add_57 ?_
    refine c_ireturn dX7_add_58 rfl ?_
    subst hQ0; exact ⟨by rw [show nd + 1 - 1 = nd by omega], rfl⟩
  · exact absurd h6 (by omega)
set_option maxHeartbeats 4000000 in
set_option maxRecDepth 100000 in
theorem cMX7_become_12 (hoF : ∀ k, k < 30 → oF Kd n (Rd 8 k)) : ZC g l MX7_become [.ref 12, .ref 7] (KF Kd, zi J, zj P, RF Rd, n, s0) (fun rr hh => rr = none ∧ ∃ (J' : Nat → Nat → Int) (Rd' : ZR), hh = (KF Kd, zi J', zj P, RF Rd', n, s0) ∧ J' 12 0 = J 7 0 ∧ (∀ q, q < 30 → J' 14 q = J 9 q ∧ J' 15 q = J 10 q ∧ Rd' 13 q = Rd 8 q) ∧ (∀ a, a ≠ 12 → a ≠ 14 → a ≠ 15 → J' a = J a) ∧ ∀ a, a ≠ 13 → Rd' a = Rd a) := by
  refine ZC.of (by decide) (Nat.le_of_ble_eq_true rfl) ?_
  generalize hQ0 : (fun rr hh => rr = none ∧ ∃ (J' : Nat → Nat → Int) (Rd' : ZR), hh = (KF Kd, zi J', zj P, RF Rd', n, s0) ∧ J' 12 0 = J 7 0 ∧ (∀ q, q < 30 → J' 14 q = J 9 q ∧ J' 15 q = J 10 q ∧ Rd' 13 q = Rd 8 q) ∧ (∀ a, a ≠ 12 → a ≠ 14 → a ≠ 15 → J' a = J a) ∧ ∀ a, a ≠ 13 → Rd' a = Rd a : Option Value → ZH → Prop) = Q0
  show Z g l MX7_become 0 [some (.ref 12), some (.ref 7), none] [] (KF Kd, zi J, zj P, RF Rd, n, s0) Q0
  refine c_iconst dX7_become_0 ?_
  refine z_istore_n dX7_become_1 rfl (by decide) rfl ?_
  have L2 : ∀ (m2 : Nat), ∀ (k : Int) (J1 : Nat → Nat → Int) (R1 : ZR), (30 - k).toNat = m2 → (0 ≤ k ∧ k ≤ 30) → (∀ q : Nat, (q : Int) < k → J1 14 q = J 9 q ∧ J1 15 q = J 10 q ∧ R1 13 q = Rd 8 q) → (∀ a, a ≠ 14 → a ≠ 15 → J1 a = J a) → (∀ a, a ≠ 13 → R1 a = Rd a) → Z g l MX7_become 2 [some (.ref 12), some (.ref 7), some (.int (iZ k))] [] (KF Kd, zi J1, zj P, RF R1, n, s0) Q0 := by
    intro m2
    induction m2 using Nat.strongRecOn with
    | ind m2 ih2 =>
      intro k J1 R1 hm2 hk hc hoJ hoR
      refine z_iload_n dX7_become_2 rfl rfl ?_
      refine c_bipush dX7_become_3 (by decide) ?_
      refine c_icmp_ge (tgt := 50) dX7_become_5 (by decide) (by omega) (by omega) (fun h5 => ?_) (fun h5 => ?_)
      · refine z_aload_n dX7_become_50 rfl rfl ?_
        refine z_aload_n dX7_become_51 rfl rfl ?_
        refine c_getI (ci := 7) (kf := 0) dX7_become_52 rfl (by decide) (by decide) rfl w_31 ?_
        rw [hoJ 7 (by decide) (by decide)]
        refine c_putI (ci := 7) (kf := 0) dX7_become_55 rfl (by decide) (by decide) rfl (by decide) w_31 ?_
        refine z_return dX7_become_58 rfl ?_
        subst hQ0; refine ⟨rfl, _, R1, rfl, by rw [zz], fun q hq => ?_, fun a a1 a2 a3 => by rw [zup_ne a1]; exact hoJ a a2 a3, hoR⟩
        rw [zzr (by decide), zzr (by decide)]; exact hc q (by omega)
      · refine z_aload_n dX7_become_8 rfl rfl ?_
        refine z_getR (ci := 7) (kf := 1) dX7_become_9 rfl (by decide) (by decide) rfl w_33 rfl ?_
        refine z_iload_n dX7_become_12 rfl rfl ?_
        refine z_aload_n dX7_become_13 rfl rfl ?_
        refine z_getR (ci := 7) (kf := 1) dX7_become_14 rfl (by decide) (by decide) rfl w_33 rfl ?_
        refine z_iload_n dX7_become_17 rfl rfl ?_
        have hx0 : RF R1 8 k.toNat = Rd 8 k.toNat := by show R1 8 k.toNat = _; rw [hoR 8 (by decide)]
        rcases hoF k.toNat (by omega) with hx | ⟨r, hx, hr⟩
        · refine c_aaldN dX7_become_18 (Or.inl rfl) (by omega) (by decide) (hx0.trans hx) ?_
          refine c_aastN dX7_become_19 rfl (by omega) (by decide) ?_
          rw [RF_up (Or.inl rfl)]
          refine z_aload_n dX7_become_20 rfl rfl ?_
          refine z_getR (ci := 7) (kf := 2) dX7_become_21 rfl (by decide) (by decide) rfl w_35 rfl ?_
          refine z_iload_n dX7_become_24 rfl rfl ?_
          refine z_aload_n dX7_become_25 rfl rfl ?_
          refine z_getR (ci := 7) (kf := 2) dX7_become_26 rfl (by decide) (by decide) rfl w_35 rfl ?_
          refine z_iload_n dX7_become_29 rfl rfl ?_
          refine c_iald dX7_become_30 rfl (by omega) (by decide) ?_
          rw [hoJ 9 (by decide) (by decide)]
          refine c_iast dX7_become_31 rfl (by omega) (by decide) ?_
          refine z_aload_n dX7_become_32 rfl rfl ?_
          refine z_getR (ci := 7) (kf := 3) dX7_become_33 rfl (by decide) (by decide) rfl w_37 rfl ?_
          refine z_iload_n dX7_become_36 rfl rfl ?_
          refine z_aload_n dX7_become_37 rfl rfl ?_
          refine z_getR (ci := 7) (kf := 3) dX7_become_38 rfl (by decide) (by decide) rfl w_37 rfl ?_
          refine z_iload_n dX7_become_41 rfl rfl ?_
          refine c_iald dX7_become_42 rfl (by omega) (by decide) ?_
          rw [zzr (by decide), hoJ 10 (by decide) (by decide)]
          refine c_iast dX7_become_43 rfl (by omega) (by decide) ?_
          refine c_iinc dX7_become_44 rfl (by decide) rfl ?_
          refine z_goto (tgt := 2) dX7_become_47 (by decide) ?_
          exact Z.fg2 (ih2 _ (by omega) _ _ _ rfl (by omega) (fun q hq => by by_cases e : q = k.toNat; (subst e; refine ⟨?_, ?_, ?_⟩; (rw [zzr (by decide), zz]); (rw [zz]); (rw [zz, hx])); (rw [zzr (by decide), zzi e, zzi e, zzr (by decide), zzi e]; exact hc q (by omega))) (fun a a1 a2 => by rw [zup_ne a2, zup_ne a1]; exact hoJ a a1 a2) (fun a ha => by rw [zup_ne ha]; exact hoR a ha)) (zs1 rfl (zs1 rfl (zs1 rfl zs0)))
        · refine c_aald dX7_become_18 (Or.inl rfl) (by omega) (by decide) (hx0.trans hx) ?_
          refine c_aast (ci := 3) dX7_become_19 rfl (by decide) (by omega) (by decide) (FA_K1 hr) ?_
          rw [RF_up (Or.inl rfl)]
          refine z_aload_n dX7_become_20 rfl rfl ?_
          refine z_getR (ci := 7) (kf := 2) dX7_become_21 rfl (by decide) (by decide) rfl w_35 rfl ?_
          refine z_iload_n dX7_become_24 rfl rfl ?_
          refine z_aload_n dX7_become_25 rfl rfl ?_
          refine z_getR (ci := 7) (kf := 2) dX7_become_26 rfl (by decide) (by decide) rfl w_35 rfl ?_
          refine z_iload_n dX7_become_29 rfl rfl ?_
          refine c_iald dX7_become_30 rfl (by omega) (by decide) ?_
          rw [hoJ 9 (by decide) (by decide)]
          refine c_iast dX7_become_31 rfl (by omega) (by decide) ?_
          refine z_aload_n dX7_become_32 rfl rfl ?_
          refine z_getR (ci := 7) (kf := 3) dX7_become_33 rfl (by decide) (by decide) rfl w_37 rfl ?_
          refine z_iload_n dX7_become_36 rfl rfl ?_
          refine z_aload_n dX7_become_37 rfl rfl ?_
          refine z_getR (ci := 7) (kf := 3) dX7_become_38 rfl (by decide) (by decide) rfl w_37 rfl ?_
          refine z_iload_n dX7_become_41 rfl rfl ?_
          refine c_iald dX7_become_42 rfl (by omega) (by decide) ?_
          rw [zzr (by decide), hoJ 10 (by decide) (by decide)]
          refine c_iast dX7_become_43 rfl (by omega) (by decide) ?_
          refine c_iinc dX7_become_44 rfl (by decide) rfl ?_
          refine z_goto (tgt := 2) dX7_become_47 (by decide) ?_
          exact Z.fg2 (ih2 _ (by omega) _ _ _ rfl (by omega) (fun q hq => by by_cases e : q = k.toNat; (subst e; refine ⟨?_, ?_, ?_⟩; (rw [zzr (by decide), zz]); (rw [zz]); (rw [zz, hx])); (rw [zzr (by decide), zzi e, zzi e, zzr (by decide), zzi e]; exact hc q (by omega))) (fun a a1 a2 => by rw [zup_ne a2, zup_ne a1]; exact hoJ a a1 a2) (fun a ha => by rw [zup_ne ha]; exact hoR a ha)) (zs1 rfl (zs1 rfl (zs1 rfl zs0)))
  exact Z.fg2 (L2 _ _ _ _ rfl (by omega) (fun q hq => absurd hq (by omega)) (fun _ _ _ => rfl) (fun _ _ => rfl)) (zs1 rfl (zs1 rfl (zs1 rfl zs0)))
set_option maxHeartbeats 4000000 in
set_option maxRecDepth 100000 in
theorem cMX7_become_7 (hoF : ∀ k, k < 30 → oF Kd n (Rd 13 k)) : ZC g l MX7_become [.ref 7, .ref 12] (KF Kd, zi J, zj P, RF Rd, n, s0) (fun rr hh => rr = none ∧ ∃ (J' : Nat → Nat → Int) (Rd' : ZR), hh = (KF Kd, zi J', zj P, RF Rd', n, s0) ∧ J' 7 0 = J 12 0 ∧ (∀ q, q < 30 → J' 9 q = J 14 q ∧ J' 10 q = J 15 q ∧ Rd' 8 q = Rd 13 q) ∧ (∀ a, a ≠ 7 → a ≠ 9 → a ≠ 10 → J' a = J a) ∧ ∀ a, a ≠ 8 → Rd' a = Rd a) := by
  refine ZC.of (by decide) (Nat.le_of_ble_eq_true rfl) ?_
  generalize hQ0 : (fun rr hh => rr = none ∧ ∃ (J' : Nat → Nat → Int) (Rd' : ZR), hh = (KF Kd, zi J', zj P, RF Rd', n, s0) ∧ J' 7 0 = J 12 0 ∧ (∀ q, q < 30 → J' 9 q = J 14 q ∧ J' 10 q = J 15 q ∧ Rd' 8 q = Rd 13 q) ∧ (∀ a, a ≠ 7 → a ≠ 9 → a ≠ 10 → J' a = J a) ∧ ∀ a, a ≠ 8 → Rd' a = Rd a : Option Value → ZH → Prop) = Q0
  show Z g l MX7_become 0 [some (.ref 7), some (.ref 12), none] [] (KF Kd, zi J, zj P, RF Rd, n, s0) Q0
  refine c_iconst dX7_become_0 ?_
  refine z_istore_n dX7_become_1 rfl (by decide) rfl ?_
  have L2 : ∀ (m2 : Nat), ∀ (k : Int) (J1 : Nat → Nat → Int) (R1 : ZR), (30 - k).toNat = m2 → (0 ≤ k ∧ k ≤ 30) → (∀ q : Nat, (q : Int) < k → J1 9 q = J 14 q ∧ J1 10 q = J 15 q ∧ R1 8 q = Rd 13 q) → (∀ a, a ≠ 9 → a ≠ 10 → J1 a = J a) → (∀ a, a ≠ 8 → R1 a = Rd a) → Z g l MX7_become 2 [some (.ref 7), some (.ref 12), some (.int (iZ k))] [] (KF Kd, zi J1, zj P, RF R1, n, s0) Q0 := by
    intro m2
    induction m2 using Nat.strongRecOn with
    | ind m2 ih2 =>
      intro k J1 R1 hm2 hk hc hoJ hoR
      refine z_iload_n dX7_become_2 rfl rfl ?_
      refine c_bipush dX7_become_3 (by decide) ?_
      refine c_icmp_ge (tgt := 50) dX7_become_5 (by decide) (by omega) (by omega) (fun h5 => ?_) (fun h5 => ?_)
      · refine z_aload_n dX7_become_50 rfl rfl ?_
        refine z_aload_n dX7_become_51 rfl rfl ?_
        refine c_getI (ci := 7) (kf := 0) dX7_become_52 rfl (by decide) (by decide) rfl w_31 ?_
        rw [hoJ 12 (by decide) (by decide)]
        refine c_putI (ci := 7) (kf := 0) dX7_become_55 rfl (by decide) (by decide) rfl (by decide) w_31 ?_
        refine z_return dX7_become_58 rfl ?_
        subst hQ0; refine ⟨rfl, _, R1, rfl, by rw [zz], fun q hq => ?_, fun a a1 a2 a3 => by rw [zup_ne a1]; exact hoJ a a2 a3, hoR⟩
        rw [zzr (by decide), zzr (by decide)]; exact hc q (by omega)
      · refine z_aload_n dX7_become_8 rfl rfl ?_
        refine z_getR (ci := 7) (kf := 1) dX7_become_9 rfl (by decide) (by decide) rfl w_33 rfl ?_
        refine z_iload_n dX7_become_12 rfl rfl ?_
        refine z_aload_n dX7_become_13 rfl rfl ?_
        refine z_getR (ci := 7) (kf := 1) dX7_become_14 rfl (by decide) (by decide) rfl w_33 rfl ?_
        refine z_iload_n dX7_become_17 rfl rfl ?_
        have hx0 : RF R1 13 k.toNat = Rd 13 k.toNat := by show R1 13 k.toNat = _; rw [hoR 13 (by decide)]
        rcases hoF k.toNat (by omega) with hx | ⟨r, hx, hr⟩
        · refine c_aaldN dX7_become_18 (Or.inl rfl) (by omega) (by decide) (hx0.trans hx) ?_
          refine c_aastN dX7_become_19 rfl (by omega) (by decide) ?_
          rw [RF_up (Or.inl rfl)]
          refine z_aload_n dX7_become_20 rfl rfl ?_
          refine z_getR (ci := 7) (kf := 2) dX7_become_21 rfl (by decide) (by decide) rfl w_35 rfl ?_
          refine z_iload_n dX7_become_24 rfl rfl ?_
          refine z_aload_n dX7_become_25 rfl rfl ?_
          refine z_getR (ci := 7) (kf := 2) dX7_become_26 rfl (by decide) (by decide) rfl w_35 rfl ?_
          refine z_iload_n dX7_become_29 rfl rfl ?_
          refine c_iald dX7_become_30 rfl (by omega) (by decide) ?_
          rw [hoJ 14 (by decide) (by decide)]
          refine c_iast dX7_become_31 rfl (by omega) (by decide) ?_
          refine z_aload_n dX7_become_32 rfl rfl ?_
          refine z_getR (ci := 7) (kf := 3) dX7_become_33 rfl (by decide) (by decide) rfl w_37 rfl ?_
          refine z_iload_n dX7_become_36 rfl rfl ?_
          refine z_aload_n dX7_become_37 rfl rfl ?_
          refine z_getR (ci := 7) (kf := 3) dX7_become_38 rfl (by decide) (by decide) rfl w_37 rfl ?_
          refine z_iload_n dX7_become_41 rfl rfl ?_
          refine c_iald dX7_become_42 rfl (by omega) (by decide) ?_
          rw [zzr (by decide), hoJ 15 (by decide) (by decide)]
          refine c_iast dX7_become_43 rfl (by omega) (by decide) ?_
          refine c_iinc dX7_become_44 rfl (by decide) rfl ?_
          refine z_goto (tgt := 2) dX7_become_47 (by decide) ?_
          exact Z.fg2 (ih2 _ (by omega) _ _ _ rfl (by omega) (fun q hq => by by_cases e : q = k.toNat; (subst e; refine ⟨?_, ?_, ?_⟩; (rw [zzr (by decide), zz]); (rw [zz]); (rw [zz, hx])); (rw [zzr (by decide), zzi e, zzi e, zzr (by decide), zzi e]; exact hc q (by omega))) (fun a a1 a2 => by rw [zup_ne a2, zup_ne a1]; exact hoJ a a1 a2) (fun a ha => by rw [zup_ne ha]; exact hoR a ha)) (zs1 rfl (zs1 rfl (zs1 rfl zs0)))
        · refine c_aald dX7_become_18 (Or.inl rfl) (by omega) (by decide) (hx0.trans hx) ?_
          refine c_aast (ci := 3) dX7_become_19 rfl (by decide) (by omega) (by decide) (FA_K1 hr) ?_
          rw [RF_up (Or.inl rfl)]
          refine z_aload_n dX7_become_20 rfl rfl ?_
          refine z_getR (ci := 7) (kf := 2) dX7_become_21 rfl (by decide) (by decide) rfl w_35 rfl ?_
          refine z_iload_n dX7_become_24 rfl rfl ?_
          refine z_aload_n dX7_become_25 rfl rfl ?_
          refine z_getR (ci := 7) (kf := 2) dX7_become_26 rfl (by decide) (by decide) rfl w_35 rfl ?_
          refine z_iload_n dX7_become_29 rfl rfl ?_
          refine c_iald dX7_become_30 rfl (by omega) (by decide) ?_
          rw [hoJ 14 (by decide) (by decide)]
          refine c_iast dX7_become_31 rfl (by omega) (by decide) ?_
          refine z_aload_n dX7_become_32 rfl rfl ?_
          refine z_getR (ci := 7) (kf := 3) dX7_become_33 rfl (by decide) (by decide) rfl w_37 rfl ?_
          refine z_iload_n dX7_become_36 rfl rfl ?_
          refine z_aload_n dX7_become_37 rfl rfl ?_
          refine z_getR (ci := 7) (kf := 3) dX7_become_38 rfl (by decide) (by decide) rfl w_37 rfl ?_
          refine z_iload_n dX7_become_41 rfl rfl ?_
          refine c_iald dX7_become_42 rfl (by omega) (by decide) ?_
          rw [zzr (by decide), hoJ 15 (by decide) (by decide)]
          refine c_iast dX7_become_43 rfl (by omega) (by decide) ?_
          refine c_iinc dX7_become_44 rfl (by decide) rfl ?_
          refine z_goto (tgt := 2) dX7_become_47 (by decide) ?_
          exact Z.fg2 (ih2 _ (by omega) _ _ _ rfl (by omega) (fun q hq => by by_cases e : q = k.toNat; (subst e; refine ⟨?_, ?_, ?_⟩; (rw [zzr (by decide), zz]); (rw [zz]); (rw [zz, hx])); (rw [zzr (by decide), zzi e, zzi e, zzr (by decide), zzi e]; exact hc q (by omega))) (fun a a1 a2 => by rw [zup_ne a2, zup_ne a1]; exact hoJ a a1 a2) (fun a ha => by rw [zup_ne ha]; exact hoR a ha)) (zs1 rfl (zs1 rfl (zs1 rfl zs0)))
  exact Z.fg2 (L2 _ _ _ _ rfl (by omega) (fun q hq => absurd hq (by omega)) (fun _ _ _ => rfl) (fun _ _ => rfl)) (zs1 rfl (zs1 rfl (zs1 rfl zs0)))
end Cls9
