section Ref16
variable {g : ZG} {l : Launch} {Kd : ZK} {Rd : ZR} {n s0 : Nat} {J P : Nat → Nat → Int}
theorem lackN_zero {f : Nat → Int} {r : Int} {k : Nat} (h : lackN f r k = 0) : ∀ i : Int, 0 ≤ i ∧ i < k → f (ruleA r i).toNat ≠ 0 := by
  induction k with
  | zero => intro i hi; omega
  | succ k ih =>
    unfold lackN at h
    have hb := lackN_bd f r k
    split at h
    · omega
    · rename_i hn
      intro i hi
      by_cases e : i = (k : Int)
      · rw [e]; exact hn
      · exact ih h i (by omega)
theorem fst_at {K : Nat → Int} {x : V4} {v j : Int} (h : K (4 * v.toNat) = x.1 ∧ K (4 * v.toNat + 1) = x.2.1 ∧ K (4 * v.toNat + 2) = x.2.2.1 ∧ K (4 * v.toNat + 3) = x.2.2.2) (hv : 0 ≤ v) (hj : 0 ≤ j ∧ j ≤ 3) : K (4 * v + j).toNat = vAt x j := by
  unfold vAt
  rcases (show j = 0 ∨ j = 1 ∨ j = 2 ∨ j = 3 by omega) with e | e | e | e <;> subst e <;> simp only [Int.reduceEq, if_true, if_false]
  · rw [show (4 * v + 0).toNat = 4 * v.toNat by omega]; exact h.1
  · rw [show (4 * v + 1).toNat = 4 * v.toNat + 1 by omega]; exact h.2.1
  · rw [show (4 * v + 2).toNat = 4 * v.toNat + 2 by omega]; exact h.2.2.1
  · rw [show (4 * v + 3).toNat = 4 * v.toNat + 3 by omega]; exact h.2.2.2
set_option maxHeartbeats 4000000 in
set_option maxRecDepth 100000 in
theorem cMX9_lackMany {r nl : Int} {E : Nat → Int} (hr : 0 ≤ r ∧ r < 3) (hC : CN nl E J) (hR : okR J) : ZC g l MX9_lackMany [.ref 42, .int (iZ r)] (KF Kd, zi J, zj P, RF Rd, n, s0) (fun rr hh => rr = some (.int (iZ (lackN (cF nl E) r (ruleN r).toNat))) ∧ hh = (KF Kd, zi J, zj P, RF Rd, n, s0)) := by
  refine ZC.of (by decide) (Nat.le_of_ble_eq_true rfl) ?_
  generalize hQ0 : (fun rr hh => rr = some (.int (iZ (lackN (cF nl E) r (ruleN r).toNat))) ∧ hh = (KF Kd, zi J, zj P, RF Rd, n, s0) : Option Value → ZH → Prop) = Q0
  show Z g l MX9_lackMany 0 [some (.ref 42), some (.int (iZ r)), none, none] [] (KF Kd, zi J, zj P, RF Rd, n, s0) Q0
  have hrn := ruleN_bd r
  refine c_iconst dX9_lackMany_0 ?_
  refine z_istore_n dX9_lackMany_1 rfl (by decide) rfl ?_
  refine c_iconst dX9_lackMany_2 ?_
  refine z_istore_n dX9_lackMany_3 rfl (by decide) rfl ?_
  have L4 : ∀ (m4 : Nat), ∀ (i c : Int), (ruleN r - i).toNat = m4 → (0 ≤ i ∧ i ≤ ruleN r) → (c = lackN (cF nl E) r i.toNat) → Z g l MX9_lackMany 4 [some (.ref 42), some (.int (iZ r)), some (.int (iZ c)), some (.int (iZ i))] [] (KF Kd, zi J, zj P, RF Rd, n, s0) Q0 := by
    intro m4
    induction m4 using Nat.strongRecOn with
    | ind m4 ih4 =>
      intro i c hm4 hi hc
      refine z_iload_n dX9_lackMany_4 rfl rfl ?_
      refine z_iload_n dX9_lackMany_5 rfl rfl ?_
      refine z_calls (N := MX9_ruleMany) (nas := 1) (as := [_]) dX9_lackMany_6 w_1086 w_1084 w_1085 w_8 (by decide +kernel) rfl rfl (Nat.le_of_ble_eq_true rfl) (by decide) (by decide) (ZC.mono (cMX9_ruleMany (by omega)) ?_)
      rintro _ _ ⟨rfl, rfl⟩
      refine c_icmp_ge (tgt := 40) dX9_lackMany_9 (by decide) (by omega) (by omega) (fun h9 => ?_) (fun h9 => ?_)
      · refine z_iload_n dX9_lackMany_40 rfl rfl ?_
        refine c_ireturn dX9_lackMany_41 rfl ?_
        subst hQ0; refine ⟨?_, rfl⟩; rw [hc, show i.toNat = (ruleN r).toNat by omega]
      · have hra := ruleA_bd (r := r) (i := i) hr (by omega)
        have hcv := hC (ruleA r i).toNat (by omega)
        have hlb := lackN_bd (cF nl E) r i.toNat
        refine z_iload_n dX9_lackMany_12 rfl rfl ?_
        refine z_aload_n dX9_lackMany_13 rfl rfl ?_
        refine z_getR (ci := 9) (kf := 14) dX9_lackMany_14 rfl (by decide) (by decide) rfl w_790 rfl ?_
        refine z_aload_n dX9_lackMany_17 rfl rfl ?_
        refine z_iload_n dX9_lackMany_18 rfl rfl ?_
        refine z_iload_n dX9_lackMany_19 rfl rfl ?_
        refine z_callv (N := MX9_ruledAt) (ci := 9) (nas := 2) (as := [_, _]) dX9_lackMany_20 w_1090 w_1087 w_1089 ws_39 w_8 (by decide +kernel) rfl rfl rfl (by decide) (Nat.le_of_ble_eq_true rfl) (by decide) (by decide) (ZC.mono (cMX9_ruledAt (by omega) (by omega) hR) ?_)
        rintro _ _ ⟨rfl, rfl⟩
        refine c_iald dX9_lackMany_23 rfl (by omega) (by decide) ?_
        refine c_if_ne (tgt := 31) dX9_lackMany_24 (by decide) (by omega) (fun h24 => ?_) (fun h24 => ?_)
        · refine c_iconst dX9_lackMany_31 ?_
          refine c_iadd dX9_lackMany_32 ?_
          refine z_istore_n dX9_lackMany_33 rfl (by decide) rfl ?_
          refine c_iinc dX9_lackMany_34 rfl (by decide) rfl ?_
          refine z_goto (tgt := 4) dX9_lackMany_37 (by decide) ?_
          exact Z.fg2 (ih4 _ (by omega) _ _ rfl (by omega) (by rw [show (i + 1).toNat = i.toNat + 1 by omega, lackN, show ((i.toNat : Nat) : Int) = i by omega]; first | rw [if_pos (by omega), hc] | rw [if_neg (by omega), hc, Int.add_zero])) (zs1 rfl (zs1 rfl (zs1 rfl (zs1 rfl zs0))))
        · refine c_iconst dX9_lackMany_27 ?_
          refine z_goto (tgt := 32) dX9_lackMany_28 (by decide) ?_
          refine c_iadd dX9_lackMany_32 ?_
          refine z_istore_n dX9_lackMany_33 rfl (by decide) rfl ?_
          refine c_iinc dX9_lackMany_34 rfl (by decide) rfl ?_
          refine z_goto (tgt := 4) dX9_lackMany_37 (by decide) ?_
          exact Z.fg2 (ih4 _ (by omega) _ _ rfl (by omega) (by rw [show (i + 1).toNat = i.toNat + 1 by omega, lackN, show ((i.toNat : Nat) : Int) = i by omega]; first | rw [if_pos (by omega), hc] | rw [if_neg (by omega), hc, Int.add_zero])) (zs1 rfl (zs1 rfl (zs1 rfl (zs1 rfl zs0))))
  exact Z.fg2 (L4 _ _ _ rfl (by omega) rfl) (zs1 rfl (zs1 rfl (zs1 rfl (zs1 rfl zs0))))
set_option maxHeartbeats 4000000 in
set_option maxRecDepth 100000 in
theorem cMX9_greatestLack {nl : Int} {E : Nat → Int} (hC : CN nl E J) (hR : okR J) : ZC g l MX9_greatestLack [.ref 42] (KF Kd, zi J, zj P, RF Rd, n, s0) (fun rr hh => rr = some (.int (iZ (glD (cF nl E) 9))) ∧ hh = (KF Kd, zi J, zj P, RF Rd, n, s0)) := by
  refine ZC.of (by decide) (Nat.le_of_ble_eq_true rfl) ?_
  generalize hQ0 : (fun rr hh => rr = some (.int (iZ (glD (cF nl E) 9))) ∧ hh = (KF Kd, zi J, zj P, RF Rd, n, s0) : Option Value → ZH → Prop) = Q0
  show Z g l MX9_greatestLack 0 [some (.ref 42), none, none] [] (KF Kd, zi J, zj P, RF Rd, n, s0) Q0
  have hrn : ruleN 0 = 9 := rfl
  refine c_iconst dX9_greatestLack_0 ?_
  refine z_istore_n dX9_greatestLack_1 rfl (by decide) rfl ?_
  refine c_iconst dX9_greatestLack_2 ?_
  refine z_istore_n dX9_greatestLack_3 rfl (by decide) rfl ?_
  have L4 : ∀ (m4 : Nat), ∀ (i c : Int), (9 - i).toNat = m4 → (0 ≤ i ∧ i ≤ 9) → (c = glD (cF nl E) i.toNat) → Z g l MX9_greatestLack 4 [some (.ref 42), some (.int (iZ c)), some (.int (iZ i))] [] (KF Kd, zi J, zj P, RF Rd, n, s0) Q0 := by
    intro m4
    induction m4 using Nat.strongRecOn with
    | ind m4 ih4 =>
      intro i c hm4 hi hc
      refine z_iload_n dX9_greatestLack_4 rfl rfl ?_
      refine c_iconst dX9_greatestLack_5 ?_
      refine z_calls (N := MX9_ruleMany) (nas := 1) (as := [_]) dX9_greatestLack_6 w_1086 w_1084 w_1085 w_8 (by decide +kernel) rfl rfl (Nat.le_of_ble_eq_true rfl) (by decide) (by decide) (ZC.mono (cMX9_ruleMany (by omega)) ?_)
      rintro _ _ ⟨rfl, rfl⟩
      refine c_icmp_ge (tgt := 43) dX9_greatestLack_9 (by decide) (by omega) (by omega) (fun h9 => ?_) (fun h9 => ?_)
      · refine z_iload_n dX9_greatestLack_43 rfl rfl ?_
        refine c_ireturn dX9_greatestLack_44 rfl ?_
        subst hQ0; refine ⟨?_, rfl⟩; rw [hc, show i.toNat = 9 by omega]
      · have hra := ruleA_bd (r := 0) (i := i) (by omega) (by omega)
        have hcv := hC (ruleA 0 i).toNat (by omega)
        refine z_aload_n dX9_greatestLack_12 rfl rfl ?_
        refine z_getR (ci := 9) (kf := 14) dX9_greatestLack_13 rfl (by decide) (by decide) rfl w_790 rfl ?_
        refine z_aload_n dX9_greatestLack_16 rfl rfl ?_
        refine c_iconst dX9_greatestLack_17 ?_
        refine z_iload_n dX9_greatestLack_18 rfl rfl ?_
        refine z_callv (N := MX9_ruledAt) (ci := 9) (nas := 2) (as := [_, _]) dX9_greatestLack_19 w_1090 w_1087 w_1089 ws_39 w_8 (by decide +kernel) rfl rfl rfl (by decide) (Nat.le_of_ble_eq_true rfl) (by decide) (by decide) (ZC.mono (cMX9_ruledAt (by omega) (by omega) hR) ?_)
        rintro _ _ ⟨rfl, rfl⟩
        refine c_iald dX9_greatestLack_22 rfl (by omega) (by decide) ?_
        refine c_if_ne (tgt := 35) dX9_greatestLack_23 (by decide) (by omega) (fun h23 => ?_) (fun h23 => ?_)
        · refine z_iload_n dX9_greatestLack_35 rfl rfl ?_
          refine z_istore_n dX9_greatestLack_36 rfl (by decide) rfl ?_
          refine c_iinc dX9_greatestLack_37 rfl (by decide) rfl ?_
          refine z_goto (tgt := 4) dX9_greatestLack_40 (by decide) ?_
          exact Z.fg2 (ih4 _ (by omega) _ _ rfl (by omega) (by rw [show (i + 1).toNat = i.toNat + 1 by omega, glD, show ((i.toNat : Nat) : Int) = i by omega]; first | rw [if_pos (by omega)] | rw [if_neg (by omega), hc])) (zs1 rfl (zs1 rfl (zs1 rfl zs0)))
        · refine z_aload_n dX9_greatestLack_26 rfl rfl ?_
          refine c_iconst dX9_greatestLack_27 ?_
          refine z_iload_n dX9_greatestLack_28 rfl rfl ?_
          refine z_callv (N := MX9_ruledAt) (ci := 9) (nas := 2) (as := [_, _]) dX9_greatestLack_29 w_1090 w_1087 w_1089 ws_39 w_8 (by decide +kernel) rfl rfl rfl (by decide) (Nat.le_of_ble_eq_true rfl) (by decide) (by decide) (ZC.mono (cMX9_ruledAt (by omega) (by omega) hR) ?_)
          rintro _ _ ⟨rfl, rfl⟩
          refine z_goto (tgt := 36) dX9_greatestLack_32 (by decide) ?_
          refine z_istore_n dX9_greatestLack_36 rfl (by decide) rfl ?_
          refine c_iinc dX9_greatestLack_37 rfl (by decide) rfl ?_
          refine z_goto (tgt := 4) dX9_greatestLack_40 (by decide) ?_
          exact Z.fg2 (ih4 _ (by omega) _ _ rfl (by omega) (by rw [show (i + 1).toNat = i.toNat + 1 by omega, glD, show ((i.toNat : Nat) : Int) = i by omega]; first | rw [if_pos (by omega)] | rw [if_neg (by omega), hc])) (zs1 rfl (zs1 rfl (zs1 rfl zs0)))
  exact Z.fg2 (L4 _ _ _ rfl (by omega) rfl) (zs1 rfl (zs1 rfl (zs1 rfl zs0)))
set_option maxHeartbeats 4000000 in
set_option maxRecDepth 100000 in
theorem cMX9_claim {s r : Int} (hs : rI s) (hr : rI r) (hL : okJ J) (hR : okR J) : ZC g l MX9_claim [.ref 42, .int (iZ s), .int (iZ r)] (KF Kd, zi J, zj P, RF Rd, n, s0) (fun rr hh => ∃ J' P', hh = (KF Kd, zi J', zj P', RF Rd, n, s0) ∧ rr = some (.int (iZ (aClaim J s r))) ∧ pq J J' ∧ pp P P') := by
  refine ZC.of (by decide) (Nat.le_of_ble_eq_true rfl) ?_
  generalize hQ0 : (fun rr hh => ∃ J' P', hh = (KF Kd, zi J', zj P', RF Rd, n, s0) ∧ rr = some (.int (iZ (aClaim J s r))) ∧ pq J J' ∧ pp P P' : Option Value → ZH → Prop) = Q0
  show Z g l MX9_claim 0 [some (.ref 42), some (.int (iZ s)), some (.int (iZ r))] [] (KF Kd, zi J, zj P, RF Rd, n, s0) Q0
  refine z_aload_n dX9_claim_0 rfl rfl ?_
  refine z_iload_n dX9_claim_1 rfl rfl ?_
  refine z_callv (N := MX9_hasForm) (ci := 9) (nas := 1) (as := [_]) dX9_claim_2 w_948 w_945 w_947 ws_28 w_8 (by decide +kernel) rfl rfl rfl (by decide) (Nat.le_of_ble_eq_true rfl) (by decide) (by decide) (ZC.mono (b_hasForm (by omega) hL) ?_)
  rintro _ _ ⟨b2, rfl, rfl, hb2⟩
  refine c_if_eq (tgt := 15) dX9_claim_5 (by decide) (by omega) (fun h5 => ?_) (fun h5 => ?_)
  · have g2 := (hb2.resolve_left (fun z => by have := z.1; omega)).2
    clear hb2
    refine c_iconst dX9_claim_15 ?_
    refine c_ireturn dX9_claim_16 rfl ?_
    subst hQ0; refine ⟨_, _, rfl, ?_⟩; unfold aClaim; rw [cif_neg (by omega)]; exact ⟨rfl, pq_refl _, pp_refl _⟩
  · have g2 := (hb2.resolve_right (fun z => by have := z.1; omega)).2
    clear hb2
    refine z_iload_n dX9_claim_8 rfl rfl ?_
    refine z_calls (N := MX9_isRule) (nas := 1) (as := [_]) dX9_claim_9 w_1083 w_1081 w_1082 w_8 (by decide +kernel) rfl rfl (Nat.le_of_ble_eq_true rfl) (by decide) (by decide) (ZC.mono (cMX9_isRule (by omega)) ?_)
    rintro _ _ ⟨b9, rfl, rfl, hb9⟩
    refine c_if_ne (tgt := 17) dX9_claim_12 (by decide) (by omega) (fun h12 => ?_) (fun h12 => ?_)
    · have g9 := (hb9.resolve_right (fun z => by have := z.1; omega)).2
      clear hb9
      have hp19 : 0 ≤ s ∧ s < 74 := by omega
      have h119 : 1 ≤ J 44 s.toNat := by omega
      have hF19 := okJ_form hL (s := s) (by omega) (by omega)
      refine z_aload_n dX9_claim_17 rfl rfl ?_
      refine z_iload_n dX9_claim_18 rfl rfl ?_
      refine z_callv (N := MX9_layCounts) (ci := 9) (nas := 1) (as := [_]) dX9_claim_19 w_1023 w_1020 w_1022 ws_32 w_8 (by decide +kernel) rfl rfl rfl (by decide) (Nat.le_of_ble_eq_true rfl) (by decide) (by decide) (ZC.mono (cLay hp19 h119 hF19) ?_)
      rintro _ _ ⟨rfl, J2, P2, rfl, hC, hO, hPo⟩
      have hR2 : okR J2 := fun q hq => by rw [hO.1 56 (by decide) (by decide) (by decide)]; exact hR q hq
      have hlb := lackN_bd (cF (J 44 s.toNat) (eE J s)) r (ruleN r).toNat
      have hrn := ruleN_bd r
      refine z_aload_n dX9_claim_22 rfl rfl ?_
      refine z_iload_n dX9_claim_23 rfl rfl ?_
      refine z_callv (N := MX9_lackMany) (ci := 9) (nas := 1) (as := [_]) dX9_claim_24 w_1098 w_1095 w_1097 ws_40 w_8 (by decide +kernel) rfl rfl rfl (by decide) (Nat.le_of_ble_eq_true rfl) (by decide) (by decide) (ZC.mono (cMX9_lackMany (by omega) hC hR2) ?_)
      rintro _ _ ⟨rfl, rfl⟩
      refine c_if_ne (tgt := 34) dX9_claim_27 (by decide) (by omega) (fun h27 => ?_) (fun h27 => ?_)
      · refine c_iconst dX9_claim_34 ?_
        refine c_ireturn dX9_claim_35 rfl ?_
        subst hQ0; refine ⟨_, _, rfl, ?_⟩; unfold aClaim; rw [cif_pos (by omega)]; first | (rw [if_pos (by omega)]; exact ⟨rfl, pq_offC hO, pp_offP hPo⟩) | (rw [if_neg (by omega)]; exact ⟨rfl, pq_offC hO, pp_offP hPo⟩)
      · refine c_iconst dX9_claim_30 ?_
        refine z_goto (tgt := 35) dX9_claim_31 (by decide) ?_
        refine c_ireturn dX9_claim_35 rfl ?_
        subst hQ0; refine ⟨_, _, rfl, ?_⟩; unfold aClaim; rw [cif_pos (by omega)]; first | (rw [if_pos (by omega)]; exact ⟨rfl, pq_offC hO, pp_offP hPo⟩) | (rw [if_neg (by omega)]; exact ⟨rfl, pq_offC hO, pp_offP hPo⟩)
    · have g9 := (hb9.resolve_left (fun z => by have := z.1; omega)).2
      clear hb9
      refine c_iconst dX9_claim_15 ?_
      refine c_ireturn dX9_claim_16 rfl ?_
      subst hQ0; refine ⟨_, _, rfl, ?_⟩; unfold aClaim; rw [cif_neg (by omega)]; exact ⟨rfl, pq_refl _, pp_refl _⟩
set_option maxHeartbeats 4000000 in
set_option maxRecDepth 100000 in
theorem cMX9_lacks {s r i : Int} (hs : rI s) (hr : rI r) (hi : rI i) (hL : okJ J) (hR : okR J) : ZC g l MX9_lacks [.ref 42, .int (iZ s), .int (iZ r), .int (iZ i)] (KF Kd, zi J, zj P, RF Rd, n, s0) (fun rr hh => ∃ J' P', hh = (KF Kd, zi J', zj P', RF Rd, n, s0) ∧ rr = some (.int (iZ (aLacks J s r i))) ∧ pq J J' ∧ pp P P') := by
  refine ZC.of (by decide) (Nat.le_of_ble_eq_true rfl) ?_
  generalize hQ0 : (fun rr hh => ∃ J' P', hh = (KF Kd, zi J', zj P', RF Rd, n, s0) ∧ rr = some (.int (iZ (aLacks J s r i))) ∧ pq J J' ∧ pp P P' : Option Value → ZH → Prop) = Q0
  show Z g l MX9_lacks 0 [some (.ref 42), some (.int (iZ s)), some (.int (iZ r)), some (.int (iZ i)), none, none, none] [] (KF Kd, zi J, zj P, RF Rd, n, s0) Q0
  refine z_aload_n dX9_lacks_0 rfl rfl ?_
  refine z_iload_n dX9_lacks_1 rfl rfl ?_
  refine z_callv (N := MX9_hasForm) (ci := 9) (nas := 1) (as := [_]) dX9_lacks_2 w_948 w_945 w_947 ws_28 w_8 (by decide +kernel) rfl rfl rfl (by decide) (Nat.le_of_ble_eq_true rfl) (by decide) (by decide) (ZC.mono (b_hasForm (by omega) hL) ?_)
  rintro _ _ ⟨b2, rfl, rfl, hb2⟩
  refine c_if_eq (tgt := 15) dX9_lacks_5 (by decide) (by omega) (fun h5 => ?_) (fun h5 => ?_)
  · have g2 := (hb2.resolve_left (fun z => by have := z.1; omega)).2
    clear hb2
    refine c_iconst dX9_lacks_15 ?_
    refine c_ireturn dX9_lacks_16 rfl ?_
    subst hQ0; refine ⟨_, _, rfl, ?_⟩; unfold aLacks; rw [cif_neg (by omega)]; exact ⟨rfl, pq_refl _, pp_refl _⟩
  · have g2 := (hb2.resolve_right (fun z => by have := z.1; omega)).2
    clear hb2
    refine z_iload_n dX9_lacks_8 rfl rfl ?_
    refine z_calls (N := MX9_isRule) (nas := 1) (as := [_]) dX9_lacks_9 w_1083 w_1081 w_1082 w_8 (by decide +kernel) rfl rfl (Nat.le_of_ble_eq_true rfl) (by decide) (by decide) (ZC.mono (cMX9_isRule (by omega)) ?_)
    rintro _ _ ⟨b9, rfl, rfl, hb9⟩
    refine c_if_ne (tgt := 17) dX9_lacks_12 (by decide) (by omega) (fun h12 => ?_) (fun h12 => ?_)
    · have g9 := (hb9.resolve_right (fun z => by have := z.1; omega)).2
      clear hb9
      have hp19 : 0 ≤ s ∧ s < 74 := by omega
      have h119 : 1 ≤ J 44 s.toNat := by omega
      have hF19 := okJ_form hL (s := s) (by omega) (by omega)
      refine z_aload_n dX9_lacks_17 rfl rfl ?_
      refine z_iload_n dX9_lacks_18 rfl rfl ?_
      refine z_callv (N := MX9_layCounts) (ci := 9) (nas := 1) (as := [_]) dX9_lacks_19 w_1023 w_1020 w_1022 ws_32 w_8 (by decide +kernel) rfl rfl rfl (by decide) (Nat.le_of_ble_eq_true rfl) (by decide) (by decide) (ZC.mono (cLay hp19 h119 hF19) ?_)
      rintro _ _ ⟨rfl, J2, P2, rfl, hC, hO, hPo⟩
      have hR2 : okR J2 := fun q hq => by rw [hO.1 56 (by decide) (by decide) (by decide)]; exact hR q hq
      have hrn := ruleN_bd r
      refine c_iconst dX9_lacks_22 ?_
      refine z_istore dX9_lacks_23 (by decide) rfl ?_
      refine c_iconst dX9_lacks_25 ?_
      refine z_istore dX9_lacks_26 (by decide) rfl ?_
      have L28 : ∀ (m28 : Nat), ∀ (m c : Int), (ruleN r - m).toNat = m28 → (0 ≤ m ∧ m ≤ ruleN r) → (-1 ≤ c ∧ c < m) → (lckD (cF (J 44 s.toNat) (eE J s)) r i (ruleN r).toNat 0 = lckD (cF (J 44 s.toNat) (eE J s)) r i (ruleN r - m).toNat (c + 1)) → Z g l MX9_lacks 28 [some (.ref 42), some (.int (iZ s)), some (.int (iZ r)), some (.int (iZ i)), some (.int (iZ c)), some (.int (iZ m)), none] [] (KF Kd, zi J2, zj P2, RF Rd, n, s0) Q0 := by
        intro m28
        induction m28 using Nat.strongRecOn with
        | ind m28 ih28 =>
          intro m c hm28 hm hc hd
          refine z_iload dX9_lacks_28 rfl ?_
          refine z_iload_n dX9_lacks_30 rfl rfl ?_
          refine z_calls (N := MX9_ruleMany) (nas := 1) (as := [_]) dX9_lacks_31 w_1086 w_1084 w_1085 w_8 (by decide +kernel) rfl rfl (Nat.le_of_ble_eq_true rfl) (by decide) (by decide) (ZC.mono (cMX9_ruleMany (by omega)) ?_)
          rintro _ _ ⟨rfl, rfl⟩
          refine c_icmp_ge (tgt := 91) dX9_lacks_34 (by decide) (by omega) (by omega) (fun h34 => ?_) (fun h34 => ?_)
          · refine c_bipush dX9_lacks_91 (by decide) ?_
            refine c_ireturn dX9_lacks_93 rfl ?_
            subst hQ0; refine ⟨_, _, rfl, ?_, pq_offC hO, pp_offP hPo⟩; unfold aLacks; rw [cif_pos (by omega), hd, show (ruleN r - m).toNat = 0 by omega, lckD]
          · have hra := ruleA_bd (r := r) (i := m) (by omega) (by omega)
            have hcv := hC (ruleA r m).toNat (by omega)
            refine z_aload_n dX9_lacks_37 rfl rfl ?_
            refine z_iload_n dX9_lacks_38 rfl rfl ?_
            refine z_iload dX9_lacks_39 rfl ?_
            refine z_callv (N := MX9_ruledAt) (ci := 9) (nas := 2) (as := [_, _]) dX9_lacks_41 w_1090 w_1087 w_1089 ws_39 w_8 (by decide +kernel) rfl rfl rfl (by decide) (Nat.le_of_ble_eq_true rfl) (by decide) (by decide) (ZC.mono (cMX9_ruledAt (by omega) (by omega) hR2) ?_)
            rintro _ _ ⟨rfl, rfl⟩
            refine z_istore dX9_lacks_44 (by decide) rfl ?_
            refine z_iload dX9_lacks_46 rfl ?_
            refine z_aload_n dX9_lacks_48 rfl rfl ?_
            refine z_getR (ci := 9) (kf := 14) dX9_lacks_49 rfl (by decide) (by decide) rfl w_790 rfl ?_
            refine z_iload dX9_lacks_52 rfl ?_
            refine c_iald dX9_lacks_54 rfl (by omega) (by decide) ?_
            refine c_if_ne (tgt := 62) dX9_lacks_55 (by decide) (by omega) (fun h55 => ?_) (fun h55 => ?_)
            · refine c_iconst dX9_lacks_62 ?_
              refine c_iadd dX9_lacks_63 ?_
              refine z_istore dX9_lacks_64 (by decide) rfl ?_
              refine z_aload_n dX9_lacks_66 rfl rfl ?_
              refine z_getR (ci := 9) (kf := 14) dX9_lacks_67 rfl (by decide) (by decide) rfl w_790 rfl ?_
              refine z_iload dX9_lacks_70 rfl ?_
              refine c_iald dX9_lacks_72 rfl (by omega) (by decide) ?_
              refine c_if_ne (tgt := 85) dX9_lacks_73 (by decide) (by omega) (fun h73 => ?_) (fun h73 => ?_)
              · refine c_iinc dX9_lacks_85 rfl (by decide) rfl ?_
                refine z_goto (tgt := 28) dX9_lacks_88 (by decide) ?_
                exact Z.fg2 (ih28 _ (by omega) _ _ rfl (by omega) (by omega) (by rw [hd, show (ruleN r - m).toNat = (ruleN r - (m + 1)).toNat + 1 by omega, lckD, show ruleN r - (((ruleN r - (m + 1)).toNat + 1 : Nat) : Int) = m by omega]; first | (exfalso; omega) | (rw [if_pos (by omega), if_neg (by omega)]) | (rw [if_neg (by omega), Int.add_zero]))) (zs1 rfl (zs1 rfl (zs1 rfl (zs1 rfl (zs1 rfl (zs1 rfl (zsn zs0)))))))
              · refine z_iload dX9_lacks_76 rfl ?_
                refine z_iload_n dX9_lacks_78 rfl rfl ?_
                refine c_icmp_ne (tgt := 85) dX9_lacks_79 (by decide) (by omega) (by omega) (fun h79 => ?_) (fun h79 => ?_)
                · refine c_iinc dX9_lacks_85 rfl (by decide) rfl ?_
                  refine z_goto (tgt := 28) dX9_lacks_88 (by decide) ?_
                  exact Z.fg2 (ih28 _ (by omega) _ _ rfl (by omega) (by omega) (by rw [hd, show (ruleN r - m).toNat = (ruleN r - (m + 1)).toNat + 1 by omega, lckD, show ruleN r - (((ruleN r - (m + 1)).toNat + 1 : Nat) : Int) = m by omega]; first | (exfalso; omega) | (rw [if_pos (by omega), if_neg (by omega)]) | (rw [if_neg (by omega), Int.add_zero]))) (zs1 rfl (zs1 rfl (zs1 rfl (zs1 rfl (zs1 rfl (zs1 rfl (zsn zs0)))))))
                · refine z_iload dX9_lacks_82 rfl ?_
                  refine c_ireturn dX9_lacks_84 rfl ?_
                  subst hQ0; refine ⟨_, _, rfl, ?_, pq_offC hO, pp_offP hPo⟩; unfold aLacks; rw [cif_pos (by omega), hd, show (ruleN r - m).toNat = (ruleN r - (m + 1)).toNat + 1 by omega, lckD, show ruleN r - (((ruleN r - (m + 1)).toNat + 1 : Nat) : Int) = m by omega, if_pos (by omega), if_pos (by omega)]
            · refine c_iconst dX9_lacks_58 ?_
              refine z_goto (tgt := 63) dX9_lacks_59 (by decide) ?_
              refine c_iadd dX9_lacks_63 ?_
              refine z_istore dX9_lacks_64 (by decide) rfl ?_
              refine z_aload_n dX9_lacks_66 rfl rfl ?_
              refine z_getR (ci := 9) (kf := 14) dX9_lacks_67 rfl (by decide) (by decide) rfl w_790 rfl ?_
              refine z_iload dX9_lacks_70 rfl ?_
              refine c_iald dX9_lacks_72 rfl (by omega) (by decide) ?_
              refine c_if_ne (tgt := 85) dX9_lacks_73 (by decide) (by omega) (fun h73 => ?_) (fun h73 => ?_)
              · refine c_iinc dX9_lacks_85 rfl (by decide) rfl ?_
                refine z_goto (tgt := 28) dX9_lacks_88 (by decide) ?_
                exact Z.fg2 (ih28 _ (by omega) _ _ rfl (by omega) (by omega) (by rw [hd, show (ruleN r - m).toNat = (ruleN r - (m + 1)).toNat + 1 by omega, lckD, show ruleN r - (((ruleN r - (m + 1)).toNat + 1 : Nat) : Int) = m by omega]; first | (exfalso; omega) | (rw [if_pos (by omega), if_neg (by omega)]) | (rw [if_neg (by omega), Int.add_zero]))) (zs1 rfl (zs1 rfl (zs1 rfl (zs1 rfl (zs1 rfl (zs1 rfl (zsn zs0)))))))
              · refine z_iload dX9_lacks_76 rfl ?_
                refine z_iload_n dX9_lacks_78 rfl rfl ?_
                refine c_icmp_ne (tgt := 85) dX9_lacks_79 (by decide) (by omega) (by omega) (fun h79 => ?_) (fun h79 => ?_)
                · refine c_iinc dX9_lacks_85 rfl (by decide) rfl ?_
                  refine z_goto (tgt := 28) dX9_lacks_88 (by decide) ?_
                  exact Z.fg2 (ih28 _ (by omega) _ _ rfl (by omega) (by omega) (by rw [hd, show (ruleN r - m).toNat = (ruleN r - (m + 1)).toNat + 1 by omega, lckD, show ruleN r - (((ruleN r - (m + 1)).toNat + 1 : Nat) : Int) = m by omega]; first | (exfalso; omega) | (rw [if_pos (by omega), if_neg (by omega)]) | (rw [if_neg (by omega), Int.add_zero]))) (zs1 rfl (zs1 rfl (zs1 rfl (zs1 rfl (zs1 rfl (zs1 rfl (zsn zs0)))))))
                · refine z_iload dX9_lacks_82 rfl ?_
                  refine c_ireturn dX9_lacks_84 rfl ?_
                  subst hQ0; refine ⟨_, _, rfl, ?_, pq_offC hO, pp_offP hPo⟩; unfold aLacks; rw [cif_pos (by omega), hd, show (ruleN r - m).toNat = (ruleN r - (m + 1)).toNat + 1 by omega, lckD, show ruleN r - (((ruleN r - (m + 1)).toNat + 1 : Nat) : Int) = m by omega, if_pos (by omega), if_pos (by omega)]
      exact Z.fg2 (L28 _ _ _ rfl (by omega) (by omega) (by rw [Int.sub_zero]; rfl)) (zs1 rfl (zs1 rfl (zs1 rfl (zs1 rfl (zs1 rfl (zs1 rfl (zsn zs0)))))))
    · have g9 := (hb9.resolve_left (fun z => by have := z.1; omega)).2
      clear hb9
      refine c_iconst dX9_lacks_15 ?_
      refine c_ireturn dX9_lacks_16 rfl ?_
      subst hQ0; refine ⟨_, _, rfl, ?_⟩; unfold aLacks; rw [cif_neg (by omega)]; exact ⟨rfl, pq_refl _, pp_refl _⟩
set_option maxHeartbeats 4000000 in
set_option maxRecDepth 100000 in
theorem cMX9_certify {s r sh fr : Int} (hs : rI s) (hr : rI r) (hsh : rI sh) (hfr : rI fr) (hL : okJ J) (hR : okR J) (hS : okS J) : ZC g l MX9_certify [.ref 42, .int (iZ s), .int (iZ r), .int (iZ sh), .int (iZ fr)] (KF Kd, zi J, zj P, RF Rd, n, s0) (fun rr hh => ∃ J' P', hh = (KF Kd, zi J', zj P', RF Rd, n, s0) ∧ rr = some (.int (iZ (aCertify J s r sh fr).1)) ∧ pq (aCertify J s r sh fr).2 J' ∧ pp P P') := by
  refine ZC.of (by decide) (Nat.le_of_ble_eq_true rfl) ?_
  generalize hQ0 : (fun rr hh => ∃ J' P', hh = (KF Kd, zi J', zj P', RF Rd, n, s0) ∧ rr = some (.int (iZ (aCertify J s r sh fr).1)) ∧ pq (aCertify J s r sh fr).2 J' ∧ pp P P' : Option Value → ZH → Prop) = Q0
  show Z g l MX9_certify 0 [some (.ref 42), some (.int (iZ s)), some (.int (iZ r)), some (.int (iZ sh)), some (.int (iZ fr)), none, none, none, none, none] [] (KF Kd, zi J, zj P, RF Rd, n, s0) Q0
  refine z_aload_n dX9_certify_0 rfl rfl ?_
  refine z_iload_n dX9_certify_1 rfl rfl ?_
  refine z_callv (N := MX9_hasForm) (ci := 9) (nas := 1) (as := [_]) dX9_certify_2 w_948 w_945 w_947 ws_28 w_8 (by decide +kernel) rfl rfl rfl (by decide) (Nat.le_of_ble_eq_true rfl) (by decide) (by decide) (ZC.mono (b_hasForm (by omega) hL) ?_)
  rintro _ _ ⟨b2, rfl, rfl, hb2⟩
  refine c_if_eq (tgt := 22) dX9_certify_5 (by decide) (by omega) (fun h5 => ?_) (fun h5 => ?_)
  · have g2 := (hb2.resolve_left (fun z => by have := z.1; omega)).2
    clear hb2
    refine c_iconst dX9_certify_22 ?_
    refine c_ireturn dX9_certify_23 rfl ?_
    subst hQ0; refine ⟨_, _, rfl, ?_⟩; unfold aCertify; rw [cif_neg (by omega)]; exact ⟨rfl, pq_refl _, pp_refl _⟩
  · have g2 := (hb2.resolve_right (fun z => by have := z.1; omega)).2
    clear hb2
    refine z_iload_n dX9_certify_8 rfl rfl ?_
    refine z_calls (N := MX9_isRule) (nas := 1) (as := [_]) dX9_certify_9 w_1083 w_1081 w_1082 w_8 (by decide +kernel) rfl rfl (Nat.le_of_ble_eq_true rfl) (by decide) (by decide) (ZC.mono (cMX9_isRule (by omega)) ?_)
    rintro _ _ ⟨b9, rfl, rfl, hb9⟩
    refine c_if_eq (tgt := 22) dX9_certify_12 (by decide) (by omega) (fun h12 => ?_) (fun h12 => ?_)
    · have g9 := (hb9.resolve_left (fun z => by have := z.1; omega)).2
      clear hb9
      refine c_iconst dX9_certify_22 ?_
      refine c_ireturn dX9_certify_23 rfl ?_
      subst hQ0; refine ⟨_, _, rfl, ?_⟩; unfold aCertify; rw [cif_neg (by omega)]; exact ⟨rfl, pq_refl _, pp_refl _⟩
    · have g9 := (hb9.resolve_right (fun z => by have := z.1; omega)).2
      clear hb9
      refine z_iload_n dX9_certify_15 rfl rfl ?_
      refine z_calls (N := MX9_isSheet) (nas := 1) (as := [_]) dX9_certify_16 w_904 w_902 w_903 w_8 (by decide +kernel) rfl rfl (Nat.le_of_ble_eq_true rfl) (by decide) (by decide) (ZC.mono (cMX9_isSheet (by omega)) ?_)
      rintro _ _ ⟨b16, rfl, rfl, hb16⟩
      refine c_if_ne (tgt := 24) dX9_certify_19 (by decide) (by omega) (fun h19 => ?_) (fun h19 => ?_)
      · have g16 := (hb16.resolve_right (fun z => by have := z.1; omega)).2
        clear hb16
        have hp26 : 0 ≤ s ∧ s < 74 := by omega
        have h126 : 1 ≤ J 44 s.toNat := by omega
        have hF26 := okJ_form hL (s := s) (by omega) (by omega)
        refine z_aload_n dX9_certify_24 rfl rfl ?_
        refine z_iload_n dX9_certify_25 rfl rfl ?_
        refine z_callv (N := MX9_layCounts) (ci := 9) (nas := 1) (as := [_]) dX9_certify_26 w_1023 w_1020 w_1022 ws_32 w_8 (by decide +kernel) rfl rfl rfl (by decide) (Nat.le_of_ble_eq_true rfl) (by decide) (by decide) (ZC.mono (cLay hp26 h126 hF26) ?_)
        rintro _ _ ⟨rfl, J2, P2, rfl, hC, hO, hPo⟩
        have hR2 : okR J2 := fun q hq => by rw [hO.1 56 (by decide) (by decide) (by decide)]; exact hR q hq
        have hlb := lackN_bd (cF (J 44 s.toNat) (eE J s)) r (ruleN r).toNat
        have hrn := ruleN_bd r
        have e44 : J2 44 = J 44 := hO.1 44 (by decide) (by decide) (by decide)
        have e63 : J2 63 = J 63 := hO.1 63 (by decide) (by decide) (by decide)
        have e64 : J2 64 = J 64 := hO.1 64 (by decide) (by decide) (by decide)
        have hs4 := hS.1 sh.toNat (by omega)
        have hl4 := hF26.1
        refine z_aload_n dX9_certify_29 rfl rfl ?_
        refine z_iload_n dX9_certify_30 rfl rfl ?_
        refine z_callv (N := MX9_lackMany) (ci := 9) (nas := 1) (as := [_]) dX9_certify_31 w_1098 w_1095 w_1097 ws_40 w_8 (by decide +kernel) rfl rfl rfl (by decide) (Nat.le_of_ble_eq_true rfl) (by decide) (by decide) (ZC.mono (cMX9_lackMany (by omega) hC hR2) ?_)
        rintro _ _ ⟨rfl, rfl⟩
        refine c_if_le (tgt := 40) dX9_certify_34 (by decide) (by omega) (fun h34 => ?_) (fun h34 => ?_)
        · refine z_aload_n dX9_certify_40 rfl rfl ?_
          refine z_getR (ci := 9) (kf := 31) dX9_certify_41 rfl (by decide) (by decide) rfl w_807 rfl ?_
          refine z_iload_n dX9_certify_44 rfl rfl ?_
          refine c_iald dX9_certify_45 rfl (by omega) (by decide) ?_
          rw [e63]
          refine c_if_ge (tgt := 52) dX9_certify_46 (by decide) (by omega) (fun h46 => ?_) (fun h46 => ?_)
          · refine z_iload dX9_certify_52 rfl ?_
            refine c_i2l dX9_certify_54 (by omega) ?_
            refine c_lconst0 dX9_certify_55 ?_
            refine z_aload_n dX9_certify_56 rfl rfl ?_
            refine z_getR (ci := 9) (kf := 32) dX9_certify_57 rfl (by decide) (by decide) rfl w_808 rfl ?_
            refine z_iload_n dX9_certify_60 rfl rfl ?_
            refine c_iald dX9_certify_61 rfl (by omega) (by decide) ?_
            rw [e64]
            refine c_i2l dX9_certify_62 (by omega) ?_
            refine z_calls (N := MX9_in) (nas := 3) (as := [_, _, _]) dX9_certify_63 w_889 w_887 w_888 w_8 (by decide +kernel) rfl rfl (Nat.le_of_ble_eq_true rfl) (by decide) (by decide) (ZC.mono (b_in (by omega) (by omega) (by omega)) ?_)
            rintro _ _ ⟨b63, rfl, rfl, hb63⟩
            refine c_if_ne (tgt := 72) dX9_certify_66 (by decide) (by omega) (fun h66 => ?_) (fun h66 => ?_)
            · have g63 := (hb63.resolve_right (fun z => by have := z.1; omega)).2
              clear hb63
              refine z_aload_n dX9_certify_72 rfl rfl ?_
              refine z_getR (ci := 9) (kf := 1) dX9_certify_73 rfl (by decide) (by decide) rfl w_777 rfl ?_
              refine z_iload_n dX9_certify_76 rfl rfl ?_
              refine c_iald dX9_certify_77 rfl (by omega) (by decide) ?_
              rw [e44]
              refine c_iconst dX9_certify_78 ?_
              refine c_iadd dX9_certify_79 ?_
              refine z_istore dX9_certify_80 (by decide) rfl ?_
              refine c_iconst dX9_certify_82 ?_
              refine z_istore dX9_certify_83 (by decide) rfl ?_
              have L85 : ∀ (m85 : Nat), ∀ (c cw : Int) (J3 : Nat → Nat → Int), (ruleN r - c).toNat = m85 → (0 ≤ c ∧ c ≤ certK (ruleN r) fr ((J 44 s.toNat) + 1) (J 64 sh.toNat)) → (c ≤ ruleN r) → (c * ((J 44 s.toNat) + 1) = cw) → (0 ≤ cw ∧ fr + cw ≤ J 64 sh.toNat) → (J3 = jrow J2 (certV r (J 63 sh.toNat) (fF (J 44 s.toNat) (eE J s)) ((J 44 s.toNat) + 1).toNat) (40 * sh + fr).toNat cw.toNat) → Z g l MX9_certify 85 [some (.ref 42), some (.int (iZ s)), some (.int (iZ r)), some (.int (iZ sh)), some (.int (iZ fr)), some (.int (iZ ((J 44 s.toNat) + 1))), some (.int (iZ c)), none, none, none] [] (KF Kd, zi J3, zj P2, RF Rd, n, s0) Q0 := by
                intro m85
                induction m85 using Nat.strongRecOn with
                | ind m85 ih85 =>
                  intro c cw J3 hm85 hc hcr hcw hcb hJ
                  have e44k : J3 44 = J 44 := by subst hJ; rw [jrow_off (by decide)]; exact e44
                  have e63k : J3 63 = J 63 := by subst hJ; rw [jrow_off (by decide)]; exact e63
                  have e64k : J3 64 = J 64 := by subst hJ; rw [jrow_off (by decide)]; exact e64
                  have hR3 : okR J3 := fun q hq => by subst hJ; rw [jrow_off (by decide)]; exact hR2 q hq
                  have hck := certK_iff (rn := ruleN r) (fr := fr) (wd := (J 44 s.toNat) + 1) (sz := J 64 sh.toNat) (c := c) (by omega)
                  have hcw1 : (c + 1) * ((J 44 s.toNat) + 1) = cw + ((J 44 s.toNat) + 1) := by rw [Int.add_mul, Int.one_mul, hcw]
                  rw [hcw1] at hck
                  refine z_iload dX9_certify_85 rfl ?_
                  refine z_iload_n dX9_certify_87 rfl rfl ?_
                  refine z_calls (N := MX9_ruleMany) (nas := 1) (as := [_]) dX9_certify_88 w_1086 w_1084 w_1085 w_8 (by decide +kernel) rfl rfl (Nat.le_of_ble_eq_true rfl) (by decide) (by decide) (ZC.mono (cMX9_ruleMany (by omega)) ?_)
                  rintro _ _ ⟨rfl, rfl⟩
                  refine c_icmp_ge (tgt := 206) dX9_certify_91 (by decide) (by omega) (by omega) (fun h91 => ?_) (fun h91 => ?_)
                  · refine z_iload dX9_certify_206 rfl ?_
                    refine c_ireturn dX9_certify_208 rfl ?_
                    subst hQ0; refine ⟨_, _, rfl, ?_⟩; unfold aCertify; rw [cif_pos (by omega), cif_neg (by omega), cif_neg (by omega), cif_pos (by omega)]
                    have hfin : certK (ruleN r) fr ((J 44 s.toNat) + 1) (J 64 sh.toNat) = c := by
                      have : ¬ c < certK (ruleN r) fr ((J 44 s.toNat) + 1) (J 64 sh.toNat) := fun z => by have := hck.mpr z; omega
                      omega
                    rw [hfin, hcw, hJ]
                    exact ⟨rfl, pq_jrow (pq_offC hO), pp_offP hPo⟩
                  · refine z_iload dX9_certify_94 rfl ?_
                    refine z_iload dX9_certify_96 rfl ?_
                    refine c_iconst dX9_certify_98 ?_
                    refine c_iadd dX9_certify_99 ?_
                    refine z_iload dX9_certify_100 rfl ?_
                    refine c_imul dX9_certify_102 ?_
                    rw [hcw1]
                    refine c_iadd dX9_certify_103 ?_
                    refine z_aload_n dX9_certify_104 rfl rfl ?_
                    refine z_getR (ci := 9) (kf := 32) dX9_certify_105 rfl (by decide) (by decide) rfl w_808 rfl ?_
                    refine z_iload_n dX9_certify_108 rfl rfl ?_
                    refine c_iald dX9_certify_109 rfl (by omega) (by decide) ?_
                    rw [e64k]
                    refine c_icmp_gt (tgt := 206) dX9_certify_110 (by decide) (by omega) (by omega) (fun h110 => ?_) (fun h110 => ?_)
                    · refine z_iload dX9_certify_206 rfl ?_
                      refine c_ireturn dX9_certify_208 rfl ?_
                      subst hQ0; refine ⟨_, _, rfl, ?_⟩; unfold aCertify; rw [cif_pos (by omega), cif_neg (by omega), cif_neg (by omega), cif_pos (by omega)]
                      have hfin : certK (ruleN r) fr ((J 44 s.toNat) + 1) (J 64 sh.toNat) = c := by
                        have : ¬ c < certK (ruleN r) fr ((J 44 s.toNat) + 1) (J 64 sh.toNat) := fun z => by have := hck.mpr z; omega
                        omega
                      rw [hfin, hcw, hJ]
                      exact ⟨rfl, pq_jrow (pq_offC hO), pp_offP hPo⟩
                    · refine c_bipush dX9_certify_113 (by decide) ?_
                      refine z_iload_n dX9_certify_115 rfl rfl ?_
                      refine c_imul dX9_certify_116 ?_
                      refine z_iload dX9_certify_117 rfl ?_
                      refine c_iadd dX9_certify_119 ?_
                      refine z_iload dX9_certify_120 rfl ?_
                      refine z_iload dX9_certify_122 rfl ?_
                      refine c_imul dX9_certify_124 ?_
                      rw [hcw]
                      refine c_iadd dX9_certify_125 ?_
                      refine z_istore dX9_certify_126 (by decide) rfl ?_
                      have hlt := hck.mp ⟨by omega, by omega⟩
                      have hra := ruleA_bd (r := r) (i := c) (by omega) (by omega)
                      have hcv := hC (ruleA r c).toNat (by omega)
                      have hlz : cF (J 44 s.toNat) (eE J s) (ruleA r c).toNat ≠ 0 := lackN_zero (k := (ruleN r).toNat) (by omega) c (by omega)
                      have hdv := cert_div (c := c.toNat) (w := (J 44 s.toNat + 1).toNat)
                      have hcN : c.toNat * (J 44 s.toNat + 1).toNat = cw.toNat := by rw [← hcw, Int.toNat_mul (by omega) (by omega)]
                      rw [hcN] at hdv
                      refine z_aload_n dX9_certify_128 rfl rfl ?_
                      refine z_iload_n dX9_certify_129 rfl rfl ?_
                      refine z_iload dX9_certify_130 rfl ?_
                      refine z_callv (N := MX9_ruledAt) (ci := 9) (nas := 2) (as := [_, _]) dX9_certify_132 w_1090 w_1087 w_1089 ws_39 w_8 (by decide +kernel) rfl rfl rfl (by decide) (Nat.le_of_ble_eq_true rfl) (by decide) (by decide) (ZC.mono (cMX9_ruledAt (by omega) (by omega) hR3) ?_)
                      rintro _ _ ⟨rfl, rfl⟩
                      refine z_istore dX9_certify_135 (by decide) rfl ?_
                      refine z_aload_n dX9_certify_137 rfl rfl ?_
                      refine z_getR (ci := 9) (kf := 33) dX9_certify_138 rfl (by decide) (by decide) rfl w_809 rfl ?_
                      refine z_iload dX9_certify_141 rfl ?_
                      refine z_aload_n dX9_certify_143 rfl rfl ?_
                      refine z_iload_n dX9_certify_144 rfl rfl ?_
                      refine z_iload dX9_certify_145 rfl ?_
                      refine z_callv (N := MX9_lowest) (ci := 9) (nas := 2) (as := [_, _]) dX9_certify_147 w_1110 w_1107 w_1109 ws_41 w_8 (by decide +kernel) rfl rfl rfl (by decide) (Nat.le_of_ble_eq_true rfl) (by decide) (by decide) (ZC.mono (cMX9_lowest (by omega) (by rw [e63k]; omega)) ?_)
                      rintro _ _ ⟨rfl, rfl⟩
                      have d0 := hdv 0 (by omega)
                      rw [e63k, show lowS (J 63 sh.toNat) (ruleA r c) = (certV r (J 63 sh.toNat) (fF (J 44 s.toNat) (eE J s)) ((J 44 s.toNat) + 1).toNat) cw.toNat by unfold certV; rw [show cw.toNat = cw.toNat + 0 from rfl, d0.1, d0.2, if_pos rfl, Int.toNat_of_nonneg (by omega)]]
                      refine c_iast dX9_certify_150 rfl (by omega) (by decide) ?_
                      rw [show (40 * sh + fr + cw).toNat = (40 * sh + fr).toNat + cw.toNat by omega]
                      subst hJ
                      rw [jrow_step]
                      refine c_iconst dX9_certify_151 ?_
                      refine z_istore dX9_certify_152 (by decide) rfl ?_
                      have L154 : ∀ (m154 : Nat), ∀ (j : Int) (J4 : Nat → Nat → Int), ((J 44 s.toNat) - j).toNat = m154 → (0 ≤ j ∧ j ≤ (J 44 s.toNat)) → (J4 = jrow J2 (certV r (J 63 sh.toNat) (fF (J 44 s.toNat) (eE J s)) ((J 44 s.toNat) + 1).toNat) (40 * sh + fr).toNat (cw + 1 + j).toNat) → Z g l MX9_certify 154 [some (.ref 42), some (.int (iZ s)), some (.int (iZ r)), some (.int (iZ sh)), some (.int (iZ fr)), some (.int (iZ ((J 44 s.toNat) + 1))), some (.int (iZ c)), some (.int (iZ (40 * sh + fr + cw))), some (.int (iZ (ruleA r c))), some (.int (iZ j))] [] (KF Kd, zi J4, zj P2, RF Rd, n, s0) Q0 := by
                        intro m154
                        induction m154 using Nat.strongRecOn with
                        | ind m154 ih154 =>
                          intro j J4 hm154 hj hJ
                          have e44k : J4 44 = J 44 := by subst hJ; rw [jrow_off (by decide)]; exact e44
                          have e63k : J4 63 = J 63 := by subst hJ; rw [jrow_off (by decide)]; exact e63
                          have e54k : J4 54 = J2 54 := by subst hJ; rw [jrow_off (by decide)]
                          refine z_iload dX9_certify_154 rfl ?_
                          refine z_aload_n dX9_certify_156 rfl rfl ?_
                          refine z_getR (ci := 9) (kf := 1) dX9_certify_157 rfl (by decide) (by decide) rfl w_777 rfl ?_
                          refine z_iload_n dX9_certify_160 rfl rfl ?_
                          refine c_iald dX9_certify_161 rfl (by omega) (by decide) ?_
                          rw [e44k]
                          refine c_icmp_ge (tgt := 200) dX9_certify_162 (by decide) (by omega) (by omega) (fun h162 => ?_) (fun h162 => ?_)
                          · refine c_iinc dX9_certify_200 rfl (by decide) rfl ?_
                            refine z_goto (tgt := 85) dX9_certify_203 (by decide) ?_
                            exact Z.fg2 (ih85 _ (by omega) _ _ _ rfl (by omega) (by omega) (by rw [hcw1]) (by omega) (by rw [hJ, show (cw + 1 + j).toNat = (cw + ((J 44 s.toNat) + 1)).toNat by omega])) (zs1 rfl (zs1 rfl (zs1 rfl (zs1 rfl (zs1 rfl (zs1 rfl (zs1 rfl (zsn (zsn (zsn zs0))))))))))
                          · refine z_aload_n dX9_certify_165 rfl rfl ?_
                            refine z_getR (ci := 9) (kf := 33) dX9_certify_166 rfl (by decide) (by decide) rfl w_809 rfl ?_
                            refine z_iload dX9_certify_169 rfl ?_
                            refine c_iconst dX9_certify_171 ?_
                            refine c_iadd dX9_certify_172 ?_
                            refine z_iload dX9_certify_173 rfl ?_
                            refine c_iadd dX9_certify_175 ?_
                            refine z_aload_n dX9_certify_176 rfl rfl ?_
                            refine z_iload_n dX9_certify_177 rfl rfl ?_
                            refine z_aload_n dX9_certify_178 rfl rfl ?_
                            refine z_getR (ci := 9) (kf := 16) dX9_certify_179 rfl (by decide) (by decide) rfl w_792 rfl ?_
                            refine c_iconst dX9_certify_182 ?_
                            refine z_iload dX9_certify_183 rfl ?_
                            refine c_imul dX9_certify_185 ?_
                            refine z_iload dX9_certify_186 rfl ?_
                            refine c_iadd dX9_certify_188 ?_
                            refine c_iald dX9_certify_189 rfl (by omega) (by decide) ?_
                            rw [e54k]
                            have hfx : J2 54 (4 * ruleA r c + j).toNat = vAt (fF (J 44 s.toNat) (eE J s) (ruleA r c).toNat) j := fst_at (hcv.2.2.2 (by omega)) (by omega) (by omega)
                            rw [hfx]
                            refine z_callv (N := MX9_lowest) (ci := 9) (nas := 2) (as := [_, _]) dX9_certify_190 w_1110 w_1107 w_1109 ws_41 w_8 (by decide +kernel) rfl rfl rfl (by decide) (Nat.le_of_ble_eq_true rfl) (by decide) (by decide) (ZC.mono (cMX9_lowest (by omega) (by rw [e63k]; omega)) ?_)
                            rintro _ _ ⟨rfl, rfl⟩
                            have d0 := hdv (1 + j.toNat) (by omega)
                            rw [e63k, show lowS (J 63 sh.toNat) (vAt (fF (J 44 s.toNat) (eE J s) (ruleA r c).toNat) j) = (certV r (J 63 sh.toNat) (fF (J 44 s.toNat) (eE J s)) ((J 44 s.toNat) + 1).toNat) (cw + 1 + j).toNat by unfold certV; rw [show (cw + 1 + j).toNat = cw.toNat + (1 + j.toNat) by omega, d0.1, d0.2, if_neg (by omega), Int.toNat_of_nonneg (show 0 ≤ c by omega), show ((1 + j.toNat - 1 : Nat) : Int) = j by omega]]
                            refine c_iast dX9_certify_193 rfl (by omega) (by decide) ?_
                            rw [show (40 * sh + fr + cw + 1 + j).toNat = (40 * sh + fr).toNat + (cw + 1 + j).toNat by omega]
                            subst hJ
                            rw [jrow_step]
                            refine c_iinc dX9_certify_194 rfl (by decide) rfl ?_
                            refine z_goto (tgt := 154) dX9_certify_197 (by decide) ?_
                            exact Z.fg2 (ih154 _ (by omega) _ _ rfl (by omega) (by rw [show (cw + 1 + (j + 1)).toNat = (cw + 1 + j).toNat + 1 by omega])) (zs1 rfl (zs1 rfl (zs1 rfl (zs1 rfl (zs1 rfl (zs1 rfl (zs1 rfl (zs1 rfl (zs1 rfl (zs1 rfl zs0))))))))))
                      exact Z.fg2 (L154 _ _ _ rfl (by omega) (by rw [show (cw + 1 + 0).toNat = cw.toNat + 1 by omega])) (zs1 rfl (zs1 rfl (zs1 rfl (zs1 rfl (zs1 rfl (zs1 rfl (zs1 rfl (zs1 rfl (zs1 rfl (zs1 rfl zs0))))))))))
              exact Z.fg2 (L85 _ _ _ _ rfl ⟨by omega, certK_nn (by omega) (by omega) (by omega)⟩ (by omega) (Int.zero_mul _) (by omega) (jrow_0.symm)) (zs1 rfl (zs1 rfl (zs1 rfl (zs1 rfl (zs1 rfl (zs1 rfl (zs1 rfl (zsn (zsn (zsn zs0))))))))))
            · have g63 := (hb63.resolve_left (fun z => by have := z.1; omega)).2
              clear hb63
              refine c_bipush dX9_certify_69 (by decide) ?_
              refine c_ireturn dX9_certify_71 rfl ?_
              subst hQ0; refine ⟨_, _, rfl, ?_⟩; unfold aCertify; rw [cif_pos (by omega), cif_neg (by omega), cif_neg (by omega), cif_neg (by omega)]; exact ⟨rfl, pq_offC hO, pp_offP hPo⟩
          · refine c_bipush dX9_certify_49 (by decide) ?_
            refine c_ireturn dX9_certify_51 rfl ?_
            subst hQ0; refine ⟨_, _, rfl, ?_⟩; unfold aCertify; rw [cif_pos (by omega), cif_neg (by omega), cif_pos (by omega)]; exact ⟨rfl, pq_offC hO, pp_offP hPo⟩
        · refine c_bipush dX9_certify_37 (by decide) ?_
          refine c_ireturn dX9_certify_39 rfl ?_
          subst hQ0; refine ⟨_, _, rfl, ?_⟩; unfold aCertify; rw [cif_pos (by omega), cif_pos (by omega)]; exact ⟨rfl, pq_offC hO, pp_offP hPo⟩
      · have g16 := (hb16.resolve_left (fun z => by have := z.1; omega)).2
        clear hb16
        refine c_iconst dX9_certify_22 ?_
        refine c_ireturn dX9_certify_23 rfl ?_
        subst hQ0; refine ⟨_, _, rfl, ?_⟩; unfold aCertify; rw [cif_neg (by omega)]; exact ⟨rfl, pq_refl _, pp_refl _⟩
end Ref16
