section Ref8
variable {g : ZG} {l : Launch} {Kd : ZK} {Rd : ZR} {n s0 : Nat} {J P : Nat → Nat → Int}
theorem okF_congr {nl : Int} {E F : Nat → Int} (h : ∀ k, k < 16 → E k = F k) (hE : okF nl E) : okF nl F :=
  ⟨hE.1, (lawS_congr hE.1 h).mp hE.2.1, fun i j hi hj => by rw [← h _ (by omega), ← h _ (by omega)]; exact hE.2.2.1 i j hi hj, fun i j hi hj hz => by rw [← h _ (by omega)]; exact hE.2.2.2 i j hi hj hz⟩
theorem keep_step {p : Int} (hp : 0 ≤ p ∧ p ≤ 36) (h : p < 36) : jput (fun a q => if a = 44 ∧ 36 ≤ q ∧ q < 36 + p.toNat then J 44 (q - 36) else if a = 43 ∧ 576 ≤ q ∧ q < 576 + 16 * p.toNat then J 43 (q - 576) else J a q) (36 + p).toNat ((fun a q => if a = 44 ∧ 36 ≤ q ∧ q < 36 + p.toNat then J 44 (q - 36) else if a = 43 ∧ 576 ≤ q ∧ q < 576 + 16 * p.toNat then J 43 (q - 576) else J a q) 44 p.toNat) (eE (fun a q => if a = 44 ∧ 36 ≤ q ∧ q < 36 + p.toNat then J 44 (q - 36) else if a = 43 ∧ 576 ≤ q ∧ q < 576 + 16 * p.toNat then J 43 (q - 576) else J a q) p) = (fun a q => if a = 44 ∧ 36 ≤ q ∧ q < 36 + (p + 1).toNat then J 44 (q - 36) else if a = 43 ∧ 576 ≤ q ∧ q < 576 + 16 * (p + 1).toNat then J 43 (q - 576) else J a q) := by
  have e1 : (36 + p).toNat = 36 + p.toNat := by omega
  have e2 : (p + 1).toNat = p.toNat + 1 := by omega
  have hw : p.toNat < 36 := by omega
  unfold jput eE
  simp only [e1, e2]
  clear hp h e1 e2
  generalize p.toNat = w at *
  funext a q
  grind (splits := 20)
theorem back_step {p : Int} (hp : 0 ≤ p ∧ p ≤ 36) (h : p < 36) : jput (fun a q => if a = 44 ∧ q < p.toNat then J 44 (q + 36) else if a = 43 ∧ q < 16 * p.toNat then J 43 (q + 576) else J a q) p.toNat ((fun a q => if a = 44 ∧ q < p.toNat then J 44 (q + 36) else if a = 43 ∧ q < 16 * p.toNat then J 43 (q + 576) else J a q) 44 (36 + p).toNat) (eE (fun a q => if a = 44 ∧ q < p.toNat then J 44 (q + 36) else if a = 43 ∧ q < 16 * p.toNat then J 43 (q + 576) else J a q) (36 + p)) = (fun a q => if a = 44 ∧ q < (p + 1).toNat then J 44 (q + 36) else if a = 43 ∧ q < 16 * (p + 1).toNat then J 43 (q + 576) else J a q) := by
  have e1 : (36 + p).toNat = 36 + p.toNat := by omega
  have e2 : (p + 1).toNat = p.toNat + 1 := by omega
  have hw : p.toNat < 36 := by omega
  unfold jput eE
  simp only [e1, e2]
  clear hp h e1 e2
  generalize p.toNat = w at *
  funext a q
  grind (splits := 20)
theorem okJ_keep (hL : okJ J) : okJ (jkeep J) := by
  intro q hq
  by_cases h36 : q < 36
  · have e1 : jkeep J 44 q = J 44 q := by unfold jkeep; grind
    have e2 : ∀ k, k < 16 → jkeep J 43 (16 * q + k) = J 43 (16 * q + k) := by intro k hk; unfold jkeep; grind
    rcases hL q hq with h | h
    · left; rw [e1]; exact h
    · right; rw [e1]; exact ⟨h.1, okF_congr (fun k hk => (e2 k hk).symm) h.2⟩
  · have e1 : jkeep J 44 q = J 44 (q - 36) := by unfold jkeep; grind
    have e2 : ∀ k, k < 16 → jkeep J 43 (16 * q + k) = J 43 (16 * (q - 36) + k) := by
      intro k hk
      have e9 : 16 * q + k - 576 = 16 * (q - 36) + k := by omega
      unfold jkeep; grind
    rcases hL (q - 36) (by omega) with h | h
    · left; rw [e1]; exact h
    · right; rw [e1]; exact ⟨h.1, okF_congr (fun k hk => (e2 k hk).symm) h.2⟩
theorem okJ_back (hL : okJ J) : okJ (jback J) := by
  intro q hq
  by_cases h36 : q < 36
  · have e1 : jback J 44 q = J 44 (q + 36) := by unfold jback; grind
    have e2 : ∀ k, k < 16 → jback J 43 (16 * q + k) = J 43 (16 * (q + 36) + k) := by
      intro k hk
      have e9 : 16 * q + k + 576 = 16 * (q + 36) + k := by omega
      unfold jback; grind
    rcases hL (q + 36) (by omega) with h | h
    · left; rw [e1]; exact h
    · right; rw [e1]; exact ⟨h.1, okF_congr (fun k hk => (e2 k hk).symm) h.2⟩
  · have e1 : jback J 44 q = J 44 q := by unfold jback; grind
    have e2 : ∀ k, k < 16 → jback J 43 (16 * q + k) = J 43 (16 * q + k) := by intro k hk; unfold jback; grind
    rcases hL q hq with h | h
    · left; rw [e1]; exact h
    · right; rw [e1]; exact ⟨h.1, okF_congr (fun k hk => (e2 k hk).symm) h.2⟩
set_option maxHeartbeats 4000000 in
set_option maxRecDepth 100000 in
theorem cMX9_slotsHeld (hL : okJ J) : ZC g l MX9_slotsHeld [.ref 42] (KF Kd, zi J, zj P, RF Rd, n, s0) (fun rr hh => rr = some (.int (iZ (heldN J 6))) ∧ hh = (KF Kd, zi J, zj P, RF Rd, n, s0)) := by
  refine ZC.of (by decide) (Nat.le_of_ble_eq_true rfl) ?_
  generalize hQ0 : (fun rr hh => rr = some (.int (iZ (heldN J 6))) ∧ hh = (KF Kd, zi J, zj P, RF Rd, n, s0) : Option Value → ZH → Prop) = Q0
  show Z g l MX9_slotsHeld 0 [some (.ref 42), none, none] [] (KF Kd, zi J, zj P, RF Rd, n, s0) Q0
  refine c_iconst dX9_slotsHeld_0 ?_
  refine z_istore_n dX9_slotsHeld_1 rfl (by decide) rfl ?_
  refine c_iconst dX9_slotsHeld_2 ?_
  refine z_istore_n dX9_slotsHeld_3 rfl (by decide) rfl ?_
  have L4 : ∀ (m4 : Nat), ∀ (k c : Int), (6 - k).toNat = m4 → (0 ≤ k ∧ k ≤ 6) → (c = heldN J k.toNat) → Z g l MX9_slotsHeld 4 [some (.ref 42), some (.int (iZ c)), some (.int (iZ k))] [] (KF Kd, zi J, zj P, RF Rd, n, s0) Q0 := by
    intro m4
    induction m4 using Nat.strongRecOn with
    | ind m4 ih4 =>
      intro k c hm4 hk hc
      refine z_iload_n dX9_slotsHeld_4 rfl rfl ?_
      refine c_bipush dX9_slotsHeld_5 (by decide) ?_
      refine c_icmp_ge (tgt := 33) dX9_slotsHeld_7 (by decide) (by omega) (by omega) (fun h7 => ?_) (fun h7 => ?_)
      · refine z_iload_n dX9_slotsHeld_33 rfl rfl ?_
        refine c_ireturn dX9_slotsHeld_34 rfl ?_
        subst hQ0; refine ⟨?_, rfl⟩; rw [hc, show k.toNat = 6 by omega]
      · have hq4 := okJ_let hL (q := k.toNat) (by omega)
        refine z_iload_n dX9_slotsHeld_10 rfl rfl ?_
        refine z_aload_n dX9_slotsHeld_11 rfl rfl ?_
        refine z_getR (ci := 9) (kf := 1) dX9_slotsHeld_12 rfl (by decide) (by decide) rfl w_777 rfl ?_
        refine z_iload_n dX9_slotsHeld_15 rfl rfl ?_
        refine c_iald dX9_slotsHeld_16 rfl (by omega) (by decide) ?_
        refine c_if_le (tgt := 24) dX9_slotsHeld_17 (by decide) (by omega) (fun h17 => ?_) (fun h17 => ?_)
        · refine c_iconst dX9_slotsHeld_24 ?_
          refine c_iadd dX9_slotsHeld_25 ?_
          refine z_istore_n dX9_slotsHeld_26 rfl (by decide) rfl ?_
          refine c_iinc dX9_slotsHeld_27 rfl (by decide) rfl ?_
          refine z_goto (tgt := 4) dX9_slotsHeld_30 (by decide) ?_
          exact Z.fg2 (ih4 _ (by omega) _ _ rfl (by omega) (by rw [show (k + 1).toNat = k.toNat + 1 by omega, heldN, ← hc]; first | rw [if_pos (by omega)] | rw [if_neg (by omega)])) (zs1 rfl (zs1 rfl (zs1 rfl zs0)))
        · refine c_iconst dX9_slotsHeld_20 ?_
          refine z_goto (tgt := 25) dX9_slotsHeld_21 (by decide) ?_
          refine c_iadd dX9_slotsHeld_25 ?_
          refine z_istore_n dX9_slotsHeld_26 rfl (by decide) rfl ?_
          refine c_iinc dX9_slotsHeld_27 rfl (by decide) rfl ?_
          refine z_goto (tgt := 4) dX9_slotsHeld_30 (by decide) ?_
          exact Z.fg2 (ih4 _ (by omega) _ _ rfl (by omega) (by rw [show (k + 1).toNat = k.toNat + 1 by omega, heldN, ← hc]; first | rw [if_pos (by omega)] | rw [if_neg (by omega)])) (zs1 rfl (zs1 rfl (zs1 rfl zs0)))
  exact Z.fg2 (L4 _ _ _ rfl (by omega) (rfl : (0 : Int) = heldN J (0 : Int).toNat)) (zs1 rfl (zs1 rfl (zs1 rfl zs0)))
set_option maxHeartbeats 4000000 in
set_option maxRecDepth 100000 in
theorem cMX9_isNode {v : Int} (hv : rI v) (hn : rI (J 42 2)) : ZC g l MX9_isNode [.ref 42, .int (iZ v)] (KF Kd, zi J, zj P, RF Rd, n, s0) (fun rr hh => ∃ b : Int, rr = some (.int (iZ b)) ∧ hh = (KF Kd, zi J, zj P, RF Rd, n, s0) ∧ ((b = 1 ∧ (0 ≤ v ∧ v < J 42 2)) ∨ (b = 0 ∧ ¬ (0 ≤ v ∧ v < J 42 2)))) := by
  refine ZC.of (by decide) (Nat.le_of_ble_eq_true rfl) ?_
  generalize hQ0 : (fun rr hh => ∃ b : Int, rr = some (.int (iZ b)) ∧ hh = (KF Kd, zi J, zj P, RF Rd, n, s0) ∧ ((b = 1 ∧ (0 ≤ v ∧ v < J 42 2)) ∨ (b = 0 ∧ ¬ (0 ≤ v ∧ v < J 42 2))) : Option Value → ZH → Prop) = Q0
  show Z g l MX9_isNode 0 [some (.ref 42), some (.int (iZ v))] [] (KF Kd, zi J, zj P, RF Rd, n, s0) Q0
  refine z_iload_n dX9_isNode_0 rfl rfl ?_
  refine c_if_lt (tgt := 16) dX9_isNode_1 (by decide) (by omega) (fun h1 => ?_) (fun h1 => ?_)
  · refine c_iconst dX9_isNode_16 ?_
    refine c_zreturn dX9_isNode_17 rfl (by omega) ?_
    subst hQ0; exact ⟨_, rfl, rfl, by omega⟩
  · refine z_iload_n dX9_isNode_4 rfl rfl ?_
    refine z_aload_n dX9_isNode_5 rfl rfl ?_
    refine c_getI (ci := 9) (kf := 2) dX9_isNode_6 rfl (by decide) (by decide) rfl w_778 ?_
    refine c_icmp_ge (tgt := 16) dX9_isNode_9 (by decide) (by omega) (by omega) (fun h9 => ?_) (fun h9 => ?_)
    · refine c_iconst dX9_isNode_16 ?_
      refine c_zreturn dX9_isNode_17 rfl (by omega) ?_
      subst hQ0; exact ⟨_, rfl, rfl, by omega⟩
    · refine c_iconst dX9_isNode_12 ?_
      refine z_goto (tgt := 17) dX9_isNode_13 (by decide) ?_
      refine c_zreturn dX9_isNode_17 rfl (by omega) ?_
      subst hQ0; exact ⟨_, rfl, rfl, by omega⟩
set_option maxHeartbeats 4000000 in
set_option maxRecDepth 100000 in
theorem cMX9_isRule {v : Int} (hv : rI v) : ZC g l MX9_isRule [.int (iZ v)] (KF Kd, zi J, zj P, RF Rd, n, s0) (fun rr hh => ∃ b : Int, rr = some (.int (iZ b)) ∧ hh = (KF Kd, zi J, zj P, RF Rd, n, s0) ∧ ((b = 1 ∧ (0 ≤ v ∧ v < 3)) ∨ (b = 0 ∧ ¬ (0 ≤ v ∧ v < 3)))) := by
  refine ZC.of (by decide) (Nat.le_of_ble_eq_true rfl) ?_
  generalize hQ0 : (fun rr hh => ∃ b : Int, rr = some (.int (iZ b)) ∧ hh = (KF Kd, zi J, zj P, RF Rd, n, s0) ∧ ((b = 1 ∧ (0 ≤ v ∧ v < 3)) ∨ (b = 0 ∧ ¬ (0 ≤ v ∧ v < 3))) : Option Value → ZH → Prop) = Q0
  show Z g l MX9_isRule 0 [some (.int (iZ v))] [] (KF Kd, zi J, zj P, RF Rd, n, s0) Q0
  refine z_iload_n dX9_isRule_0 rfl rfl ?_
  refine c_if_lt (tgt := 13) dX9_isRule_1 (by decide) (by omega) (fun h1 => ?_) (fun h1 => ?_)
  · refine c_iconst dX9_isRule_13 ?_
    refine c_zreturn dX9_isRule_14 rfl (by omega) ?_
    subst hQ0; exact ⟨_, rfl, rfl, by omega⟩
  · refine z_iload_n dX9_isRule_4 rfl rfl ?_
    refine c_iconst dX9_isRule_5 ?_
    refine c_icmp_ge (tgt := 13) dX9_isRule_6 (by decide) (by omega) (by omega) (fun h6 => ?_) (fun h6 => ?_)
    · refine c_iconst dX9_isRule_13 ?_
      refine c_zreturn dX9_isRule_14 rfl (by omega) ?_
      subst hQ0; exact ⟨_, rfl, rfl, by omega⟩
    · refine c_iconst dX9_isRule_9 ?_
      refine z_goto (tgt := 14) dX9_isRule_10 (by decide) ?_
      refine c_zreturn dX9_isRule_14 rfl (by omega) ?_
      subst hQ0; exact ⟨_, rfl, rfl, by omega⟩
set_option maxHeartbeats 4000000 in
set_option maxRecDepth 100000 in
theorem cMX9_ruleMany {v : Int} (hv : rI v) : ZC g l MX9_ruleMany [.int (iZ v)] (KF Kd, zi J, zj P, RF Rd, n, s0) (fun rr hh => rr = some (.int (iZ (ruleN v))) ∧ hh = (KF Kd, zi J, zj P, RF Rd, n, s0)) := by
  refine ZC.of (by decide) (Nat.le_of_ble_eq_true rfl) ?_
  generalize hQ0 : (fun rr hh => rr = some (.int (iZ (ruleN v))) ∧ hh = (KF Kd, zi J, zj P, RF Rd, n, s0) : Option Value → ZH → Prop) = Q0
  show Z g l MX9_ruleMany 0 [some (.int (iZ v))] [] (KF Kd, zi J, zj P, RF Rd, n, s0) Q0
  refine z_iload_n dX9_ruleMany_0 rfl rfl ?_
  refine c_if_ne (tgt := 9) dX9_ruleMany_1 (by decide) (by omega) (fun h1 => ?_) (fun h1 => ?_)
  · refine z_iload_n dX9_ruleMany_9 rfl rfl ?_
    refine c_iconst dX9_ruleMany_10 ?_
    refine c_icmp_ne (tgt := 19) dX9_ruleMany_11 (by decide) (by omega) (by omega) (fun h11 => ?_) (fun h11 => ?_)
    · refine c_bipush dX9_ruleMany_19 (by decide) ?_
      refine c_ireturn dX9_ruleMany_21 rfl ?_
      subst hQ0; refine ⟨?_, rfl⟩; unfold ruleN; repeat (first | rw [if_pos (by omega)] | rw [if_neg (by omega)])
    · refine c_bipush dX9_ruleMany_14 (by decide) ?_
      refine z_goto (tgt := 21) dX9_ruleMany_16 (by decide) ?_
      refine c_ireturn dX9_ruleMany_21 rfl ?_
      subst hQ0; refine ⟨?_, rfl⟩; unfold ruleN; repeat (first | rw [if_pos (by omega)] | rw [if_neg (by omega)])
  · refine c_bipush dX9_ruleMany_4 (by decide) ?_
    refine z_goto (tgt := 21) dX9_ruleMany_6 (by decide) ?_
    refine c_ireturn dX9_ruleMany_21 rfl ?_
    subst hQ0; refine ⟨?_, rfl⟩; unfold ruleN; repeat (first | rw [if_pos (by omega)] | rw [if_neg (by omega)])
set_option maxHeartbeats 4000000 in
set_option maxRecDepth 100000 in
theorem cMX9_ruledAt {v i : Int} (hv : 0 ≤ v ∧ v < 3) (hi : 0 ≤ i ∧ i < ruleN v) (hR : okR J) : ZC g l MX9_ruledAt [.ref 42, .int (iZ v), .int (iZ i)] (KF Kd, zi J, zj P, RF Rd, n, s0) (fun rr hh => rr = some (.int (iZ (ruleA v i))) ∧ hh = (KF Kd, zi J, zj P, RF Rd, n, s0)) := by
  refine ZC.of (by decide) (Nat.le_of_ble_eq_true rfl) ?_
  generalize hQ0 : (fun rr hh => rr = some (.int (iZ (ruleA v i))) ∧ hh = (KF Kd, zi J, zj P, RF Rd, n, s0) : Option Value → ZH → Prop) = Q0
  show Z g l MX9_ruledAt 0 [some (.ref 42), some (.int (iZ v)), some (.int (iZ i))] [] (KF Kd, zi J, zj P, RF Rd, n, s0) Q0
  have hi2 : i < 9 ∨ (v = 1 ∧ i < 7) ∨ (v = 2 ∧ i < 17) := by unfold ruleN at hi; split at hi <;> (try split at hi) <;> omega
  have hi3 : v = 0 → i < 9 := by intro h0; unfold ruleN at hi; rw [if_pos h0] at hi; omega
  have hi4 : v = 1 → i < 7 := by intro h0; unfold ruleN at hi; rw [if_neg (by omega), if_pos h0] at hi; omega
  have hi5 : v = 2 → i < 17 := by intro h0; unfold ruleN at hi; rw [if_neg (by omega), if_neg (by omega)] at hi; omega
  clear hi2
  refine z_aload_n dX9_ruledAt_0 rfl rfl ?_
  refine z_getR (ci := 9) (kf := 21) dX9_ruledAt_1 rfl (by decide) (by decide) rfl w_797 rfl ?_
  refine z_iload_n dX9_ruledAt_4 rfl rfl ?_
  refine c_if_ne (tgt := 12) dX9_ruledAt_5 (by decide) (by omega) (fun h5 => ?_) (fun h5 => ?_)
  · refine z_iload_n dX9_ruledAt_12 rfl rfl ?_
    refine c_iconst dX9_ruledAt_13 ?_
    refine c_icmp_ne (tgt := 22) dX9_ruledAt_14 (by decide) (by omega) (by omega) (fun h14 => ?_) (fun h14 => ?_)
    · refine c_bipush dX9_ruledAt_22 (by decide) ?_
      refine z_iload_n dX9_ruledAt_24 rfl rfl ?_
      refine c_iadd dX9_ruledAt_25 ?_
      refine c_iald dX9_ruledAt_26 rfl (by omega) (by decide) ?_
      refine c_ireturn dX9_ruledAt_27 rfl ?_
      subst hQ0; refine ⟨?_, rfl⟩; rw [hR _ (by omega)]; unfold ruleA ruleO; repeat (first | rw [if_pos (by omega)] | rw [if_neg (by omega)])
    · refine c_bipush dX9_ruledAt_17 (by decide) ?_
      refine z_goto (tgt := 24) dX9_ruledAt_19 (by decide) ?_
      refine z_iload_n dX9_ruledAt_24 rfl rfl ?_
      refine c_iadd dX9_ruledAt_25 ?_
      refine c_iald dX9_ruledAt_26 rfl (by omega) (by decide) ?_
      refine c_ireturn dX9_ruledAt_27 rfl ?_
      subst hQ0; refine ⟨?_, rfl⟩; rw [hR _ (by omega)]; unfold ruleA ruleO; repeat (first | rw [if_pos (by omega)] | rw [if_neg (by omega)])
  · refine c_iconst dX9_ruledAt_8 ?_
    refine z_goto (tgt := 24) dX9_ruledAt_9 (by decide) ?_
    refine z_iload_n dX9_ruledAt_24 rfl rfl ?_
    refine c_iadd dX9_ruledAt_25 ?_
    refine c_iald dX9_ruledAt_26 rfl (by omega) (by decide) ?_
    refine c_ireturn dX9_ruledAt_27 rfl ?_
    subst hQ0; refine ⟨?_, rfl⟩; rw [hR _ (by omega)]; unfold ruleA ruleO; repeat (first | rw [if_pos (by omega)] | rw [if_neg (by omega)])
set_option maxHeartbeats 4000000 in
set_option maxRecDepth 100000 in
theorem cMX9_rule {r i : Int} (h1 : rI r) (h2 : rI i) (hR : okR J) : ZC g l MX9_rule [.ref 42, .int (iZ r), .int (iZ i)] (KF Kd, zi J, zj P, RF Rd, n, s0) (fun rr hh => ∃ J' P', hh = (KF Kd, zi J', zj P', RF Rd, n, s0) ∧ rr = some (.int (iZ (aRule r i))) ∧ pq J J' ∧ pp P P') := by
  refine ZC.of (by decide) (Nat.le_of_ble_eq_true rfl) ?_
  generalize hQ0 : (fun rr hh => ∃ J' P', hh = (KF Kd, zi J', zj P', RF Rd, n, s0) ∧ rr = some (.int (iZ (aRule r i))) ∧ pq J J' ∧ pp P P' : Option Value → ZH → Prop) = Q0
  show Z g l MX9_rule 0 [some (.ref 42), some (.int (iZ r)), some (.int (iZ i))] [] (KF Kd, zi J, zj P, RF Rd, n, s0) Q0
  refine z_iload_n dX9_rule_0 rfl rfl ?_
  refine z_calls (N := MX9_isRule) (nas := 1) (as := [_]) dX9_rule_1 w_1083 w_1081 w_1082 w_8 (by decide +kernel) rfl rfl (Nat.le_of_ble_eq_true rfl) (by decide) (by decide) (ZC.mono (cMX9_isRule (by omega)) ?_)
  rintro _ _ ⟨b1, rfl, rfl, hb1⟩
  refine c_if_ne (tgt := 9) dX9_rule_4 (by decide) (by omega) (fun h4 => ?_) (fun h4 => ?_)
  · have g1 := (hb1.resolve_right (fun z => by have := z.1; omega)).2
    clear hb1
    refine z_iload_n dX9_rule_9 rfl rfl ?_
    refine c_i2l dX9_rule_10 (by omega) ?_
    refine c_lconst0 dX9_rule_11 ?_
    refine z_iload_n dX9_rule_12 rfl rfl ?_
    refine z_calls (N := MX9_ruleMany) (nas := 1) (as := [_]) dX9_rule_13 w_1086 w_1084 w_1085 w_8 (by decide +kernel) rfl rfl (Nat.le_of_ble_eq_true rfl) (by decide) (by decide) (ZC.mono (cMX9_ruleMany (by omega)) ?_)
    rintro _ _ ⟨rfl, rfl⟩
    have hrn : 7 ≤ ruleN r ∧ ruleN r ≤ 17 := by unfold ruleN; split <;> (try split) <;> omega
    refine c_iconst dX9_rule_16 ?_
    refine c_isub dX9_rule_17 ?_
    refine c_i2l dX9_rule_18 (by omega) ?_
    refine z_calls (N := MX9_in) (nas := 3) (as := [_, _, _]) dX9_rule_19 w_889 w_887 w_888 w_8 (by decide +kernel) rfl rfl (Nat.le_of_ble_eq_true rfl) (by decide) (by decide) (ZC.mono (b_in (by omega) (by omega) (by omega)) ?_)
    rintro _ _ ⟨b19, rfl, rfl, hb19⟩
    refine c_if_eq (tgt := 34) dX9_rule_22 (by decide) (by omega) (fun h22 => ?_) (fun h22 => ?_)
    · have g19 := (hb19.resolve_left (fun z => by have := z.1; omega)).2
      clear hb19
      refine c_bipush dX9_rule_34 (by decide) ?_
      refine c_ireturn dX9_rule_36 rfl ?_
      subst hQ0; refine ⟨_, _, rfl, ?_⟩; unfold aRule; rw [cif_pos (by omega)]; first | (rw [cif_neg (by omega)]; exact ⟨rfl, pq_refl _, pp_refl _⟩) | (rw [cif_pos (by omega)]; exact ⟨rfl, pq_refl _, pp_refl _⟩)
    · have g19 := (hb19.resolve_right (fun z => by have := z.1; omega)).2
      clear hb19
      refine z_aload_n dX9_rule_25 rfl rfl ?_
      refine z_iload_n dX9_rule_26 rfl rfl ?_
      refine z_iload_n dX9_rule_27 rfl rfl ?_
      refine z_callv (N := MX9_ruledAt) (ci := 9) (nas := 2) (as := [_, _]) dX9_rule_28 w_1090 w_1087 w_1089 ws_39 w_8 (by decide +kernel) rfl rfl rfl (by decide) (Nat.le_of_ble_eq_true rfl) (by decide) (by decide) (ZC.mono (cMX9_ruledAt (by omega) (by omega) hR) ?_)
      rintro _ _ ⟨rfl, rfl⟩
      refine z_goto (tgt := 36) dX9_rule_31 (by decide) ?_
      refine c_ireturn dX9_rule_36 rfl ?_
      subst hQ0; refine ⟨_, _, rfl, ?_⟩; unfold aRule; rw [cif_pos (by omega)]; first | (rw [cif_neg (by omega)]; exact ⟨rfl, pq_refl _, pp_refl _⟩) | (rw [cif_pos (by omega)]; exact ⟨rfl, pq_refl _, pp_refl _⟩)
  · have g1 := (hb1.resolve_left (fun z => by have := z.1; omega)).2
    clear hb1
    refine c_iconst dX9_rule_7 ?_
    refine c_ireturn dX9_rule_8 rfl ?_
    subst hQ0; refine ⟨_, _, rfl, ?_⟩; unfold aRule; rw [cif_neg (by omega)]; exact ⟨rfl, pq_refl _, pp_refl _⟩
set_option maxHeartbeats 4000000 in
set_option maxRecDepth 100000 in
theorem cMX9_keep (hL : okJ J) (hT : okT J) : ZC g l MX9_keep [.ref 42] (KF Kd, zi J, zj P, RF Rd, n, s0) (fun rr hh => ∃ J' P', hh = (KF Kd, zi J', zj P', RF Rd, n, s0) ∧ rr = some (.int (iZ (aKeep J).1)) ∧ pq (aKeep J).2 J' ∧ pp P P') := by
  refine ZC.of (by decide) (Nat.le_of_ble_eq_true rfl) ?_
  generalize hQ0 : (fun rr hh => ∃ J' P', hh = (KF Kd, zi J', zj P', RF Rd, n, s0) ∧ rr = some (.int (iZ (aKeep J).1)) ∧ pq (aKeep J).2 J' ∧ pp P P' : Option Value → ZH → Prop) = Q0
  show Z g l MX9_keep 0 [some (.ref 42), none] [] (KF Kd, zi J, zj P, RF Rd, n, s0) Q0
  refine c_iconst dX9_keep_0 ?_
  refine z_istore_n dX9_keep_1 rfl (by decide) rfl ?_
  have L2 : ∀ (m2 : Nat), ∀ (p : Int) (J1 : Nat → Nat → Int), (36 - p).toNat = m2 → (0 ≤ p ∧ p ≤ 36) → (J1 = (fun a q => if a = 44 ∧ 36 ≤ q ∧ q < 36 + p.toNat then J 44 (q - 36) else if a = 43 ∧ 576 ≤ q ∧ q < 576 + 16 * p.toNat then J 43 (q - 576) else J a q)) → Z g l MX9_keep 2 [some (.ref 42), some (.int (iZ p))] [] (KF Kd, zi J1, zj P, RF Rd, n, s0) Q0 := by
    intro m2
    induction m2 using Nat.strongRecOn with
    | ind m2 ih2 =>
      intro p J1 hm2 hp hJ
      refine z_iload_n dX9_keep_2 rfl rfl ?_
      refine c_bipush dX9_keep_3 (by decide) ?_
      refine c_icmp_ge (tgt := 23) dX9_keep_5 (by decide) (by omega) (by omega) (fun h5 => ?_) (fun h5 => ?_)
      · refine c_iconst dX9_keep_23 ?_
        refine z_istore_n dX9_keep_24 rfl (by decide) rfl ?_
        have L25 : ∀ (m25 : Nat), ∀ (k : Int) (J1 : Nat → Nat → Int), (30 - k).toNat = m25 → (0 ≤ k ∧ k ≤ 30) → (J1 = (fun a q => if a = 44 ∧ 36 ≤ q ∧ q < 72 then J 44 (q - 36) else if a = 43 ∧ 576 ≤ q ∧ q < 1152 then J 43 (q - 576) else if a = 47 ∧ q < k.toNat then J 45 q else if a = 48 ∧ q < k.toNat then J 46 q else J a q)) → Z g l MX9_keep 25 [some (.ref 42), some (.int (iZ k))] [] (KF Kd, zi J1, zj P, RF Rd, n, s0) Q0 := by
          intro m25
          induction m25 using Nat.strongRecOn with
          | ind m25 ih25 =>
            intro k J1 hm25 hk hJ
            refine z_iload_n dX9_keep_25 rfl rfl ?_
            refine c_bipush dX9_keep_26 (by decide) ?_
            refine c_icmp_ge (tgt := 61) dX9_keep_28 (by decide) (by omega) (by omega) (fun h28 => ?_) (fun h28 => ?_)
            · refine z_aload_n dX9_keep_61 rfl rfl ?_
              refine z_aload_n dX9_keep_62 rfl rfl ?_
              refine c_getI (ci := 9) (kf := 2) dX9_keep_63 rfl (by decide) (by decide) rfl w_778 ?_
              refine c_putI (ci := 9) (kf := 5) dX9_keep_66 rfl (by decide) (by decide) rfl (by decide) w_781 ?_
              refine z_aload_n dX9_keep_69 rfl rfl ?_
              refine c_iconst dX9_keep_70 ?_
              refine c_putZ (ci := 9) (kf := 8) dX9_keep_71 rfl (by decide) (by decide) rfl (by decide) (by omega) w_784 ?_
              refine z_aload_n dX9_keep_74 rfl rfl ?_
              have eJ : zup (zup J1 42 5 (J1 42 2)) 42 8 1 = jkeep J := by
                clear hQ0; subst hJ; unfold jkeep; rw [show k.toNat = 30 by omega]; funext a q; simp only [zup]; grind (splits := 20)
              rw [eJ]
              have hL75 : okJ (jkeep J) := okJ_keep hL
              refine z_callv (N := MX9_slotsHeld) (ci := 9) (nas := 0) (as := []) dX9_keep_75 w_1216 w_1213 w_1215 ws_53 w_8 (by decide +kernel) rfl rfl rfl (by decide) (Nat.le_of_ble_eq_true rfl) (by decide) (by decide) (ZC.mono (cMX9_slotsHeld hL75) ?_)
              rintro _ _ ⟨rfl, rfl⟩
              refine c_ireturn dX9_keep_78 rfl ?_
              subst hQ0; refine ⟨_, _, rfl, ?_, pq_refl _, pp_refl _⟩; unfold aKeep; rw [heldN_congr (J := J) 6 (fun q hq => by unfold jkeep; rw [if_neg (by omega), if_neg (by omega), if_neg (by omega), if_neg (by omega), if_neg (by omega), if_neg (by omega)])]
            · refine z_aload_n dX9_keep_31 rfl rfl ?_
              refine z_getR (ci := 9) (kf := 6) dX9_keep_32 rfl (by decide) (by decide) rfl w_782 rfl ?_
              refine z_iload_n dX9_keep_35 rfl rfl ?_
              refine z_aload_n dX9_keep_36 rfl rfl ?_
              refine z_getR (ci := 9) (kf := 3) dX9_keep_37 rfl (by decide) (by decide) rfl w_779 rfl ?_
              refine z_iload_n dX9_keep_40 rfl rfl ?_
              refine c_iald dX9_keep_41 rfl (by omega) (by decide) ?_
              refine c_iast dX9_keep_42 rfl (by omega) (by decide) ?_
              refine z_aload_n dX9_keep_43 rfl rfl ?_
              refine z_getR (ci := 9) (kf := 7) dX9_keep_44 rfl (by decide) (by decide) rfl w_783 rfl ?_
              refine z_iload_n dX9_keep_47 rfl rfl ?_
              refine z_aload_n dX9_keep_48 rfl rfl ?_
              refine z_getR (ci := 9) (kf := 4) dX9_keep_49 rfl (by decide) (by decide) rfl w_780 rfl ?_
              refine z_iload_n dX9_keep_52 rfl rfl ?_
              refine c_iald dX9_keep_53 rfl (by omega) (by decide) ?_
              refine c_iast dX9_keep_54 rfl (by omega) (by decide) ?_
              refine c_iinc dX9_keep_55 rfl (by decide) rfl ?_
              refine z_goto (tgt := 25) dX9_keep_58 (by decide) ?_
              exact Z.fg2 (ih25 _ (by omega) _ _ rfl (by omega) (by clear ih25 ih2 hQ0 hL hT; subst hJ; funext a q; simp only [zup]; grind (splits := 20))) (zs1 rfl (zs1 rfl zs0))
        exact Z.fg2 (L25 _ _ _ rfl (by omega) (by clear ih2 hQ0 hL hT; subst hJ; rw [show p.toNat = 36 by omega]; funext a q; grind)) (zs1 rfl (zs1 rfl zs0))
      · refine z_aload_n dX9_keep_8 rfl rfl ?_
        refine z_iload_n dX9_keep_9 rfl rfl ?_
        refine c_bipush dX9_keep_10 (by decide) ?_
        refine z_iload_n dX9_keep_12 rfl rfl ?_
        refine c_iadd dX9_keep_13 ?_
        refine z_callv (N := MX9_copyTo) (ci := 9) (nas := 2) (as := [_, _]) dX9_keep_14 w_940 w_937 w_939 ws_27 w_8 (by decide +kernel) rfl rfl rfl (by decide) (Nat.le_of_ble_eq_true rfl) (by decide) (by decide) (ZC.mono (j_copyTo (by omega) (by omega)) ?_)
        rintro _ _ ⟨rfl, rfl⟩
        refine c_iinc dX9_keep_17 rfl (by decide) rfl ?_
        refine z_goto (tgt := 2) dX9_keep_20 (by decide) ?_
        exact Z.fg2 (ih2 _ (by omega) _ _ rfl (by omega) (by clear ih2 hQ0 hL hT; subst hJ; exact keep_step hp (by omega))) (zs1 rfl (zs1 rfl zs0))
  exact Z.fg2 (L2 _ _ _ rfl (by omega) (by clear hQ0; funext a q; grind)) (zs1 rfl (zs1 rfl zs0))
set_option maxHeartbeats 4000000 in
set_option maxRecDepth 100000 in
theorem cMX9_back (hL : okJ J) (hT : okT J) : ZC g l MX9_back [.ref 42] (KF Kd, zi J, zj P, RF Rd, n, s0) (fun rr hh => ∃ J' P', hh = (KF Kd, zi J', zj P', RF Rd, n, s0) ∧ rr = some (.int (iZ (aBack J).1)) ∧ pq (aBack J).2 J' ∧ pp P P') := by
  refine ZC.of (by decide) (Nat.le_of_ble_eq_true rfl) ?_
  generalize hQ0 : (fun rr hh => ∃ J' P', hh = (KF Kd, zi J', zj P', RF Rd, n, s0) ∧ rr = some (.int (iZ (aBack J).1)) ∧ pq (aBack J).2 J' ∧ pp P P' : Option Value → ZH → Prop) = Q0
  show Z g l MX9_back 0 [some (.ref 42), none] [] (KF Kd, zi J, zj P, RF Rd, n, s0) Q0
  have hk8 := hT.2.2.1
  refine z_aload_n dX9_back_0 rfl rfl ?_
  refine c_getI (ci := 9) (kf := 8) dX9_back_1 rfl (by decide) (by decide) rfl w_784 ?_
  refine c_if_ne (tgt := 10) dX9_back_4 (by decide) (by omega) (fun h4 => ?_) (fun h4 => ?_)
  · refine c_iconst dX9_back_10 ?_
    refine z_istore_n dX9_back_11 rfl (by decide) rfl ?_
    have L12 : ∀ (m12 : Nat), ∀ (p : Int) (J1 : Nat → Nat → Int), (36 - p).toNat = m12 → (0 ≤ p ∧ p ≤ 36) → (J1 = (fun a q => if a = 44 ∧ q < p.toNat then J 44 (q + 36) else if a = 43 ∧ q < 16 * p.toNat then J 43 (q + 576) else J a q)) → Z g l MX9_back 12 [some (.ref 42), some (.int (iZ p))] [] (KF Kd, zi J1, zj P, RF Rd, n, s0) Q0 := by
      intro m12
      induction m12 using Nat.strongRecOn with
      | ind m12 ih12 =>
        intro p J1 hm12 hp hJ
        refine z_iload_n dX9_back_12 rfl rfl ?_
        refine c_bipush dX9_back_13 (by decide) ?_
        refine c_icmp_ge (tgt := 33) dX9_back_15 (by decide) (by omega) (by omega) (fun h15 => ?_) (fun h15 => ?_)
        · refine c_iconst dX9_back_33 ?_
          refine z_istore_n dX9_back_34 rfl (by decide) rfl ?_
          have L35 : ∀ (m35 : Nat), ∀ (k : Int) (J1 : Nat → Nat → Int), (30 - k).toNat = m35 → (0 ≤ k ∧ k ≤ 30) → (J1 = (fun a q => if a = 44 ∧ q < 36 then J 44 (q + 36) else if a = 43 ∧ q < 576 then J 43 (q + 576) else if a = 45 ∧ q < k.toNat then J 47 q else if a = 46 ∧ q < k.toNat then J 48 q else J a q)) → Z g l MX9_back 35 [some (.ref 42), some (.int (iZ k))] [] (KF Kd, zi J1, zj P, RF Rd, n, s0) Q0 := by
            intro m35
            induction m35 using Nat.strongRecOn with
            | ind m35 ih35 =>
              intro k J1 hm35 hk hJ
              refine z_iload_n dX9_back_35 rfl rfl ?_
              refine c_bipush dX9_back_36 (by decide) ?_
              refine c_icmp_ge (tgt := 71) dX9_back_38 (by decide) (by omega) (by omega) (fun h38 => ?_) (fun h38 => ?_)
              · refine z_aload_n dX9_back_71 rfl rfl ?_
                refine z_aload_n dX9_back_72 rfl rfl ?_
                refine c_getI (ci := 9) (kf := 5) dX9_back_73 rfl (by decide) (by decide) rfl w_781 ?_
                refine c_putI (ci := 9) (kf := 2) dX9_back_76 rfl (by decide) (by decide) rfl (by decide) w_778 ?_
                refine z_aload_n dX9_back_79 rfl rfl ?_
                have eJ : zup J1 42 2 (J1 42 5) = jback J := by
                  clear hQ0; subst hJ; unfold jback; rw [show k.toNat = 30 by omega]; funext a q; simp only [zup]; grind (splits := 20)
                rw [eJ]
                have hL80 : okJ (jback J) := okJ_back hL
                refine z_callv (N := MX9_slotsHeld) (ci := 9) (nas := 0) (as := []) dX9_back_80 w_1216 w_1213 w_1215 ws_53 w_8 (by decide +kernel) rfl rfl rfl (by decide) (Nat.le_of_ble_eq_true rfl) (by decide) (by decide) (ZC.mono (cMX9_slotsHeld hL80) ?_)
                rintro _ _ ⟨rfl, rfl⟩
                refine c_ireturn dX9_back_83 rfl ?_
                subst hQ0; refine ⟨_, _, rfl, ?_⟩; unfold aBack; rw [cif_neg (by omega)]; exact ⟨rfl, pq_refl _, pp_refl _⟩
              · refine z_aload_n dX9_back_41 rfl rfl ?_
                refine z_getR (ci := 9) (kf := 3) dX9_back_42 rfl (by decide) (by decide) rfl w_779 rfl ?_
                refine z_iload_n dX9_back_45 rfl rfl ?_
                refine z_aload_n dX9_back_46 rfl rfl ?_
                refine z_getR (ci := 9) (kf := 6) dX9_back_47 rfl (by decide) (by decide) rfl w_782 rfl ?_
                refine z_iload_n dX9_back_50 rfl rfl ?_
                refine c_iald dX9_back_51 rfl (by omega) (by decide) ?_
                refine c_iast dX9_back_52 rfl (by omega) (by decide) ?_
                refine z_aload_n dX9_back_53 rfl rfl ?_
                refine z_getR (ci := 9) (kf := 4) dX9_back_54 rfl (by decide) (by decide) rfl w_780 rfl ?_
                refine z_iload_n dX9_back_57 rfl rfl ?_
                refine z_aload_n dX9_back_58 rfl rfl ?_
                refine z_getR (ci := 9) (kf := 7) dX9_back_59 rfl (by decide) (by decide) rfl w_783 rfl ?_
                refine z_iload_n dX9_back_62 rfl rfl ?_
                refine c_iald dX9_back_63 rfl (by omega) (by decide) ?_
                refine c_iast dX9_back_64 rfl (by omega) (by decide) ?_
                refine c_iinc dX9_back_65 rfl (by decide) rfl ?_
                refine z_goto (tgt := 35) dX9_back_68 (by decide) ?_
                exact Z.fg2 (ih35 _ (by omega) _ _ rfl (by omega) (by clear ih35 ih12 hQ0 hL hT; subst hJ; funext a q; simp only [zup]; grind (splits := 20))) (zs1 rfl (zs1 rfl zs0))
          exact Z.fg2 (L35 _ _ _ rfl (by omega) (by clear ih12 hQ0 hL hT; subst hJ; rw [show p.toNat = 36 by omega]; funext a q; grind)) (zs1 rfl (zs1 rfl zs0))
        · refine z_aload_n dX9_back_18 rfl rfl ?_
          refine c_bipush dX9_back_19 (by decide) ?_
          refine z_iload_n dX9_back_21 rfl rfl ?_
          refine c_iadd dX9_back_22 ?_
          refine z_iload_n dX9_back_23 rfl rfl ?_
          refine z_callv (N := MX9_copyTo) (ci := 9) (nas := 2) (as := [_, _]) dX9_back_24 w_940 w_937 w_939 ws_27 w_8 (by decide +kernel) rfl rfl rfl (by decide) (Nat.le_of_ble_eq_true rfl) (by decide) (by decide) (ZC.mono (j_copyTo (by omega) (by omega)) ?_)
          rintro _ _ ⟨rfl, rfl⟩
          refine c_iinc dX9_back_27 rfl (by decide) rfl ?_
          refine z_goto (tgt := 12) dX9_back_30 (by decide) ?_
          exact Z.fg2 (ih12 _ (by omega) _ _ rfl (by omega) (by clear ih12 hQ0 hL hT; subst hJ; exact back_step hp (by omega))) (zs1 rfl (zs1 rfl zs0))
    exact Z.fg2 (L12 _ _ _ rfl (by omega) (by clear hQ0; funext a q; grind)) (zs1 rfl (zs1 rfl zs0))
  · refine c_bipush dX9_back_7 (by decide) ?_
    refine c_ireturn dX9_back_9 rfl ?_
    subst hQ0; refine ⟨_, _, rfl, ?_⟩; unfold aBack; rw [cif_pos (by omega)]; exact ⟨rfl, pq_refl _, pp_refl _⟩
set_option maxHeartbeats 4000000 in
set_option maxRecDepth 100000 in
theorem cMX9_count {w : Int} (hw : rI w) (hL : okJ J) (hT : okT J) (hS : okS J) : ZC g l MX9_count [.ref 42, .int (iZ w)] (KF Kd, zi J, zj P, RF Rd, n, s0) (fun rr hh => ∃ J' P', hh = (KF Kd, zi J', zj P', RF Rd, n, s0) ∧ rr = some (.int (iZ (aCount J w))) ∧ pq J J' ∧ pp P P') := by
  refine ZC.of (by decide) (Nat.le_of_ble_eq_true rfl) ?_
  generalize hQ0 : (fun rr hh => ∃ J' P', hh = (KF Kd, zi J', zj P', RF Rd, n, s0) ∧ rr = some (.int (iZ (aCount J w))) ∧ pq J J' ∧ pp P P' : Option Value → ZH → Prop) = Q0
  show Z g l MX9_count 0 [some (.ref 42), some (.int (iZ w)), none, none] [] (KF Kd, zi J, zj P, RF Rd, n, s0) Q0
  refine c_iconst dX9_count_0 ?_
  refine z_istore_n dX9_count_1 rfl (by decide) rfl ?_
  refine z_iload_n dX9_count_2 rfl rfl ?_
  rcases (show w = 0 ∨ w = 1 ∨ w = 2 ∨ w = 3 ∨ (w < 0 ∨ 3 < w) by omega) with hsw | hsw | hsw | hsw | hsw
  · subst hsw
    refine c_tableIn (tgt := 32) dX9_count_3 (by decide) (by decide) rfl (by decide) ?_
    refine z_aload_n dX9_count_32 rfl rfl ?_
    have hL33 := hL
    refine z_callv (N := MX9_slotsHeld) (ci := 9) (nas := 0) (as := []) dX9_count_33 w_1216 w_1213 w_1215 ws_53 w_8 (by decide +kernel) rfl rfl rfl (by decide) (Nat.le_of_ble_eq_true rfl) (by decide) (by decide) (ZC.mono (cMX9_slotsHeld hL33) ?_)
    rintro _ _ ⟨rfl, rfl⟩
    refine c_ireturn dX9_count_36 rfl ?_
    subst hQ0; refine ⟨_, _, rfl, ?_, pq_refl _, pp_refl _⟩; unfold aCount; repeat (first | rw [if_pos (by omega)] | rw [if_neg (by omega)])
  · subst hsw
    refine c_tableIn (tgt := 37) dX9_count_3 (by decide) (by decide) rfl (by decide) ?_
    refine z_aload_n dX9_count_37 rfl rfl ?_
    refine c_getI (ci := 9) (kf := 2) dX9_count_38 rfl (by decide) (by decide) rfl w_778 ?_
    refine c_ireturn dX9_count_41 rfl ?_
    subst hQ0; refine ⟨_, _, rfl, ?_, pq_refl _, pp_refl _⟩; unfold aCount; repeat (first | rw [if_pos (by omega)] | rw [if_neg (by omega)])
  · subst hsw
    refine c_tableIn (tgt := 42) dX9_count_3 (by decide) (by decide) rfl (by decide) ?_
    refine c_iconst dX9_count_42 ?_
    refine z_istore_n dX9_count_43 rfl (by decide) rfl ?_
    have L44 : ∀ (m44 : Nat), ∀ (k c : Int), (4 - k).toNat = m44 → (0 ≤ k ∧ k ≤ 4) → (c = sheetN J k.toNat) → Z g l MX9_count 44 [some (.ref 42), none, some (.int (iZ c)), some (.int (iZ k))] [] (KF Kd, zi J, zj P, RF Rd, n, s0) Q0 := by
      intro m44
      induction m44 using Nat.strongRecOn with
      | ind m44 ih44 =>
        intro k c hm44 hk hc
        refine z_iload_n dX9_count_44 rfl rfl ?_
        refine c_iconst dX9_count_45 ?_
        refine c_icmp_ge (tgt := 72) dX9_count_46 (by decide) (by omega) (by omega) (fun h46 => ?_) (fun h46 => ?_)
        · refine z_iload_n dX9_count_72 rfl rfl ?_
          refine c_ireturn dX9_count_73 rfl ?_
          subst hQ0; refine ⟨_, _, rfl, ?_, pq_refl _, pp_refl _⟩; rw [hc, show k.toNat = 4 by omega]; rfl
        · have hq4 := (hS.1 k.toNat (by omega)).1
          refine z_iload_n dX9_count_49 rfl rfl ?_
          refine z_aload_n dX9_count_50 rfl rfl ?_
          refine z_getR (ci := 9) (kf := 31) dX9_count_51 rfl (by decide) (by decide) rfl w_807 rfl ?_
          refine z_iload_n dX9_count_54 rfl rfl ?_
          refine c_iald dX9_count_55 rfl (by omega) (by decide) ?_
          refine c_if_lt (tgt := 63) dX9_count_56 (by decide) (by omega) (fun h56 => ?_) (fun h56 => ?_)
          · refine c_iconst dX9_count_63 ?_
            refine c_iadd dX9_count_64 ?_
            refine z_istore_n dX9_count_65 rfl (by decide) rfl ?_
            refine c_iinc dX9_count_66 rfl (by decide) rfl ?_
            refine z_goto (tgt := 44) dX9_count_69 (by decide) ?_
            exact Z.fg2 (ih44 _ (by omega) _ _ rfl (by omega) (by rw [show (k + 1).toNat = k.toNat + 1 by omega, sheetN, ← hc]; first | rw [if_pos (by omega)] | rw [if_neg (by omega)])) (zs1 rfl (zsn (zs1 rfl (zs1 rfl zs0))))
          · refine c_iconst dX9_count_59 ?_
            refine z_goto (tgt := 64) dX9_count_60 (by decide) ?_
            refine c_iadd dX9_count_64 ?_
            refine z_istore_n dX9_count_65 rfl (by decide) rfl ?_
            refine c_iinc dX9_count_66 rfl (by decide) rfl ?_
            refine z_goto (tgt := 44) dX9_count_69 (by decide) ?_
            exact Z.fg2 (ih44 _ (by omega) _ _ rfl (by omega) (by rw [show (k + 1).toNat = k.toNat + 1 by omega, sheetN, ← hc]; first | rw [if_pos (by omega)] | rw [if_neg (by omega)])) (zs1 rfl (zsn (zs1 rfl (zs1 rfl zs0))))
    exact Z.fg2 (L44 _ _ _ rfl (by omega) (rfl : (0 : Int) = sheetN J (0 : Int).toNat)) (zs1 rfl (zsn (zs1 rfl (zs1 rfl zs0))))
  · subst hsw
    refine c_tableIn (tgt := 74) dX9_count_3 (by decide) (by decide) rfl (by decide) ?_
    refine z_aload_n dX9_count_74 rfl rfl ?_
    refine c_getI (ci := 9) (kf := 8) dX9_count_75 rfl (by decide) (by decide) rfl w_784 ?_
    have hk8 := hT.2.2.1
    refine c_if_eq (tgt := 85) dX9_count_78 (by decide) (by omega) (fun h78 => ?_) (fun h78 => ?_)
    · refine c_iconst dX9_count_85 ?_
      refine c_ireturn dX9_count_86 rfl ?_
      subst hQ0; refine ⟨_, _, rfl, ?_, pq_refl _, pp_refl _⟩; unfold aCount; repeat (first | rw [if_pos (by omega)] | rw [if_neg (by omega)])
    · refine c_iconst dX9_count_81 ?_
      refine z_goto (tgt := 86) dX9_count_82 (by decide) ?_
      refine c_ireturn dX9_count_86 rfl ?_
      subst hQ0; refine ⟨_, _, rfl, ?_, pq_refl _, pp_refl _⟩; unfold aCount; repeat (first | rw [if_pos (by omega)] | rw [if_neg (by omega)])
  · refine c_tableOut (tgt := 87) dX9_count_3 (by omega) hsw (by decide) ?_
    refine c_iconst dX9_count_87 ?_
    refine c_ireturn dX9_count_88 rfl ?_
    subst hQ0; refine ⟨_, _, rfl, ?_, pq_refl _, pp_refl _⟩; unfold aCount; repeat (first | rw [if_pos (by omega)] | rw [if_neg (by omega)])
set_option maxHeartbeats 4000000 in
set_option maxRecDepth 100000 in
theorem cMX9_plant {s : Int} (hs : rI s) (hL : okJ J) : ZC g l MX9_plant [.ref 42, .int (iZ s)] (KF Kd, zi J, zj P, RF Rd, n, s0) (fun rr hh => ∃ J' P', hh = (KF Kd, zi J', zj P', RF Rd, n, s0) ∧ rr = some (.int (iZ (aPlant J s).1)) ∧ pq (aPlant J s).2 J' ∧ pp P P') := by
  refine ZC.of (by decide) (Nat.le_of_ble_eq_true rfl) ?_
  generalize hQ0 : (fun rr hh => ∃ J' P', hh = (KF Kd, zi J', zj P', RF Rd, n, s0) ∧ rr = some (.int (iZ (aPlant J s).1)) ∧ pq (aPlant J s).2 J' ∧ pp P P' : Option Value → ZH → Prop) = Q0
  show Z g l MX9_plant 0 [some (.ref 42), some (.int (iZ s)), none] [] (KF Kd, zi J, zj P, RF Rd, n, s0) Q0
  refine z_aload_n dX9_plant_0 rfl rfl ?_
  refine z_iload_n dX9_plant_1 rfl rfl ?_
  refine z_callv (N := MX9_hasForm) (ci := 9) (nas := 1) (as := [_]) dX9_plant_2 w_948 w_945 w_947 ws_28 w_8 (by decide +kernel) rfl rfl rfl (by decide) (Nat.le_of_ble_eq_true rfl) (by decide) (by decide) (ZC.mono (b_hasForm (by omega) hL) ?_)
  rintro _ _ ⟨b2, rfl, rfl, hb2⟩
  refine c_if_ne (tgt := 10) dX9_plant_5 (by decide) (by omega) (fun h5 => ?_) (fun h5 => ?_)
  · have g2 := (hb2.resolve_right (fun z => by have := z.1; omega)).2
    clear hb2
    refine z_aload_n dX9_plant_10 rfl rfl ?_
    refine c_getI (ci := 9) (kf := 2) dX9_plant_11 rfl (by decide) (by decide) rfl w_778 ?_
    refine z_istore_n dX9_plant_14 rfl (by decide) rfl ?_
    refine z_aload_n dX9_plant_15 rfl rfl ?_
    refine z_iload_n dX9_plant_16 rfl rfl ?_
    refine c_bipush dX9_plant_17 (by decide) ?_
    refine z_callv (N := MX9_copyTo) (ci := 9) (nas := 2) (as := [_, _]) dX9_plant_19 w_940 w_937 w_939 ws_27 w_8 (by decide +kernel) rfl rfl rfl (by decide) (Nat.le_of_ble_eq_true rfl) (by decide) (by decide) (ZC.mono (j_copyTo (by omega) (by omega)) ?_)
    rintro _ _ ⟨rfl, rfl⟩
    refine z_aload_n dX9_plant_22 rfl rfl ?_
    refine z_getR (ci := 9) (kf := 3) dX9_plant_23 rfl (by decide) (by decide) rfl w_779 rfl ?_
    refine c_iconst dX9_plant_26 ?_
    refine c_bipush dX9_plant_27 (by decide) ?_
    refine c_iast dX9_plant_29 rfl (by omega) (by decide) ?_
    refine z_aload_n dX9_plant_30 rfl rfl ?_
    refine z_getR (ci := 9) (kf := 4) dX9_plant_31 rfl (by decide) (by decide) rfl w_780 rfl ?_
    refine c_iconst dX9_plant_34 ?_
    refine c_bipush dX9_plant_35 (by decide) ?_
    refine c_iast dX9_plant_37 rfl (by omega) (by decide) ?_
    refine z_aload_n dX9_plant_38 rfl rfl ?_
    refine c_iconst dX9_plant_39 ?_
    refine c_putI (ci := 9) (kf := 2) dX9_plant_40 rfl (by decide) (by decide) rfl (by decide) w_778 ?_
    refine z_iload_n dX9_plant_43 rfl rfl ?_
    refine c_ireturn dX9_plant_44 rfl ?_
    subst hQ0; refine ⟨_, _, rfl, ?_⟩; unfold aPlant; rw [cif_pos (by omega)]; exact ⟨rfl, pq_refl _, pp_refl _⟩
  · have g2 := (hb2.resolve_left (fun z => by have := z.1; omega)).2
    clear hb2
    refine c_iconst dX9_plant_8 ?_
    refine c_ireturn dX9_plant_9 rfl ?_
    subst hQ0; refine ⟨_, _, rfl, ?_⟩; unfold aPlant; rw [cif_neg (by omega)]; exact ⟨rfl, pq_refl _, pp_refl _⟩
set_option maxHeartbeats 4000000 in
set_option maxRecDepth 100000 in
theorem cMX9_nodeTo {nd s : Int} (h1 : rI nd) (h2 : rI s) (hL : okJ J) (hT : okT J) : ZC g l MX9_nodeTo [.ref 42, .int (iZ nd), .int (iZ s)] (KF Kd, zi J, zj P, RF Rd, n, s0) (fun rr hh => ∃ J' P', hh = (KF Kd, zi J', zj P', RF Rd, n, s0) ∧ rr = some (.int (iZ (aNodeTo J nd s).1)) ∧ pq (aNodeTo J nd s).2 J' ∧ pp P P') := by
  refine ZC.of (by decide) (Nat.le_of_ble_eq_true rfl) ?_
  generalize hQ0 : (fun rr hh => ∃ J' P', hh = (KF Kd, zi J', zj P', RF Rd, n, s0) ∧ rr = some (.int (iZ (aNodeTo J nd s).1)) ∧ pq (aNodeTo J nd s).2 J' ∧ pp P P' : Option Value → ZH → Prop) = Q0
  show Z g l MX9_nodeTo 0 [some (.ref 42), some (.int (iZ nd)), some (.int (iZ s))] [] (KF Kd, zi J, zj P, RF Rd, n, s0) Q0
  have hn30 := hT.1.1
  have hn31 := hT.1.2.1
  refine z_aload_n dX9_nodeTo_0 rfl rfl ?_
  refine z_iload_n dX9_nodeTo_1 rfl rfl ?_
  refine z_callv (N := MX9_isNode) (ci := 9) (nas := 1) (as := [_]) dX9_nodeTo_2 w_1154 w_1151 w_1153 ws_47 w_8 (by decide +kernel) rfl rfl rfl (by decide) (Nat.le_of_ble_eq_true rfl) (by decide) (by decide) (ZC.mono (cMX9_isNode (by omega) (by omega)) ?_)
  rintro _ _ ⟨b2, rfl, rfl, hb2⟩
  refine c_if_eq (tgt := 15) dX9_nodeTo_5 (by decide) (by omega) (fun h5 => ?_) (fun h5 => ?_)
  · have g2 := (hb2.resolve_left (fun z => by have := z.1; omega)).2
    clear hb2
    refine c_iconst dX9_nodeTo_15 ?_
    refine c_ireturn dX9_nodeTo_16 rfl ?_
    subst hQ0; refine ⟨_, _, rfl, ?_⟩; unfold aNodeTo; rw [cif_neg (by omega)]; exact ⟨rfl, pq_refl _, pp_refl _⟩
  · have g2 := (hb2.resolve_right (fun z => by have := z.1; omega)).2
    clear hb2
    refine z_iload_n dX9_nodeTo_8 rfl rfl ?_
    refine z_calls (N := MX9_isSlot) (nas := 1) (as := [_]) dX9_nodeTo_9 w_885 w_883 w_884 w_8 (by decide +kernel) rfl rfl (Nat.le_of_ble_eq_true rfl) (by decide) (by decide) (ZC.mono (b_isSlot (by omega)) ?_)
    rintro _ _ ⟨b9, rfl, rfl, hb9⟩
    refine c_if_ne (tgt := 17) dX9_nodeTo_12 (by decide) (by omega) (fun h12 => ?_) (fun h12 => ?_)
    · have g9 := (hb9.resolve_right (fun z => by have := z.1; omega)).2
      clear hb9
      refine z_aload_n dX9_nodeTo_17 rfl rfl ?_
      refine c_bipush dX9_nodeTo_18 (by decide) ?_
      refine z_iload_n dX9_nodeTo_20 rfl rfl ?_
      refine c_iadd dX9_nodeTo_21 ?_
      refine z_iload_n dX9_nodeTo_22 rfl rfl ?_
      refine z_callv (N := MX9_copyTo) (ci := 9) (nas := 2) (as := [_, _]) dX9_nodeTo_23 w_940 w_937 w_939 ws_27 w_8 (by decide +kernel) rfl rfl rfl (by decide) (Nat.le_of_ble_eq_true rfl) (by decide) (by decide) (ZC.mono (j_copyTo (by omega) (by omega)) ?_)
      rintro _ _ ⟨rfl, rfl⟩
      refine z_aload_n dX9_nodeTo_26 rfl rfl ?_
      refine z_iload_n dX9_nodeTo_27 rfl rfl ?_
      refine z_aload_n dX9_nodeTo_28 rfl rfl ?_
      refine z_getR (ci := 9) (kf := 1) dX9_nodeTo_29 rfl (by decide) (by decide) rfl w_777 rfl ?_
      refine z_iload_n dX9_nodeTo_32 rfl rfl ?_
      refine c_iald dX9_nodeTo_33 rfl (by omega) (by decide) ?_
      refine c_iconst dX9_nodeTo_34 ?_
      have hf := hT.2.2.2.1 nd.toNat (by omega)
      have hfo := okJ_form hL (s := 6 + nd) (by omega) (by rw [show (6 + nd).toNat = 6 + nd.toNat by omega]; exact hf)
      rw [jput_let]
      have hfo4 := hfo.1
      have hfo5 : 0 < J 44 (6 + nd).toNat := by rw [show (6 + nd).toNat = 6 + nd.toNat by omega]; exact hf
      have hE35 : entS (eE (jput J s.toNat (J 44 (6 + nd).toNat) (eE J (6 + nd))) s) := fun k hk => by rw [eE_jput rfl hk]; exact hfo.2.1.1 k hk
      refine z_callv (N := MX9_detOf) (ci := 9) (nas := 3) (as := [_, _, _]) dX9_nodeTo_35 w_921 w_918 w_920 ws_24 w_8 (by decide +kernel) rfl rfl rfl (by decide) (Nat.le_of_ble_eq_true rfl) (by decide) (by decide) (ZC.mono (cMX9_detOf (by omega) (by omega) (by omega) hE35) ?_)
      rintro _ _ ⟨P35, rfl, rfl, ho35⟩
      refine c_l2i dX9_nodeTo_38 ?_
      refine c_ireturn dX9_nodeTo_39 rfl ?_
      subst hQ0; refine ⟨_, _, rfl, ?_⟩; unfold aNodeTo; rw [cif_pos (by omega)]; refine ⟨?_, pq_refl _, pp_off1 ho35⟩; rw [detS_congr hfo.1 (fun k hk => eE_jput rfl hk)]
    · have g9 := (hb9.resolve_left (fun z => by have := z.1; omega)).2
      clear hb9
      refine c_iconst dX9_nodeTo_15 ?_
      refine c_ireturn dX9_nodeTo_16 rfl ?_
      subst hQ0; refine ⟨_, _, rfl, ?_⟩; unfold aNodeTo; rw [cif_neg (by omega)]; exact ⟨rfl, pq_refl _, pp_refl _⟩
end Ref8
