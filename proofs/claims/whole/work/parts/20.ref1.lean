section Ref1
variable {g : ZG} {l : Launch} {Kd : ZK} {Rd : ZR} {n s0 : Nat} {J P : Nat → Nat → Int}
set_option maxHeartbeats 4000000 in
set_option maxRecDepth 100000 in
theorem cMX9_entryAt {p i j : Int} (hb : 0 ≤ 16 * p + 4 * i + j ∧ 16 * p + 4 * i + j < 1184) : ZC g l MX9_entryAt [.ref 42, .int (iZ p), .int (iZ i), .int (iZ j)] (KF Kd, zi J, zj P, RF Rd, n, s0) (fun rr hh => rr = some (.int (iZ (J 43 (16 * p + 4 * i + j).toNat))) ∧ hh = (KF Kd, zi J, zj P, RF Rd, n, s0)) := by
  refine ZC.of (by decide) (Nat.le_of_ble_eq_true rfl) ?_
  generalize hQ0 : (fun rr hh => rr = some (.int (iZ (J 43 (16 * p + 4 * i + j).toNat))) ∧ hh = (KF Kd, zi J, zj P, RF Rd, n, s0) : Option Value → ZH → Prop) = Q0
  show Z g l MX9_entryAt 0 [some (.ref 42), some (.int (iZ p)), some (.int (iZ i)), some (.int (iZ j))] [] (KF Kd, zi J, zj P, RF Rd, n, s0) Q0
  refine z_aload_n dX9_entryAt_0 rfl rfl ?_
  refine z_getR (ci := 9) (kf := 0) dX9_entryAt_1 rfl (by decide) (by decide) rfl w_776 rfl ?_
  refine c_bipush dX9_entryAt_4 (by decide) ?_
  refine z_iload_n dX9_entryAt_6 rfl rfl ?_
  refine c_imul dX9_entryAt_7 ?_
  refine c_iconst dX9_entryAt_8 ?_
  refine z_iload_n dX9_entryAt_9 rfl rfl ?_
  refine c_imul dX9_entryAt_10 ?_
  refine c_iadd dX9_entryAt_11 ?_
  refine z_iload_n dX9_entryAt_12 rfl rfl ?_
  refine c_iadd dX9_entryAt_13 ?_
  refine c_iald dX9_entryAt_14 rfl (by omega) (by decide) ?_
  refine c_ireturn dX9_entryAt_15 rfl ?_
  subst hQ0; exact ⟨rfl, rfl⟩
set_option maxHeartbeats 4000000 in
set_option maxRecDepth 100000 in
theorem cMX9_layEntry {p i j a : Int} (hb : 0 ≤ 16 * p + 4 * i + j ∧ 16 * p + 4 * i + j < 1184) (hc : 0 ≤ 16 * p + 4 * j + i ∧ 16 * p + 4 * j + i < 1184) : ZC g l MX9_layEntry [.ref 42, .int (iZ p), .int (iZ i), .int (iZ j), .int (iZ a)] (KF Kd, zi J, zj P, RF Rd, n, s0) (fun rr hh => rr = none ∧ hh = (KF Kd, zi (zup (zup J 43 (16 * p + 4 * i + j).toNat a) 43 (16 * p + 4 * j + i).toNat a), zj P, RF Rd, n, s0)) := by
  refine ZC.of (by decide) (Nat.le_of_ble_eq_true rfl) ?_
  generalize hQ0 : (fun rr hh => rr = none ∧ hh = (KF Kd, zi (zup (zup J 43 (16 * p + 4 * i + j).toNat a) 43 (16 * p + 4 * j + i).toNat a), zj P, RF Rd, n, s0) : Option Value → ZH → Prop) = Q0
  show Z g l MX9_layEntry 0 [some (.ref 42), some (.int (iZ p)), some (.int (iZ i)), some (.int (iZ j)), some (.int (iZ a))] [] (KF Kd, zi J, zj P, RF Rd, n, s0) Q0
  refine z_aload_n dX9_layEntry_0 rfl rfl ?_
  refine z_getR (ci := 9) (kf := 0) dX9_layEntry_1 rfl (by decide) (by decide) rfl w_776 rfl ?_
  refine c_bipush dX9_layEntry_4 (by decide) ?_
  refine z_iload_n dX9_layEntry_6 rfl rfl ?_
  refine c_imul dX9_layEntry_7 ?_
  refine c_iconst dX9_layEntry_8 ?_
  refine z_iload_n dX9_layEntry_9 rfl rfl ?_
  refine c_imul dX9_layEntry_10 ?_
  refine c_iadd dX9_layEntry_11 ?_
  refine z_iload_n dX9_layEntry_12 rfl rfl ?_
  refine c_iadd dX9_layEntry_13 ?_
  refine z_iload dX9_layEntry_14 rfl ?_
  refine c_iast dX9_layEntry_16 rfl (by omega) (by decide) ?_
  refine z_aload_n dX9_layEntry_17 rfl rfl ?_
  refine z_getR (ci := 9) (kf := 0) dX9_layEntry_18 rfl (by decide) (by decide) rfl w_776 rfl ?_
  refine c_bipush dX9_layEntry_21 (by decide) ?_
  refine z_iload_n dX9_layEntry_23 rfl rfl ?_
  refine c_imul dX9_layEntry_24 ?_
  refine c_iconst dX9_layEntry_25 ?_
  refine z_iload_n dX9_layEntry_26 rfl rfl ?_
  refine c_imul dX9_layEntry_27 ?_
  refine c_iadd dX9_layEntry_28 ?_
  refine z_iload_n dX9_layEntry_29 rfl rfl ?_
  refine c_iadd dX9_layEntry_30 ?_
  refine z_iload dX9_layEntry_31 rfl ?_
  refine c_iast dX9_layEntry_33 rfl (by omega) (by decide) ?_
  refine z_return dX9_layEntry_34 rfl ?_
  subst hQ0; exact ⟨rfl, rfl⟩
set_option maxHeartbeats 4000000 in
set_option maxRecDepth 100000 in
theorem cMX9_in {v a b : Int} (hv : rL v) (ha : rL a) (hb : rL b) : ZC g l MX9_in [.long (lZ v), .long (lZ a), .long (lZ b)] (KF Kd, zi J, zj P, RF Rd, n, s0) (fun rr hh => rr = some (.int (iZ (if a ≤ v ∧ v ≤ b then 1 else 0))) ∧ hh = (KF Kd, zi J, zj P, RF Rd, n, s0)) := by
  refine ZC.of (by decide) (Nat.le_of_ble_eq_true rfl) ?_
  generalize hQ0 : (fun rr hh => rr = some (.int (iZ (if a ≤ v ∧ v ≤ b then 1 else 0))) ∧ hh = (KF Kd, zi J, zj P, RF Rd, n, s0) : Option Value → ZH → Prop) = Q0
  show Z g l MX9_in 0 [some (.long (lZ v)), none, some (.long (lZ a)), none, some (.long (lZ b)), none] [] (KF Kd, zi J, zj P, RF Rd, n, s0) Q0
  refine z_lload_n dX9_in_0 rfl rfl ?_
  refine z_lload_n dX9_in_1 rfl rfl ?_
  refine c_lif_lt (tgt := 17) dX9_in_2 dX9_in_3 (by decide) (by omega) (by omega) (fun h2 => ?_) (fun h2 => ?_)
  · refine c_iconst dX9_in_17 ?_
    refine c_zreturn dX9_in_18 rfl (by omega) ?_
    subst hQ0; refine ⟨?_, rfl⟩; split <;> first | rfl | omega
  · refine z_lload_n dX9_in_6 rfl rfl ?_
    refine z_lload dX9_in_7 rfl ?_
    refine c_lif_gt (tgt := 17) dX9_in_9 dX9_in_10 (by decide) (by omega) (by omega) (fun h9 => ?_) (fun h9 => ?_)
    · refine c_iconst dX9_in_17 ?_
      refine c_zreturn dX9_in_18 rfl (by omega) ?_
      subst hQ0; refine ⟨?_, rfl⟩; split <;> first | rfl | omega
    · refine c_iconst dX9_in_13 ?_
      refine z_goto (tgt := 18) dX9_in_14 (by decide) ?_
      refine c_zreturn dX9_in_18 rfl (by omega) ?_
      subst hQ0; refine ⟨?_, rfl⟩; split <;> first | rfl | omega
set_option maxHeartbeats 4000000 in
set_option maxRecDepth 100000 in
theorem cMX9_size {v : Int} (hv : rI v) : ZC g l MX9_size [.int (iZ v)] (KF Kd, zi J, zj P, RF Rd, n, s0) (fun rr hh => rr = some (.int (iZ (if v < 0 then -v else v))) ∧ hh = (KF Kd, zi J, zj P, RF Rd, n, s0)) := by
  refine ZC.of (by decide) (Nat.le_of_ble_eq_true rfl) ?_
  generalize hQ0 : (fun rr hh => rr = some (.int (iZ (if v < 0 then -v else v))) ∧ hh = (KF Kd, zi J, zj P, RF Rd, n, s0) : Option Value → ZH → Prop) = Q0
  show Z g l MX9_size 0 [some (.int (iZ v))] [] (KF Kd, zi J, zj P, RF Rd, n, s0) Q0
  refine z_iload_n dX9_size_0 rfl rfl ?_
  refine c_if_ge (tgt := 9) dX9_size_1 (by decide) (by omega) (fun h1 => ?_) (fun h1 => ?_)
  · refine z_iload_n dX9_size_9 rfl rfl ?_
    refine c_ireturn dX9_size_10 rfl ?_
    subst hQ0; refine ⟨?_, rfl⟩; split <;> first | rfl | omega
  · refine z_iload_n dX9_size_4 rfl rfl ?_
    refine c_ineg dX9_size_5 ?_
    refine z_goto (tgt := 10) dX9_size_6 (by decide) ?_
    refine c_ireturn dX9_size_10 rfl ?_
    subst hQ0; refine ⟨?_, rfl⟩; split <;> first | rfl | omega
set_option maxHeartbeats 4000000 in
set_option maxRecDepth 100000 in
theorem cMX9_isSlot {v : Int} (hv : rI v) : ZC g l MX9_isSlot [.int (iZ v)] (KF Kd, zi J, zj P, RF Rd, n, s0) (fun rr hh => rr = some (.int (iZ (if 0 ≤ v ∧ v < 6 then 1 else 0))) ∧ hh = (KF Kd, zi J, zj P, RF Rd, n, s0)) := by
  refine ZC.of (by decide) (Nat.le_of_ble_eq_true rfl) ?_
  generalize hQ0 : (fun rr hh => rr = some (.int (iZ (if 0 ≤ v ∧ v < 6 then 1 else 0))) ∧ hh = (KF Kd, zi J, zj P, RF Rd, n, s0) : Option Value → ZH → Prop) = Q0
  show Z g l MX9_isSlot 0 [some (.int (iZ v))] [] (KF Kd, zi J, zj P, RF Rd, n, s0) Q0
  refine z_iload_n dX9_isSlot_0 rfl rfl ?_
  refine c_if_lt (tgt := 14) dX9_isSlot_1 (by decide) (by omega) (fun h1 => ?_) (fun h1 => ?_)
  · refine c_iconst dX9_isSlot_14 ?_
    refine c_zreturn dX9_isSlot_15 rfl (by omega) ?_
    subst hQ0; refine ⟨?_, rfl⟩; split <;> first | rfl | omega
  · refine z_iload_n dX9_isSlot_4 rfl rfl ?_
    refine c_bipush dX9_isSlot_5 (by decide) ?_
    refine c_icmp_ge (tgt := 14) dX9_isSlot_7 (by decide) (by omega) (by omega) (fun h7 => ?_) (fun h7 => ?_)
    · refine c_iconst dX9_isSlot_14 ?_
      refine c_zreturn dX9_isSlot_15 rfl (by omega) ?_
      subst hQ0; refine ⟨?_, rfl⟩; split <;> first | rfl | omega
    · refine c_iconst dX9_isSlot_10 ?_
      refine z_goto (tgt := 15) dX9_isSlot_11 (by decide) ?_
      refine c_zreturn dX9_isSlot_15 rfl (by omega) ?_
      subst hQ0; refine ⟨?_, rfl⟩; split <;> first | rfl | omega
set_option maxHeartbeats 4000000 in
set_option maxRecDepth 100000 in
theorem cMX9_clearAt {p : Int} (hp : 0 ≤ p ∧ p < 74) : ZC g l MX9_clearAt [.ref 42, .int (iZ p)] (KF Kd, zi J, zj P, RF Rd, n, s0) (fun rr hh => rr = none ∧ hh = (KF Kd, zi (fun a q => if a = 44 ∧ q = p.toNat then 0 else if a = 43 ∧ 16 * p.toNat ≤ q ∧ q < 16 * p.toNat + 16 then 0 else J a q), zj P, RF Rd, n, s0)) := by
  refine ZC.of (by decide) (Nat.le_of_ble_eq_true rfl) ?_
  generalize hQ0 : (fun rr hh => rr = none ∧ hh = (KF Kd, zi (fun a q => if a = 44 ∧ q = p.toNat then 0 else if a = 43 ∧ 16 * p.toNat ≤ q ∧ q < 16 * p.toNat + 16 then 0 else J a q), zj P, RF Rd, n, s0) : Option Value → ZH → Prop) = Q0
  show Z g l MX9_clearAt 0 [some (.ref 42), some (.int (iZ p)), none] [] (KF Kd, zi J, zj P, RF Rd, n, s0) Q0
  refine z_aload_n dX9_clearAt_0 rfl rfl ?_
  refine z_getR (ci := 9) (kf := 1) dX9_clearAt_1 rfl (by decide) (by decide) rfl w_777 rfl ?_
  refine z_iload_n dX9_clearAt_4 rfl rfl ?_
  refine c_iconst dX9_clearAt_5 ?_
  refine c_iast dX9_clearAt_6 rfl (by omega) (by decide) ?_
  refine c_iconst dX9_clearAt_7 ?_
  refine z_istore_n dX9_clearAt_8 rfl (by decide) rfl ?_
  have L9 : ∀ (m9 : Nat), ∀ (k : Int) (J1 : Nat → Nat → Int), (16 - k).toNat = m9 → (0 ≤ k ∧ k ≤ 16) → (J1 = (fun a q => if a = 44 ∧ q = p.toNat then 0 else if a = 43 ∧ 16 * p.toNat ≤ q ∧ q < 16 * p.toNat + k.toNat then 0 else J a q)) → Z g l MX9_clearAt 9 [some (.ref 42), some (.int (iZ p)), some (.int (iZ k))] [] (KF Kd, zi J1, zj P, RF Rd, n, s0) Q0 := by
    intro m9
    induction m9 using Nat.strongRecOn with
    | ind m9 ih9 =>
      intro k J1 hm9 hk hJ
      refine z_iload_n dX9_clearAt_9 rfl rfl ?_
      refine c_bipush dX9_clearAt_10 (by decide) ?_
      refine c_icmp_ge (tgt := 33) dX9_clearAt_12 (by decide) (by omega) (by omega) (fun h12 => ?_) (fun h12 => ?_)
      · refine z_return dX9_clearAt_33 rfl ?_
        subst hQ0; refine ⟨rfl, ?_⟩; subst hJ; have : k = 16 := by omega
        subst this; rfl
      · refine z_aload_n dX9_clearAt_15 rfl rfl ?_
        refine z_getR (ci := 9) (kf := 0) dX9_clearAt_16 rfl (by decide) (by decide) rfl w_776 rfl ?_
        refine c_bipush dX9_clearAt_19 (by decide) ?_
        refine z_iload_n dX9_clearAt_21 rfl rfl ?_
        refine c_imul dX9_clearAt_22 ?_
        refine z_iload_n dX9_clearAt_23 rfl rfl ?_
        refine c_iadd dX9_clearAt_24 ?_
        refine c_iconst dX9_clearAt_25 ?_
        refine c_iast dX9_clearAt_26 rfl (by omega) (by decide) ?_
        refine c_iinc dX9_clearAt_27 rfl (by decide) rfl ?_
        refine z_goto (tgt := 9) dX9_clearAt_30 (by decide) ?_
        exact Z.fg2 (ih9 _ (by omega) _ _ rfl (by omega) (by subst hJ; funext a q; simp only [zup]; grind)) (zs1 rfl (zs1 rfl (zs1 rfl zs0)))
  exact Z.fg2 (L9 _ _ _ rfl (by omega) (by funext a q; simp only [zup]; grind)) (zs1 rfl (zs1 rfl (zs1 rfl zs0)))
end Ref1
