section Cls23
variable {g : ZG} {l : Launch} {Kd : ZK} {Rd : ZR} {n s0 c : Nat} {A J P : Nat → Nat → Int}
set_option maxHeartbeats 4000000 in
set_option maxRecDepth 100000 in
theorem cMJ7_copyOf_59c91 {a la : Nat} {m : Int} (hK : KF Kd a = (1, la)) (hm : (la : Int) < m ∧ m ≤ 4000000) (h66 : 66 ≤ n) (ha : a ≠ n) : ZC g l MJ7_copyOf_59c91 [.ref a, .int (iZ m)] (KF Kd, zi J, zj P, RF Rd, n, s0) (fun rr hh => rr = some (.ref n) ∧ ∃ J' : Nat → Nat → Int, hh = (KF (zkp Kd n (1, m.toNat)), zi J', zj P, RF Rd, n + 1, s0 + m.toNat) ∧ (∀ q, J' n q = if q < la then J a q else 0) ∧ ∀ b, b ≠ n → J' b = J b) := by
  refine ZC.of (by decide) (Nat.le_of_ble_eq_true rfl) ?_
  generalize hQ0 : (fun rr hh => rr = some (.ref n) ∧ ∃ J' : Nat → Nat → Int, hh = (KF (zkp Kd n (1, m.toNat)), zi J', zj P, RF Rd, n + 1, s0 + m.toNat) ∧ (∀ q, J' n q = if q < la then J a q else 0) ∧ ∀ b, b ≠ n → J' b = J b : Option Value → ZH → Prop) = Q0
  show Z g l MJ7_copyOf_59c91 0 [some (.ref a), some (.int (iZ m)), none] [] (KF Kd, zi J, zj P, RF Rd, n, s0) Q0
  refine z_iload_n dJ7_copyOf_59c91_0 rfl rfl ?_
  refine z_aload_n dJ7_copyOf_59c91_1 rfl rfl ?_
  refine c_alen dJ7_copyOf_59c91_2 hK (by decide) ?_
  refine c_icmp_ne (tgt := 14) dJ7_copyOf_59c91_3 (by decide) (by omega) (by omega) (fun h3 => ?_) (fun h3 => ?_)
  · refine z_iload_n dJ7_copyOf_59c91_14 rfl rfl ?_
    refine c_newi dJ7_copyOf_59c91_15 w_51 (by omega) ?_
    rw [KF_kp h66]
    have ka2 : KF (zkp Kd n (1, m.toNat)) a = (1, la) := by rw [KF_zk ha]; exact hK
    have kn2 : KF (zkp Kd n (1, m.toNat)) n = (1, m.toNat) := by rw [KF_dyn h66, zkp_eq]
    refine z_astore_n dJ7_copyOf_59c91_17 rfl (by decide) rfl ?_
    refine z_aload_n dJ7_copyOf_59c91_18 rfl rfl ?_
    refine c_iconst dJ7_copyOf_59c91_19 ?_
    refine z_aload_n dJ7_copyOf_59c91_20 rfl rfl ?_
    refine c_iconst dJ7_copyOf_59c91_21 ?_
    refine z_aload_n dJ7_copyOf_59c91_22 rfl rfl ?_
    refine c_alen dJ7_copyOf_59c91_23 ka2 (by decide) ?_
    refine z_iload_n dJ7_copyOf_59c91_24 rfl rfl ?_
    refine z_calls (N := MJ9_min_7cf53) (nas := 2) (as := [_, _]) dJ7_copyOf_59c91_25 w_612 w_627 w_611 w_12 (by decide +kernel) rfl rfl (Nat.le_of_ble_eq_true rfl) (by decide) (by decide) (ZC.mono (cMJ9_min_7cf53 (by omega) (by omega)) ?_)
    rintro _ _ ⟨rfl, rfl⟩
    rw [show min (la : Int) m = (la : Int) by omega]
    refine c_copyi dJ7_copyOf_59c91_28 w_628 w_355 w_354 w_11 ka2 kn2 (by omega) (by omega) (by omega) (by omega) (by omega) (by decide) (Nat.le_of_ble_eq_true rfl) ?_
    refine z_aload_n dJ7_copyOf_59c91_31 rfl rfl ?_
    refine z_areturn dJ7_copyOf_59c91_32 rfl (Or.inr ⟨_, rfl⟩) ?_
    subst hQ0
    refine ⟨rfl, _, rfl, fun q => ?_, fun b hb => ?_⟩
    · rw [zuA_eq, zuA_ne ha, zuA_eq]
      show (if (0 : Int).toNat ≤ q ∧ q < (0 : Int).toNat + (la : Int).toNat then J a ((0 : Int).toNat + (q - (0 : Int).toNat)) else 0) = _
      have e0 : (0 : Int).toNat = 0 := rfl
      by_cases g : q < la
      · rw [if_pos (by omega), if_pos g, show (0 : Int).toNat + (q - (0 : Int).toNat) = q by omega]
      · rw [if_neg (by omega), if_neg g]
    · rw [zuA_ne hb, zuA_ne hb]
  · exact absurd h3 (by omega)
end Cls23
