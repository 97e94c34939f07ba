section Init
variable {g : ZG} {l : Launch} {Kd : ZK} {Rd : ZR} {n s0 c : Nat} {A J P : Nat → Nat → Int}
def FZ {α : Type} (I : Nat → Nat → α) (z : α) (n : Nat) : Prop := ∀ a, n ≤ a → I a = fun _ => z
theorem FZ_up {α : Type} {I : Nat → Nat → α} {z : α} {n m : Nat} (h : FZ I z n) (hm : n ≤ m) : zupA I m (fun _ => z) = I := by
  funext a
  by_cases e : a = m
  · subst e; rw [zuA_eq, h a hm]
  · exact zuA_ne e
theorem FZ_zup {α : Type} {I : Nat → Nat → α} {z x : α} {n a k : Nat} (ha : a < n) (h : FZ I z n) : FZ (zup I a k x) z n := fun b hb => by rw [zup_ne (by omega)]; exact h b hb
theorem FZ_c {α : Type} {z : α} {n : Nat} : FZ (fun _ _ => z) z n := fun _ _ => rfl
theorem FZ_mono {α : Type} {I : Nat → Nat → α} {z : α} {n m : Nat} (h : FZ I z n) (hm : n ≤ m) : FZ I z m := fun a ha => h a (by omega)
/-- the layout's cells below m -/
def KT (m : Nat) : ZK := fun a => if 4 ≤ a ∧ a < m then kst.getD (a - 4) (0, 0) else (0, 0)
theorem KT_s {m : Nat} {x : Nat × Nat} (hm : 4 ≤ m) (hx : kst.getD (m - 4) (0, 0) = x) : zkp (KT m) m x = KT (m + 1) := by
  funext a
  unfold KT
  by_cases e : a = m
  · subst e; rw [zkp_eq, if_pos (by omega), hx]
  · rw [zkp_ne e]; exact ifc (by omega)
set_option maxHeartbeats 4000000 in
set_option maxRecDepth 100000 in
theorem cMX7_init {K : ZK} {R : ZR} {t : Nat} (hK : (K t).1 = 17) (ht : t < n) (hJ : FZ J 0 n) (hP : FZ P 0 n) (hR : FZ R none n) : ZC g l MX7_init [.ref t] (K, zi J, zj P, R, n, s0) (fun rr hh => rr = none ∧ hh = ((zkp (zkp (zkp (zkp K (n) (4, (30 : Int).toNat)) (n + 1) (1, (30 : Int).toNat)) (n + 1 + 1) (1, (30 : Int).toNat)) (n + 1 + 1 + 1) (1, (30 : Int).toNat)), zi J, zj P, (zup (zup (zup (zup R t 1 (some (n))) t 2 (some (n + 1))) t 3 (some (n + 1 + 1))) t 4 (some (n + 1 + 1 + 1))), n + 1 + 1 + 1 + 1, s0 + (30 : Int).toNat + (30 : Int).toNat + (30 : Int).toNat + (30 : Int).toNat)) := by
  refine ZC.of (by decide) (Nat.le_of_ble_eq_true rfl) ?_
  generalize hQ0 : (fun rr hh => rr = none ∧ hh = ((zkp (zkp (zkp (zkp K (n) (4, (30 : Int).toNat)) (n + 1) (1, (30 : Int).toNat)) (n + 1 + 1) (1, (30 : Int).toNat)) (n + 1 + 1 + 1) (1, (30 : Int).toNat)), zi J, zj P, (zup (zup (zup (zup R t 1 (some (n))) t 2 (some (n + 1))) t 3 (some (n + 1 + 1))) t 4 (some (n + 1 + 1 + 1))), n + 1 + 1 + 1 + 1, s0 + (30 : Int).toNat + (30 : Int).toNat + (30 : Int).toNat + (30 : Int).toNat) : Option Value → ZH → Prop) = Q0
  show Z g l MX7_init 0 [some (.ref t)] [] (K, zi J, zj P, R, n, s0) Q0
  refine z_aload_n dX7_init_0 rfl rfl ?_
  refine z_objInit dX7_init_1 w_29 w_20 w_21 (by decide) (Nat.le_of_ble_eq_true rfl) ?_
  refine z_aload_n dX7_init_4 rfl rfl ?_
  refine c_bipush dX7_init_5 (by decide) ?_
  refine c_newq (kd := 4) (ci := 3) dX7_init_7 (by decide) w_30 (by omega) ?_
  rw [FZ_up hR (by omega)]
  refine z_putR (ci := 7) (kf := 1) dX7_init_10 (by rw [zkp_ne (by omega)]; exact hK) (by decide) (by decide) rfl (by decide) (fun _ => rfl) (fun _ => rfl) w_33 ?_
  refine z_aload_n dX7_init_13 rfl rfl ?_
  refine c_bipush dX7_init_14 (by decide) ?_
  refine c_newi dX7_init_16 w_51 (by omega) ?_
  rw [FZ_up hJ (by omega)]
  refine z_putR (ci := 7) (kf := 2) dX7_init_18 (by rw [zkp_ne (by omega), zkp_ne (by omega)]; exact hK) (by decide) (by decide) rfl (by decide) (fun _ => rfl) (fun _ => rfl) w_35 ?_
  refine z_aload_n dX7_init_21 rfl rfl ?_
  refine c_bipush dX7_init_22 (by decide) ?_
  refine c_newi dX7_init_24 w_51 (by omega) ?_
  rw [FZ_up hJ (by omega)]
  refine z_putR (ci := 7) (kf := 3) dX7_init_26 (by rw [zkp_ne (by omega), zkp_ne (by omega), zkp_ne (by omega)]; exact hK) (by decide) (by decide) rfl (by decide) (fun _ => rfl) (fun _ => rfl) w_37 ?_
  refine z_aload_n dX7_init_29 rfl rfl ?_
  refine c_bipush dX7_init_30 (by decide) ?_
  refine c_newi dX7_init_32 w_51 (by omega) ?_
  rw [FZ_up hJ (by omega)]
  refine z_putR (ci := 7) (kf := 4) dX7_init_34 (by rw [zkp_ne (by omega), zkp_ne (by omega), zkp_ne (by omega), zkp_ne (by omega)]; exact hK) (by decide) (by decide) rfl (by decide) (fun _ => rfl) (fun _ => rfl) w_39 ?_
  refine z_return dX7_init_37 rfl ?_
  subst hQ0; exact ⟨rfl, rfl⟩
set_option maxHeartbeats 4000000 in
set_option maxRecDepth 100000 in
theorem cMX5_init {K : ZK} {R : ZR} {t : Nat} (hK : (K t).1 = 15) (ht : t < n) (hJ : FZ J 0 n) (hP : FZ P 0 n) (hR : FZ R none n) : ZC g l MX5_init [.ref t] (K, zi J, zj P, R, n, s0) (fun rr hh => rr = none ∧ hh = ((zkp K (n) (1, (40 : Int).toNat)), zi (zup J t 0 (-1)), zj P, (zup R t 2 (some (n))), n + 1, s0 + (40 : Int).toNat)) := by
  refine ZC.of (by decide) (Nat.le_of_ble_eq_true rfl) ?_
  generalize hQ0 : (fun rr hh => rr = none ∧ hh = ((zkp K (n) (1, (40 : Int).toNat)), zi (zup J t 0 (-1)), zj P, (zup R t 2 (some (n))), n + 1, s0 + (40 : Int).toNat) : Option Value → ZH → Prop) = Q0
  show Z g l MX5_init 0 [some (.ref t)] [] (K, zi J, zj P, R, n, s0) Q0
  refine z_aload_n dX5_init_0 rfl rfl ?_
  refine z_objInit dX5_init_1 w_58 w_20 w_21 (by decide) (Nat.le_of_ble_eq_true rfl) ?_
  refine z_aload_n dX5_init_4 rfl rfl ?_
  refine c_iconst dX5_init_5 ?_
  refine c_putI (ci := 5) (kf := 0) dX5_init_6 hK (by decide) (by decide) rfl (by decide) w_59 ?_
  refine z_aload_n dX5_init_9 rfl rfl ?_
  refine c_bipush dX5_init_10 (by decide) ?_
  refine c_newi dX5_init_12 w_51 (by omega) ?_
  rw [FZ_up (FZ_zup ht hJ) (by omega)]
  refine z_putR (ci := 5) (kf := 2) dX5_init_14 (by rw [zkp_ne (by omega)]; exact hK) (by decide) (by decide) rfl (by decide) (fun _ => rfl) (fun _ => rfl) w_62 ?_
  refine z_return dX5_init_17 rfl ?_
  subst hQ0; exact ⟨rfl, rfl⟩
set_option maxHeartbeats 4000000 in
set_option maxRecDepth 100000 in
theorem cMX1_init {K : ZK} {R : ZR} {t : Nat} (hK : (K t).1 = 11) (ht : t < n) (hJ : FZ J 0 n) (hP : FZ P 0 n) (hR : FZ R none n) : ZC g l MX1_init [.ref t] (K, zi J, zj P, R, n, s0) (fun rr hh => rr = none ∧ hh = ((zkp (zkp (zkp K (n) (1, (16 : Int).toNat)) (n + 1) (2, (16 : Int).toNat)) (n + 1 + 1) (1, (4 : Int).toNat)), zi J, zj P, (zup (zup (zup R t 1 (some (n))) t 4 (some (n + 1))) t 5 (some (n + 1 + 1))), n + 1 + 1 + 1, s0 + (16 : Int).toNat + (16 : Int).toNat + (4 : Int).toNat)) := by
  refine ZC.of (by decide) (Nat.le_of_ble_eq_true rfl) ?_
  generalize hQ0 : (fun rr hh => rr = none ∧ hh = ((zkp (zkp (zkp K (n) (1, (16 : Int).toNat)) (n + 1) (2, (16 : Int).toNat)) (n + 1 + 1) (1, (4 : Int).toNat)), zi J, zj P, (zup (zup (zup R t 1 (some (n))) t 4 (some (n + 1))) t 5 (some (n + 1 + 1))), n + 1 + 1 + 1, s0 + (16 : Int).toNat + (16 : Int).toNat + (4 : Int).toNat) : Option Value → ZH → Prop) = Q0
  show Z g l MX1_init 0 [some (.ref t)] [] (K, zi J, zj P, R, n, s0) Q0
  refine z_aload_n dX1_init_0 rfl rfl ?_
  refine z_objInit dX1_init_1 w_76 w_20 w_21 (by decide) (Nat.le_of_ble_eq_true rfl) ?_
  refine z_aload_n dX1_init_4 rfl rfl ?_
  refine c_bipush dX1_init_5 (by decide) ?_
  refine c_newi dX1_init_7 w_51 (by omega) ?_
  rw [FZ_up hJ (by omega)]
  refine z_putR (ci := 1) (kf := 1) dX1_init_9 (by rw [zkp_ne (by omega)]; exact hK) (by decide) (by decide) rfl (by decide) (fun _ => rfl) (fun _ => rfl) w_81 ?_
  refine z_aload_n dX1_init_12 rfl rfl ?_
  refine c_bipush dX1_init_13 (by decide) ?_
  refine c_newl dX1_init_15 w_104 (by omega) ?_
  rw [FZ_up hP (by omega)]
  refine z_putR (ci := 1) (kf := 4) dX1_init_17 (by rw [zkp_ne (by omega), zkp_ne (by omega)]; exact hK) (by decide) (by decide) rfl (by decide) (fun _ => rfl) (fun _ => rfl) w_89 ?_
  refine z_aload_n dX1_init_20 rfl rfl ?_
  refine c_iconst dX1_init_21 ?_
  refine c_newi dX1_init_22 w_51 (by omega) ?_
  rw [FZ_up hJ (by omega)]
  refine z_putR (ci := 1) (kf := 5) dX1_init_24 (by rw [zkp_ne (by omega), zkp_ne (by omega), zkp_ne (by omega)]; exact hK) (by decide) (by decide) rfl (by decide) (fun _ => rfl) (fun _ => rfl) w_90 ?_
  refine z_return dX1_init_27 rfl ?_
  subst hQ0; exact ⟨rfl, rfl⟩
set_option maxHeartbeats 4000000 in
set_option maxRecDepth 100000 in
theorem cMX2_init {K : ZK} {R : ZR} {t : Nat} (hK : (K t).1 = 12) (ht : t < n) (hJ : FZ J 0 n) (hP : FZ P 0 n) (hR : FZ R none n) : ZC g l MX2_init [.ref t] (K, zi J, zj P, R, n, s0) (fun rr hh => rr = none ∧ hh = ((zkp (zkp (zkp (zkp (zkp (zkp K (n) (2, (16 : Int).toNat)) (n + 1) (2, (4 : Int).toNat)) (n + 1 + 1) (2, (5 : Int).toNat)) (n + 1 + 1 + 1) (2, (4 : Int).toNat)) (n + 1 + 1 + 1 + 1) (1, (4 : Int).toNat)) (n + 1 + 1 + 1 + 1 + 1) (1, (4 : Int).toNat)), zi J, zj P, (zup (zup (zup (zup (zup (zup R t 5 (some (n))) t 6 (some (n + 1))) t 7 (some (n + 1 + 1))) t 8 (some (n + 1 + 1 + 1))) t 9 (some (n + 1 + 1 + 1 + 1))) t 10 (some (n + 1 + 1 + 1 + 1 + 1))), n + 1 + 1 + 1 + 1 + 1 + 1, s0 + (16 : Int).toNat + (4 : Int).toNat + (5 : Int).toNat + (4 : Int).toNat + (4 : Int).toNat + (4 : Int).toNat)) := by
  refine ZC.of (by decide) (Nat.le_of_ble_eq_true rfl) ?_
  generalize hQ0 : (fun rr hh => rr = none ∧ hh = ((zkp (zkp (zkp (zkp (zkp (zkp K (n) (2, (16 : Int).toNat)) (n + 1) (2, (4 : Int).toNat)) (n + 1 + 1) (2, (5 : Int).toNat)) (n + 1 + 1 + 1) (2, (4 : Int).toNat)) (n + 1 + 1 + 1 + 1) (1, (4 : Int).toNat)) (n + 1 + 1 + 1 + 1 + 1) (1, (4 : Int).toNat)), zi J, zj P, (zup (zup (zup (zup (zup (zup R t 5 (some (n))) t 6 (some (n + 1))) t 7 (some (n + 1 + 1))) t 8 (some (n + 1 + 1 + 1))) t 9 (some (n + 1 + 1 + 1 + 1))) t 10 (some (n + 1 + 1 + 1 + 1 + 1))), n + 1 + 1 + 1 + 1 + 1 + 1, s0 + (16 : Int).toNat + (4 : Int).toNat + (5 : Int).toNat + (4 : Int).toNat + (4 : Int).toNat + (4 : Int).toNat) : Option Value → ZH → Prop) = Q0
  show Z g l MX2_init 0 [some (.ref t)] [] (K, zi J, zj P, R, n, s0) Q0
  refine z_aload_n dX2_init_0 rfl rfl ?_
  refine z_objInit dX2_init_1 w_110 w_20 w_21 (by decide) (Nat.le_of_ble_eq_true rfl) ?_
  refine z_aload_n dX2_init_4 rfl rfl ?_
  refine c_bipush dX2_init_5 (by decide) ?_
  refine c_newl dX2_init_7 w_104 (by omega) ?_
  rw [FZ_up hP (by omega)]
  refine z_putR (ci := 2) (kf := 5) dX2_init_9 (by rw [zkp_ne (by omega)]; exact hK) (by decide) (by decide) rfl (by decide) (fun _ => rfl) (fun _ => rfl) w_116 ?_
  refine z_aload_n dX2_init_12 rfl rfl ?_
  refine c_iconst dX2_init_13 ?_
  refine c_newl dX2_init_14 w_104 (by omega) ?_
  rw [FZ_up hP (by omega)]
  refine z_putR (ci := 2) (kf := 6) dX2_init_16 (by rw [zkp_ne (by omega), zkp_ne (by omega)]; exact hK) (by decide) (by decide) rfl (by decide) (fun _ => rfl) (fun _ => rfl) w_117 ?_
  refine z_aload_n dX2_init_19 rfl rfl ?_
  refine c_iconst dX2_init_20 ?_
  refine c_newl dX2_init_21 w_104 (by omega) ?_
  rw [FZ_up hP (by omega)]
  refine z_putR (ci := 2) (kf := 7) dX2_init_23 (by rw [zkp_ne (by omega), zkp_ne (by omega), zkp_ne (by omega)]; exact hK) (by decide) (by decide) rfl (by decide) (fun _ => rfl) (fun _ => rfl) w_118 ?_
  refine z_aload_n dX2_init_26 rfl rfl ?_
  refine c_iconst dX2_init_27 ?_
  refine c_newl dX2_init_28 w_104 (by omega) ?_
  rw [FZ_up hP (by omega)]
  refine z_putR (ci := 2) (kf := 8) dX2_init_30 (by rw [zkp_ne (by omega), zkp_ne (by omega), zkp_ne (by omega), zkp_ne (by omega)]; exact hK) (by decide) (by decide) rfl (by decide) (fun _ => rfl) (fun _ => rfl) w_119 ?_
  refine z_aload_n dX2_init_33 rfl rfl ?_
  refine c_iconst dX2_init_34 ?_
  refine c_newi dX2_init_35 w_51 (by omega) ?_
  rw [FZ_up hJ (by omega)]
  refine z_putR (ci := 2) (kf := 9) dX2_init_37 (by rw [zkp_ne (by omega), zkp_ne (by omega), zkp_ne (by omega), zkp_ne (by omega), zkp_ne (by omega)]; exact hK) (by decide) (by decide) rfl (by decide) (fun _ => rfl) (fun _ => rfl) w_120 ?_
  refine z_aload_n dX2_init_40 rfl rfl ?_
  refine c_iconst dX2_init_41 ?_
  refine c_newi dX2_init_42 w_51 (by omega) ?_
  rw [FZ_up hJ (by omega)]
  refine z_putR (ci := 2) (kf := 10) dX2_init_44 (by rw [zkp_ne (by omega), zkp_ne (by omega), zkp_ne (by omega), zkp_ne (by omega), zkp_ne (by omega), zkp_ne (by omega)]; exact hK) (by decide) (by decide) rfl (by decide) (fun _ => rfl) (fun _ => rfl) w_123 ?_
  refine z_return dX2_init_47 rfl ?_
  subst hQ0; exact ⟨rfl, rfl⟩
set_option maxHeartbeats 4000000 in
set_option maxRecDepth 100000 in
theorem cMX4_init {K : ZK} {R : ZR} {t : Nat} (hK : (K t).1 = 14) (ht : t < n) (hJ : FZ J 0 n) (hP : FZ P 0 n) (hR : FZ R none n) : ZC g l MX4_init [.ref t] (K, zi J, zj P, R, n, s0) (fun rr hh => rr = none ∧ hh = ((zkp (zkp K (n) (1, (4 : Int).toNat)) (n + 1) (3, (256 : Int).toNat)), zi J, zj P, (zup (zup R t 0 (some (n))) t 1 (some (n + 1))), n + 1 + 1, s0 + (4 : Int).toNat + (256 : Int).toNat)) := by
  refine ZC.of (by decide) (Nat.le_of_ble_eq_true rfl) ?_
  generalize hQ0 : (fun rr hh => rr = none ∧ hh = ((zkp (zkp K (n) (1, (4 : Int).toNat)) (n + 1) (3, (256 : Int).toNat)), zi J, zj P, (zup (zup R t 0 (some (n))) t 1 (some (n + 1))), n + 1 + 1, s0 + (4 : Int).toNat + (256 : Int).toNat) : Option Value → ZH → Prop) = Q0
  show Z g l MX4_init 0 [some (.ref t)] [] (K, zi J, zj P, R, n, s0) Q0
  refine z_aload_n dX4_init_0 rfl rfl ?_
  refine z_objInit dX4_init_1 w_152 w_20 w_21 (by decide) (Nat.le_of_ble_eq_true rfl) ?_
  refine z_aload_n dX4_init_4 rfl rfl ?_
  refine c_iconst dX4_init_5 ?_
  refine c_newi dX4_init_6 w_51 (by omega) ?_
  rw [FZ_up hJ (by omega)]
  refine z_putR (ci := 4) (kf := 0) dX4_init_8 (by rw [zkp_ne (by omega)]; exact hK) (by decide) (by decide) rfl (by decide) (fun _ => rfl) (fun _ => rfl) w_153 ?_
  refine z_aload_n dX4_init_11 rfl rfl ?_
  refine c_sipush dX4_init_12 (by decide) ?_
  refine c_newb dX4_init_15 w_160 (by omega) ?_
  rw [FZ_up hJ (by omega)]
  refine z_putR (ci := 4) (kf := 1) dX4_init_17 (by rw [zkp_ne (by omega), zkp_ne (by omega)]; exact hK) (by decide) (by decide) rfl (by decide) (fun _ => rfl) (fun _ => rfl) w_154 ?_
  refine z_return dX4_init_20 rfl ?_
  subst hQ0; exact ⟨rfl, rfl⟩
set_option maxHeartbeats 4000000 in
set_option maxRecDepth 100000 in
theorem cMX0_init {K : ZK} {R : ZR} {t : Nat} (hK : (K t).1 = 10) (ht : t < n) (hJ : FZ J 0 n) (hP : FZ P 0 n) (hR : FZ R none n) : ZC g l MX0_init [.ref t] (K, zi J, zj P, R, n, s0) (fun rr hh => rr = none ∧ hh = ((zkp K (n) (1, (64 : Int).toNat)), zi J, zj P, (zup R t 3 (some (n))), n + 1, s0 + (64 : Int).toNat)) := by
  refine ZC.of (by decide) (Nat.le_of_ble_eq_true rfl) ?_
  generalize hQ0 : (fun rr hh => rr = none ∧ hh = ((zkp K (n) (1, (64 : Int).toNat)), zi J, zj P, (zup R t 3 (some (n))), n + 1, s0 + (64 : Int).toNat) : Option Value → ZH → Prop) = Q0
  show Z g l MX0_init 0 [some (.ref t)] [] (K, zi J, zj P, R, n, s0) Q0
  refine z_aload_n dX0_init_0 rfl rfl ?_
  refine z_objInit dX0_init_1 w_166 w_20 w_21 (by decide) (Nat.le_of_ble_eq_true rfl) ?_
  refine z_aload_n dX0_init_4 rfl rfl ?_
  refine c_bipush dX0_init_5 (by decide) ?_
  refine c_newi dX0_init_7 w_51 (by omega) ?_
  rw [FZ_up hJ (by omega)]
  refine z_putR (ci := 0) (kf := 3) dX0_init_9 (by rw [zkp_ne (by omega)]; exact hK) (by decide) (by decide) rfl (by decide) (fun _ => rfl) (fun _ => rfl) w_172 ?_
  refine z_return dX0_init_12 rfl ?_
  subst hQ0; exact ⟨rfl, rfl⟩
def Z0 : Nat → Nat → Int := fun _ _ => 0
def RN : ZR := fun _ _ => none
def RA : ZR := (zup (zup (zup (zup (zup (zup (zup (zup (zup (zup (zup (zup (zup (zup (zup (zup (zup (zup (zup (zup (zup (zup (zup (zup (zup (zup (zup (zup (zup (zup (zup (zup (zup (zup (zup (zup (zup RN 4 0 (some 5)) 4 1 (some 6)) 7 1 (some 8)) 7 2 (some 9)) 7 3 (some 10)) 7 4 (some 11)) 4 2 (some 7)) 12 1 (some 13)) 12 2 (some 14)) 12 3 (some 15)) 12 4 (some 16)) 4 3 (some 12)) 4 5 (some 17)) 18 2 (some 19)) 17 0 (some 18)) 20 2 (some 21)) 17 1 (some 20)) 22 2 (some 23)) 17 2 (some 22)) 24 2 (some 25)) 17 3 (some 24)) 26 1 (some 27)) 26 4 (some 28)) 26 5 (some 29)) 4 6 (some 26)) 30 5 (some 31)) 30 6 (some 32)) 30 7 (some 33)) 30 8 (some 34)) 30 9 (some 35)) 30 10 (some 36)) 4 7 (some 30)) 37 0 (some 38)) 37 1 (some 39)) 4 8 (some 37)) 40 3 (some 41)) 4 9 (some 40))
def JA : Nat → Nat → Int := (zup (zup (zup (zup (zup Z0 4 4 (0)) 18 0 (-1)) 20 0 (-1)) 22 0 (-1)) 24 0 (-1))
set_option maxHeartbeats 4000000 in
set_option maxRecDepth 100000 in
theorem cMX8_init  : ZC g l MX8_init [.ref 4] (KT 5, zi Z0, zj Z0, RN, 5, 10) (fun rr hh => rr = none ∧ ∃ s' : Nat, hh = (KT 42, zi JA, zj Z0, RA, 42, s') ∧ s' ≤ 3000) := by
  refine ZC.of (by decide) (Nat.le_of_ble_eq_true rfl) ?_
  generalize hQ0 : (fun rr hh => rr = none ∧ ∃ s' : Nat, hh = (KT 42, zi JA, zj Z0, RA, 42, s') ∧ s' ≤ 3000 : Option Value → ZH → Prop) = Q0
  show Z g l MX8_init 0 [some (.ref 4), none] [] (KT 5, zi Z0, zj Z0, RN, 5, 10) Q0
  refine z_aload_n dX8_init_0 rfl rfl ?_
  refine z_objInit dX8_init_1 w_19 w_20 w_21 (by decide) (Nat.le_of_ble_eq_true rfl) ?_
  refine z_aload_n dX8_init_4 rfl rfl ?_
  refine c_bipush dX8_init_5 (by decide) ?_
  refine c_newq (kd := 4) (ci := 3) dX8_init_7 (by decide) w_22 (by omega) ?_
  rw [show zkp (KT 5) 5 (4, (6 : Int).toNat) = KT 6 from KT_s (by decide) rfl]
  rw [FZ_up (α := Option Nat) (z := none) (n := 5) (h := ?hr) (Nat.le_refl _)]
  case hr => repeat (first | exact FZ_c | apply FZ_zup (by decide))
  refine z_putR (ci := 8) (kf := 0) dX8_init_10 rfl (by decide) (by decide) rfl (by decide) (fun _ => rfl) (fun _ => rfl) w_182 ?_
  refine z_aload_n dX8_init_13 rfl rfl ?_
  refine c_bipush dX8_init_14 (by decide) ?_
  refine c_newq (kd := 4) (ci := 3) dX8_init_16 (by decide) w_22 (by omega) ?_
  rw [show zkp (KT 6) 6 (4, (6 : Int).toNat) = KT 7 from KT_s (by decide) rfl]
  rw [FZ_up (α := Option Nat) (z := none) (n := 6) (h := ?hr) (Nat.le_refl _)]
  case hr => repeat (first | exact FZ_c | apply FZ_zup (by decide))
  refine z_putR (ci := 8) (kf := 1) dX8_init_19 rfl (by decide) (by decide) rfl (by decide) (fun _ => rfl) (fun _ => rfl) w_183 ?_
  refine z_aload_n dX8_init_22 rfl rfl ?_
  refine c_new (ci := 7) dX8_init_23 (by decide) w_24 w_25 w_2 ?_
  rw [show zkp (KT 7) 7 (10 + 7, 0) = KT 8 from KT_s (by decide) rfl]
  rw [FZ_up (α := Int) (z := 0) (n := 7) (h := ?hj) (Nat.le_refl _)]
  case hj => repeat (first | exact FZ_c | apply FZ_zup (by decide))
  rw [FZ_up (α := Option Nat) (z := none) (n := 7) (h := ?hr) (Nat.le_refl _)]
  case hr => repeat (first | exact FZ_c | apply FZ_zup (by decide))
  refine z_dup dX8_init_26 rfl ?_
  refine z_calliN (N := MX7_init) (nas := 0) (as := []) (host := "EscalatedForms") dX8_init_27 rfl rfl w_28 (by decide +kernel) w_27 w_2 (by decide +kernel) rfl rfl (Nat.le_of_ble_eq_true rfl) (by decide) (by decide) (ZC.mono (cMX7_init rfl (by decide) (by repeat (first | exact FZ_c | apply FZ_zup (by decide))) (by repeat (first | exact FZ_c | apply FZ_zup (by decide))) (by repeat (first | exact FZ_c | apply FZ_zup (by decide)))) ?_)
  rintro _ _ ⟨rfl, rfl⟩
  rw [show zkp (KT 8) 8 (4, (30 : Int).toNat) = KT 9 from KT_s (by decide) rfl, show zkp (KT 9) 9 (1, (30 : Int).toNat) = KT 10 from KT_s (by decide) rfl, show zkp (KT 10) 10 (1, (30 : Int).toNat) = KT 11 from KT_s (by decide) rfl, show zkp (KT 11) 11 (1, (30 : Int).toNat) = KT 12 from KT_s (by decide) rfl]
  refine z_putR (ci := 8) (kf := 2) dX8_init_30 rfl (by decide) (by decide) rfl (by decide) (fun _ => rfl) (fun _ => rfl) w_184 ?_
  refine z_aload_n dX8_init_33 rfl rfl ?_
  refine c_new (ci := 7) dX8_init_34 (by decide) w_24 w_25 w_2 ?_
  rw [show zkp (KT 12) 12 (10 + 7, 0) = KT 13 from KT_s (by decide) rfl]
  rw [FZ_up (α := Int) (z := 0) (n := 12) (h := ?hj) (Nat.le_refl _)]
  case hj => repeat (first | exact FZ_c | apply FZ_zup (by decide))
  rw [FZ_up (α := Option Nat) (z := none) (n := 12) (h := ?hr) (Nat.le_refl _)]
  case hr => repeat (first | exact FZ_c | apply FZ_zup (by decide))
  refine z_dup dX8_init_37 rfl ?_
  refine z_calliN (N := MX7_init) (nas := 0) (as := []) (host := "EscalatedForms") dX8_init_38 rfl rfl w_28 (by decide +kernel) w_27 w_2 (by decide +kernel) rfl rfl (Nat.le_of_ble_eq_true rfl) (by decide) (by decide) (ZC.mono (cMX7_init rfl (by decide) (by repeat (first | exact FZ_c | apply FZ_zup (by decide))) (by repeat (first | exact FZ_c | apply FZ_zup (by decide))) (by repeat (first | exact FZ_c | apply FZ_zup (by decide)))) ?_)
  rintro _ _ ⟨rfl, rfl⟩
  rw [show zkp (KT 13) 13 (4, (30 : Int).toNat) = KT 14 from KT_s (by decide) rfl, show zkp (KT 14) 14 (1, (30 : Int).toNat) = KT 15 from KT_s (by decide) rfl, show zkp (KT 15) 15 (1, (30 : Int).toNat) = KT 16 from KT_s (by decide) rfl, show zkp (KT 16) 16 (1, (30 : Int).toNat) = KT 17 from KT_s (by decide) rfl]
  refine z_putR (ci := 8) (kf := 3) dX8_init_41 rfl (by decide) (by decide) rfl (by decide) (fun _ => rfl) (fun _ => rfl) w_185 ?_
  refine z_aload_n dX8_init_44 rfl rfl ?_
  refine c_iconst dX8_init_45 ?_
  refine c_putZ (ci := 8) (kf := 4) dX8_init_46 rfl (by decide) (by decide) rfl (by decide) (Or.inl rfl) w_186 ?_
  refine z_aload_n dX8_init_49 rfl rfl ?_
  refine c_iconst dX8_init_50 ?_
  refine c_newq (kd := 5) (ci := 5) dX8_init_51 (by decide) w_52 (by omega) ?_
  rw [show zkp (KT 17) 17 (5, (4 : Int).toNat) = KT 18 from KT_s (by decide) rfl]
  rw [FZ_up (α := Option Nat) (z := none) (n := 17) (h := ?hr) (Nat.le_refl _)]
  case hr => repeat (first | exact FZ_c | apply FZ_zup (by decide))
  refine z_putR (ci := 8) (kf := 5) dX8_init_54 rfl (by decide) (by decide) rfl (by decide) (fun _ => rfl) (fun _ => rfl) w_187 ?_
  refine c_iconst dX8_init_57 ?_
  refine z_istore_n dX8_init_58 rfl (by decide) rfl ?_
  refine z_iload_n dX8_init_59 rfl rfl ?_
  refine c_iconst dX8_init_60 ?_
  refine c_icmp_ge (tgt := 83) dX8_init_61 (by decide) (by omega) (by omega) (fun h61 => ?_) (fun h61 => ?_)
  · exact absurd h61 (by omega)
  · refine z_aload_n dX8_init_64 rfl rfl ?_
    refine z_getR (ci := 8) (kf := 5) dX8_init_65 rfl (by decide) (by decide) rfl w_187 rfl ?_
    refine z_iload_n dX8_init_68 rfl rfl ?_
    refine c_new (ci := 5) dX8_init_69 (by decide) w_52 w_54 w_3 ?_
    rw [show zkp (KT 18) 18 (10 + 5, 0) = KT 19 from KT_s (by decide) rfl]
    rw [FZ_up (α := Int) (z := 0) (n := 18) (h := ?hj) (Nat.le_refl _)]
    case hj => repeat (first | exact FZ_c | apply FZ_zup (by decide))
    rw [FZ_up (α := Int) (z := 0) (n := 18) (h := ?hp) (Nat.le_refl _)]
    case hp => repeat (first | exact FZ_c | apply FZ_zup (by decide))
    rw [FZ_up (α := Option Nat) (z := none) (n := 18) (h := ?hr) (Nat.le_refl _)]
    case hr => repeat (first | exact FZ_c | apply FZ_zup (by decide))
    refine z_dup dX8_init_72 rfl ?_
    refine z_calliN (N := MX5_init) (nas := 0) (as := []) (host := "EscalatedForms") dX8_init_73 rfl rfl w_57 (by decide +kernel) w_56 w_3 (by decide +kernel) rfl rfl (Nat.le_of_ble_eq_true rfl) (by decide) (by decide) (ZC.mono (cMX5_init rfl (by decide) (by repeat (first | exact FZ_c | apply FZ_zup (by decide))) (by repeat (first | exact FZ_c | apply FZ_zup (by decide))) (by repeat (first | exact FZ_c | apply FZ_zup (by decide)))) ?_)
    rintro _ _ ⟨rfl, rfl⟩
    rw [show zkp (KT 19) 19 (1, (40 : Int).toNat) = KT 20 from KT_s (by decide) rfl]
    refine c_aast (ci := 5) dX8_init_76 rfl (by decide) (by omega) (by decide) rfl ?_
    refine c_iinc dX8_init_77 rfl (by decide) rfl ?_
    refine z_goto (tgt := 59) dX8_init_80 (by decide) ?_
    refine z_iload_n dX8_init_59 rfl rfl ?_
    refine c_iconst dX8_init_60 ?_
    refine c_icmp_ge (tgt := 83) dX8_init_61 (by decide) (by omega) (by omega) (fun h61 => ?_) (fun h61 => ?_)
    · exact absurd h61 (by omega)
    · refine z_aload_n dX8_init_64 rfl rfl ?_
      refine z_getR (ci := 8) (kf := 5) dX8_init_65 rfl (by decide) (by decide) rfl w_187 rfl ?_
      refine z_iload_n dX8_init_68 rfl rfl ?_
      refine c_new (ci := 5) dX8_init_69 (by decide) w_52 w_54 w_3 ?_
      rw [show zkp (KT 20) 20 (10 + 5, 0) = KT 21 from KT_s (by decide) rfl]
      rw [FZ_up (α := Int) (z := 0) (n := 20) (h := ?hj) (Nat.le_refl _)]
      case hj => repeat (first | exact FZ_c | apply FZ_zup (by decide))
      rw [FZ_up (α := Int) (z := 0) (n := 20) (h := ?hp) (Nat.le_refl _)]
      case hp => repeat (first | exact FZ_c | apply FZ_zup (by decide))
      rw [FZ_up (α := Option Nat) (z := none) (n := 20) (h := ?hr) (Nat.le_refl _)]
      case hr => repeat (first | exact FZ_c | apply FZ_zup (by decide))
      refine z_dup dX8_init_72 rfl ?_
      refine z_calliN (N := MX5_init) (nas := 0) (as := []) (host := "EscalatedForms") dX8_init_73 rfl rfl w_57 (by decide +kernel) w_56 w_3 (by decide +kernel) rfl rfl (Nat.le_of_ble_eq_true rfl) (by decide) (by decide) (ZC.mono (cMX5_init rfl (by decide) (by repeat (first | exact FZ_c | apply FZ_zup (by decide))) (by repeat (first | exact FZ_c | apply FZ_zup (by decide))) (by repeat (first | exact FZ_c | apply FZ_zup (by decide)))) ?_)
      rintro _ _ ⟨rfl, rfl⟩
      rw [show zkp (KT 21) 21 (1, (40 : Int).toNat) = KT 22 from KT_s (by decide) rfl]
      refine c_aast (ci := 5) dX8_init_76 rfl (by decide) (by omega) (by decide) rfl ?_
      refine c_iinc dX8_init_77 rfl (by decide) rfl ?_
      refine z_goto (tgt := 59) dX8_init_80 (by decide) ?_
      refine z_iload_n dX8_init_59 rfl rfl ?_
      refine c_iconst dX8_init_60 ?_
      refine c_icmp_ge (tgt := 83) dX8_init_61 (by decide) (by omega) (by omega) (fun h61 => ?_) (fun h61 => ?_)
      · exact absurd h61 (by omega)
      · refine z_aload_n dX8_init_64 rfl rfl ?_
        refine z_getR (ci := 8) (kf := 5) dX8_init_65 rfl (by decide) (by decide) rfl w_187 rfl ?_
        refine z_iload_n dX8_init_68 rfl rfl ?_
        refine c_new (ci := 5) dX8_init_69 (by decide) w_52 w_54 w_3 ?_
        rw [show zkp (KT 22) 22 (10 + 5, 0) = KT 23 from KT_s (by decide) rfl]
        rw [FZ_up (α := Int) (z := 0) (n := 22) (h := ?hj) (Nat.le_refl _)]
        case hj => repeat (first | exact FZ_c | apply FZ_zup (by decide))
        rw [FZ_up (α := Int) (z := 0) (n := 22) (h := ?hp) (Nat.le_refl _)]
        case hp => repeat (first | exact FZ_c | apply FZ_zup (by decide))
        rw [FZ_up (α := Option Nat) (z := none) (n := 22) (h := ?hr) (Nat.le_refl _)]
        case hr => repeat (first | exact FZ_c | apply FZ_zup (by decide))
        refine z_dup dX8_init_72 rfl ?_
        refine z_calliN (N := MX5_init) (nas := 0) (as := []) (host := "EscalatedForms") dX8_init_73 rfl rfl w_57 (by decide +kernel) w_56 w_3 (by decide +kernel) rfl rfl (Nat.le_of_ble_eq_true rfl) (by decide) (by decide) (ZC.mono (cMX5_init rfl (by decide) (by repeat (first | exact FZ_c | apply FZ_zup (by decide))) (by repeat (first | exact FZ_c | apply FZ_zup (by decide))) (by repeat (first | exact FZ_c | apply FZ_zup (by decide)))) ?_)
        rintro _ _ ⟨rfl, rfl⟩
        rw [show zkp (KT 23) 23 (1, (40 : Int).toNat) = KT 24 from KT_s (by decide) rfl]
        refine c_aast (ci := 5) dX8_init_76 rfl (by decide) (by omega) (by decide) rfl ?_
        refine c_iinc dX8_init_77 rfl (by decide) rfl ?_
        refine z_goto (tgt := 59) dX8_init_80 (by decide) ?_
        refine z_iload_n dX8_init_59 rfl rfl ?_
        refine c_iconst dX8_init_60 ?_
        refine c_icmp_ge (tgt := 83) dX8_init_61 (by decide) (by omega) (by omega) (fun h61 => ?_) (fun h61 => ?_)
        · exact absurd h61 (by omega)
        · refine z_aload_n dX8_init_64 rfl rfl ?_
          refine z_getR (ci := 8) (kf := 5) dX8_init_65 rfl (by decide) (by decide) rfl w_187 rfl ?_
          refine z_iload_n dX8_init_68 rfl rfl ?_
          refine c_new (ci := 5) dX8_init_69 (by decide) w_52 w_54 w_3 ?_
          rw [show zkp (KT 24) 24 (10 + 5, 0) = KT 25 from KT_s (by decide) rfl]
          rw [FZ_up (α := Int) (z := 0) (n := 24) (h := ?hj) (Nat.le_refl _)]
          case hj => repeat (first | exact FZ_c | apply FZ_zup (by decide))
          rw [FZ_up (α := Int) (z := 0) (n := 24) (h := ?hp) (Nat.le_refl _)]
          case hp => repeat (first | exact FZ_c | apply FZ_zup (by decide))
          rw [FZ_up (α := Option Nat) (z := none) (n := 24) (h := ?hr) (Nat.le_refl _)]
          case hr => repeat (first | exact FZ_c | apply FZ_zup (by decide))
          refine z_dup dX8_init_72 rfl ?_
          refine z_calliN (N := MX5_init) (nas := 0) (as := []) (host := "EscalatedForms") dX8_init_73 rfl rfl w_57 (by decide +kernel) w_56 w_3 (by decide +kernel) rfl rfl (Nat.le_of_ble_eq_true rfl) (by decide) (by decide) (ZC.mono (cMX5_init rfl (by decide) (by repeat (first | exact FZ_c | apply FZ_zup (by decide))) (by repeat (first | exact FZ_c | apply FZ_zup (by decide))) (by repeat (first | exact FZ_c | apply FZ_zup (by decide)))) ?_)
          rintro _ _ ⟨rfl, rfl⟩
          rw [show zkp (KT 25) 25 (1, (40 : Int).toNat) = KT 26 from KT_s (by decide) rfl]
          refine c_aast (ci := 5) dX8_init_76 rfl (by decide) (by omega) (by decide) rfl ?_
          refine c_iinc dX8_init_77 rfl (by decide) rfl ?_
          refine z_goto (tgt := 59) dX8_init_80 (by decide) ?_
          refine z_iload_n dX8_init_59 rfl rfl ?_
          refine c_iconst dX8_init_60 ?_
          refine c_icmp_ge (tgt := 83) dX8_init_61 (by decide) (by omega) (by omega) (fun h61 => ?_) (fun h61 => ?_)
          · refine z_aload_n dX8_init_83 rfl rfl ?_
            refine c_new (ci := 1) dX8_init_84 (by decide) w_71 w_72 w_4 ?_
            rw [show zkp (KT 26) 26 (10 + 1, 0) = KT 27 from KT_s (by decide) rfl]
            rw [FZ_up (α := Int) (z := 0) (n := 26) (h := ?hj) (Nat.le_refl _)]
            case hj => repeat (first | exact FZ_c | apply FZ_zup (by decide))
            rw [FZ_up (α := Int) (z := 0) (n := 26) (h := ?hp) (Nat.le_refl _)]
            case hp => repeat (first | exact FZ_c | apply FZ_zup (by decide))
            rw [FZ_up (α := Option Nat) (z := none) (n := 26) (h := ?hr) (Nat.le_refl _)]
            case hr => repeat (first | exact FZ_c | apply FZ_zup (by decide))
            refine z_dup dX8_init_87 rfl ?_
            refine z_calliN (N := MX1_init) (nas := 0) (as := []) (host := "EscalatedForms") dX8_init_88 rfl rfl w_75 (by decide +kernel) w_74 w_4 (by decide +kernel) rfl rfl (Nat.le_of_ble_eq_true rfl) (by decide) (by decide) (ZC.mono (cMX1_init rfl (by decide) (by repeat (first | exact FZ_c | apply FZ_zup (by decide))) (by repeat (first | exact FZ_c | apply FZ_zup (by decide))) (by repeat (first | exact FZ_c | apply FZ_zup (by decide)))) ?_)
            rintro _ _ ⟨rfl, rfl⟩
            rw [show zkp (KT 27) 27 (1, (16 : Int).toNat) = KT 28 from KT_s (by decide) rfl, show zkp (KT 28) 28 (2, (16 : Int).toNat) = KT 29 from KT_s (by decide) rfl, show zkp (KT 29) 29 (1, (4 : Int).toNat) = KT 30 from KT_s (by decide) rfl]
            refine z_putR (ci := 8) (kf := 6) dX8_init_91 rfl (by decide) (by decide) rfl (by decide) (fun _ => rfl) (fun _ => rfl) w_188 ?_
            refine z_aload_n dX8_init_94 rfl rfl ?_
            refine c_new (ci := 2) dX8_init_95 (by decide) w_105 w_106 w_5 ?_
            rw [show zkp (KT 30) 30 (10 + 2, 0) = KT 31 from KT_s (by decide) rfl]
            rw [FZ_up (α := Int) (z := 0) (n := 30) (h := ?hj) (Nat.le_refl _)]
            case hj => repeat (first | exact FZ_c | apply FZ_zup (by decide))
            rw [FZ_up (α := Int) (z := 0) (n := 30) (h := ?hp) (Nat.le_refl _)]
            case hp => repeat (first | exact FZ_c | apply FZ_zup (by decide))
            rw [FZ_up (α := Option Nat) (z := none) (n := 30) (h := ?hr) (Nat.le_refl _)]
            case hr => repeat (first | exact FZ_c | apply FZ_zup (by decide))
            refine z_dup dX8_init_98 rfl ?_
            refine z_calliN (N := MX2_init) (nas := 0) (as := []) (host := "EscalatedForms") dX8_init_99 rfl rfl w_109 (by decide +kernel) w_108 w_5 (by decide +kernel) rfl rfl (Nat.le_of_ble_eq_true rfl) (by decide) (by decide) (ZC.mono (cMX2_init rfl (by decide) (by repeat (first | exact FZ_c | apply FZ_zup (by decide))) (by repeat (first | exact FZ_c | apply FZ_zup (by decide))) (by repeat (first | exact FZ_c | apply FZ_zup (by decide)))) ?_)
            rintro _ _ ⟨rfl, rfl⟩
            rw [show zkp (KT 31) 31 (2, (16 : Int).toNat) = KT 32 from KT_s (by decide) rfl, show zkp (KT 32) 32 (2, (4 : Int).toNat) = KT 33 from KT_s (by decide) rfl, show zkp (KT 33) 33 (2, (5 : Int).toNat) = KT 34 from KT_s (by decide) rfl, show zkp (KT 34) 34 (2, (4 : Int).toNat) = KT 35 from KT_s (by decide) rfl, show zkp (KT 35) 35 (1, (4 : Int).toNat) = KT 36 from KT_s (by decide) rfl, show zkp (KT 36) 36 (1, (4 : Int).toNat) = KT 37 from KT_s (by decide) rfl]
            refine z_putR (ci := 8) (kf := 7) dX8_init_102 rfl (by decide) (by decide) rfl (by decide) (fun _ => rfl) (fun _ => rfl) w_189 ?_
            refine z_aload_n dX8_init_105 rfl rfl ?_
            refine c_new (ci := 4) dX8_init_106 (by decide) w_147 w_148 w_6 ?_
            rw [show zkp (KT 37) 37 (10 + 4, 0) = KT 38 from KT_s (by decide) rfl]
            rw [FZ_up (α := Int) (z := 0) (n := 37) (h := ?hj) (Nat.le_refl _)]
            case hj => repeat (first | exact FZ_c | apply FZ_zup (by decide))
            rw [FZ_up (α := Int) (z := 0) (n := 37) (h := ?hp) (Nat.le_refl _)]
            case hp => repeat (first | exact FZ_c | apply FZ_zup (by decide))
            rw [FZ_up (α := Option Nat) (z := none) (n := 37) (h := ?hr) (Nat.le_refl _)]
            case hr => repeat (first | exact FZ_c | apply FZ_zup (by decide))
            refine z_dup dX8_init_109 rfl ?_
            refine z_calliN (N := MX4_init) (nas := 0) (as := []) (host := "EscalatedForms") dX8_init_110 rfl rfl w_151 (by decide +kernel) w_150 w_6 (by decide +kernel) rfl rfl (Nat.le_of_ble_eq_true rfl) (by decide) (by decide) (ZC.mono (cMX4_init rfl (by decide) (by repeat (first | exact FZ_c | apply FZ_zup (by decide))) (by repeat (first | exact FZ_c | apply FZ_zup (by decide))) (by repeat (first | exact FZ_c | apply FZ_zup (by decide)))) ?_)
            rintro _ _ ⟨rfl, rfl⟩
            rw [show zkp (KT 38) 38 (1, (4 : Int).toNat) = KT 39 from KT_s (by decide) rfl, show zkp (KT 39) 39 (3, (256 : Int).toNat) = KT 40 from KT_s (by decide) rfl]
            refine z_putR (ci := 8) (kf := 8) dX8_init_113 rfl (by decide) (by decide) rfl (by decide) (fun _ => rfl) (fun _ => rfl) w_190 ?_
            refine z_aload_n dX8_init_116 rfl rfl ?_
            refine c_new (ci := 0) dX8_init_117 (by decide) w_161 w_162 w_7 ?_
            rw [show zkp (KT 40) 40 (10 + 0, 0) = KT 41 from KT_s (by decide) rfl]
            rw [FZ_up (α := Int) (z := 0) (n := 40) (h := ?hj) (Nat.le_refl _)]
            case hj => repeat (first | exact FZ_c | apply FZ_zup (by decide))
            rw [FZ_up (α := Int) (z := 0) (n := 40) (h := ?hp) (Nat.le_refl _)]
            case hp => repeat (first | exact FZ_c | apply FZ_zup (by decide))
            rw [FZ_up (α := Option Nat) (z := none) (n := 40) (h := ?hr) (Nat.le_refl _)]
            case hr => repeat (first | exact FZ_c | apply FZ_zup (by decide))
            refine z_dup dX8_init_120 rfl ?_
            refine z_calliN (N := MX0_init) (nas := 0) (as := []) (host := "EscalatedForms") dX8_init_121 rfl rfl w_165 (by decide +kernel) w_164 w_7 (by decide +kernel) rfl rfl (Nat.le_of_ble_eq_true rfl) (by decide) (by decide) (ZC.mono (cMX0_init rfl (by decide) (by repeat (first | exact FZ_c | apply FZ_zup (by decide))) (by repeat (first | exact FZ_c | apply FZ_zup (by decide))) (by repeat (first | exact FZ_c | apply FZ_zup (by decide)))) ?_)
            rintro _ _ ⟨rfl, rfl⟩
            rw [show zkp (KT 41) 41 (1, (64 : Int).toNat) = KT 42 from KT_s (by decide) rfl]
            refine z_putR (ci := 8) (kf := 9) dX8_init_124 rfl (by decide) (by decide) rfl (by decide) (fun _ => rfl) (fun _ => rfl) w_191 ?_
            refine z_return dX8_init_127 rfl ?_
            subst hQ0; exact ⟨rfl, _, rfl, by decide⟩
          · exact absurd h61 (by omega)
end Init
