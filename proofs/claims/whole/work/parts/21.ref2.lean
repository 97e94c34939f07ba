section Ref2
variable {g : ZG} {l : Launch} {Kd : ZK} {Rd : ZR} {n s0 : Nat} {J P : Nat → Nat → Int}
set_option maxHeartbeats 4000000 in
set_option maxRecDepth 100000 in
theorem cMX9_copyTo {f t : Int} (hf : 0 ≤ f ∧ f < 74) (ht : 0 ≤ t ∧ t < 74) : ZC g l MX9_copyTo [.ref 42, .int (iZ f), .int (iZ t)] (KF Kd, zi J, zj P, RF Rd, n, s0) (fun rr hh => rr = none ∧ hh = (KF Kd, zi (fun a q => if a = 44 ∧ q = t.toNat then J 44 f.toNat else if a = 43 ∧ 16 * t.toNat ≤ q ∧ q < 16 * t.toNat + 16 then J 43 (16 * f.toNat + (q - 16 * t.toNat)) else J a q), zj P, RF Rd, n, s0)) := by
  refine ZC.of (by decide) (Nat.le_of_ble_eq_true rfl) ?_
  generalize hQ0 : (fun rr hh => rr = none ∧ hh = (KF Kd, zi (fun a q => if a = 44 ∧ q = t.toNat then J 44 f.toNat else if a = 43 ∧ 16 * t.toNat ≤ q ∧ q < 16 * t.toNat + 16 then J 43 (16 * f.toNat + (q - 16 * t.toNat)) else J a q), zj P, RF Rd, n, s0) : Option Value → ZH → Prop) = Q0
  show Z g l MX9_copyTo 0 [some (.ref 42), some (.int (iZ f)), some (.int (iZ t)), none] [] (KF Kd, zi J, zj P, RF Rd, n, s0) Q0
  refine z_aload_n dX9_copyTo_0 rfl rfl ?_
  refine z_getR (ci := 9) (kf := 1) dX9_copyTo_1 rfl (by decide) (by decide) rfl w_777 rfl ?_
  refine z_iload_n dX9_copyTo_4 rfl rfl ?_
  refine z_aload_n dX9_copyTo_5 rfl rfl ?_
  refine z_getR (ci := 9) (kf := 1) dX9_copyTo_6 rfl (by decide) (by decide) rfl w_777 rfl ?_
  refine z_iload_n dX9_copyTo_9 rfl rfl ?_
  refine c_iald dX9_copyTo_10 rfl (by omega) (by decide) ?_
  refine c_iast dX9_copyTo_11 rfl (by omega) (by decide) ?_
  refine c_iconst dX9_copyTo_12 ?_
  refine z_istore_n dX9_copyTo_13 rfl (by decide) rfl ?_
  have L14 : ∀ (m14 : Nat), ∀ (k : Int) (J1 : Nat → Nat → Int), (16 - k).toNat = m14 → (0 ≤ k ∧ k ≤ 16) → (J1 = (fun a q => if a = 44 ∧ q = t.toNat then J 44 f.toNat else if a = 43 ∧ 16 * t.toNat ≤ q ∧ q < 16 * t.toNat + k.toNat then J 43 (16 * f.toNat + (q - 16 * t.toNat)) else J a q)) → Z g l MX9_copyTo 14 [some (.ref 42), some (.int (iZ f)), some (.int (iZ t)), some (.int (iZ k))] [] (KF Kd, zi J1, zj P, RF Rd, n, s0) Q0 := by
    intro m14
    induction m14 using Nat.strongRecOn with
    | ind m14 ih14 =>
      intro k J1 hm14 hk hJ
      refine z_iload_n dX9_copyTo_14 rfl rfl ?_
      refine c_bipush dX9_copyTo_15 (by decide) ?_
      refine c_icmp_ge (tgt := 48) dX9_copyTo_17 (by decide) (by omega) (by omega) (fun h17 => ?_) (fun h17 => ?_)
      · refine z_return dX9_copyTo_48 rfl ?_
        subst hQ0; refine ⟨rfl, ?_⟩; subst hJ; have : k = 16 := by omega
        subst this; rfl
      · refine z_aload_n dX9_copyTo_20 rfl rfl ?_
        refine z_getR (ci := 9) (kf := 0) dX9_copyTo_21 rfl (by decide) (by decide) rfl w_776 rfl ?_
        refine c_bipush dX9_copyTo_24 (by decide) ?_
        refine z_iload_n dX9_copyTo_26 rfl rfl ?_
        refine c_imul dX9_copyTo_27 ?_
        refine z_iload_n dX9_copyTo_28 rfl rfl ?_
        refine c_iadd dX9_copyTo_29 ?_
        refine z_aload_n dX9_copyTo_30 rfl rfl ?_
        refine z_getR (ci := 9) (kf := 0) dX9_copyTo_31 rfl (by decide) (by decide) rfl w_776 rfl ?_
        refine c_bipush dX9_copyTo_34 (by decide) ?_
        refine z_iload_n dX9_copyTo_36 rfl rfl ?_
        refine c_imul dX9_copyTo_37 ?_
        refine z_iload_n dX9_copyTo_38 rfl rfl ?_
        refine c_iadd dX9_copyTo_39 ?_
        refine c_iald dX9_copyTo_40 rfl (by omega) (by decide) ?_
        refine c_iast dX9_copyTo_41 rfl (by omega) (by decide) ?_
        refine c_iinc dX9_copyTo_42 rfl (by decide) rfl ?_
        refine z_goto (tgt := 14) dX9_copyTo_45 (by decide) ?_
        exact Z.fg2 (ih14 _ (by omega) _ _ rfl (by omega) (by clear ih14 hQ0; subst hJ; funext a q; simp only [zup]; grind (splits := 20))) (zs1 rfl (zs1 rfl (zs1 rfl (zs1 rfl zs0))))
  exact Z.fg2 (L14 _ _ _ rfl (by omega) (by funext a q; simp only [zup]; grind)) (zs1 rfl (zs1 rfl (zs1 rfl (zs1 rfl zs0))))
set_option maxHeartbeats 4000000 in
set_option maxRecDepth 100000 in
theorem cMX9_hasForm {s : Int} (hs : rI s) (hL : ∀ q, q < 6 → 0 ≤ J 44 q ∧ J 44 q ≤ 4) : ZC g l MX9_hasForm [.ref 42, .int (iZ s)] (KF Kd, zi J, zj P, RF Rd, n, s0) (fun rr hh => rr = some (.int (iZ (if 0 ≤ s ∧ s < 6 ∧ 0 < J 44 s.toNat then 1 else 0))) ∧ hh = (KF Kd, zi J, zj P, RF Rd, n, s0)) := by
  refine ZC.of (by decide) (Nat.le_of_ble_eq_true rfl) ?_
  generalize hQ0 : (fun rr hh => rr = some (.int (iZ (if 0 ≤ s ∧ s < 6 ∧ 0 < J 44 s.toNat then 1 else 0))) ∧ hh = (KF Kd, zi J, zj P, RF Rd, n, s0) : Option Value → ZH → Prop) = Q0
  show Z g l MX9_hasForm 0 [some (.ref 42), some (.int (iZ s))] [] (KF Kd, zi J, zj P, RF Rd, n, s0) Q0
  refine z_iload_n dX9_hasForm_0 rfl rfl ?_
  refine z_calls (N := MX9_isSlot) (nas := 1) (as := [_]) dX9_hasForm_1 w_885 w_883 w_884 w_8 (by decide +kernel) rfl rfl (Nat.le_of_ble_eq_true rfl) (by decide) (by decide) (ZC.mono (cMX9_isSlot (by omega)) ?_)
  rintro _ _ ⟨rfl, rfl⟩
  refine c_if_eq (tgt := 20) dX9_hasForm_4 (by decide) (by split <;> omega) (fun h4 => ?_) (fun h4 => ?_)
  · have hs6 : ¬ (0 ≤ s ∧ s < 6) := by split at h4 <;> omega
    refine c_iconst dX9_hasForm_20 ?_
    refine c_zreturn dX9_hasForm_21 rfl (by omega) ?_
    subst hQ0; refine ⟨?_, rfl⟩; split <;> first | rfl | omega
  · have hs6 : 0 ≤ s ∧ s < 6 := by split at h4 <;> omega
    have hL1 := hL s.toNat (by omega)
    refine z_aload_n dX9_hasForm_7 rfl rfl ?_
    refine z_getR (ci := 9) (kf := 1) dX9_hasForm_8 rfl (by decide) (by decide) rfl w_777 rfl ?_
    refine z_iload_n dX9_hasForm_11 rfl rfl ?_
    refine c_iald dX9_hasForm_12 rfl (by omega) (by decide) ?_
    refine c_if_le (tgt := 20) dX9_hasForm_13 (by decide) (by omega) (fun h13 => ?_) (fun h13 => ?_)
    · refine c_iconst dX9_hasForm_20 ?_
      refine c_zreturn dX9_hasForm_21 rfl (by omega) ?_
      subst hQ0; refine ⟨?_, rfl⟩; split <;> first | rfl | omega
    · refine c_iconst dX9_hasForm_16 ?_
      refine z_goto (tgt := 21) dX9_hasForm_17 (by decide) ?_
      refine c_zreturn dX9_hasForm_21 rfl (by omega) ?_
      subst hQ0; refine ⟨?_, rfl⟩; split <;> first | rfl | omega
set_option maxHeartbeats 4000000 in
set_option maxRecDepth 100000 in
theorem cMX9_isLetter {p i : Int} (hi : rI i) (hp : 0 ≤ p ∧ p < 74) (hL : 0 ≤ J 44 p.toNat ∧ J 44 p.toNat ≤ 4) : ZC g l MX9_isLetter [.ref 42, .int (iZ p), .int (iZ i)] (KF Kd, zi J, zj P, RF Rd, n, s0) (fun rr hh => rr = some (.int (iZ (if 0 ≤ i ∧ i < J 44 p.toNat then 1 else 0))) ∧ hh = (KF Kd, zi J, zj P, RF Rd, n, s0)) := by
  refine ZC.of (by decide) (Nat.le_of_ble_eq_true rfl) ?_
  generalize hQ0 : (fun rr hh => rr = some (.int (iZ (if 0 ≤ i ∧ i < J 44 p.toNat then 1 else 0))) ∧ hh = (KF Kd, zi J, zj P, RF Rd, n, s0) : Option Value → ZH → Prop) = Q0
  show Z g l MX9_isLetter 0 [some (.ref 42), some (.int (iZ p)), some (.int (iZ i))] [] (KF Kd, zi J, zj P, RF Rd, n, s0) Q0
  refine z_iload_n dX9_isLetter_0 rfl rfl ?_
  refine c_if_lt (tgt := 18) dX9_isLetter_1 (by decide) (by omega) (fun h1 => ?_) (fun h1 => ?_)
  · refine c_iconst dX9_isLetter_18 ?_
    refine c_zreturn dX9_isLetter_19 rfl (by omega) ?_
    subst hQ0; refine ⟨?_, rfl⟩; split <;> first | rfl | omega
  · refine z_iload_n dX9_isLetter_4 rfl rfl ?_
    refine z_aload_n dX9_isLetter_5 rfl rfl ?_
    refine z_getR (ci := 9) (kf := 1) dX9_isLetter_6 rfl (by decide) (by decide) rfl w_777 rfl ?_
    refine z_iload_n dX9_isLetter_9 rfl rfl ?_
    refine c_iald dX9_isLetter_10 rfl (by omega) (by decide) ?_
    refine c_icmp_ge (tgt := 18) dX9_isLetter_11 (by decide) (by omega) (by omega) (fun h11 => ?_) (fun h11 => ?_)
    · refine c_iconst dX9_isLetter_18 ?_
      refine c_zreturn dX9_isLetter_19 rfl (by omega) ?_
      subst hQ0; refine ⟨?_, rfl⟩; split <;> first | rfl | omega
    · refine c_iconst dX9_isLetter_14 ?_
      refine z_goto (tgt := 19) dX9_isLetter_15 (by decide) ?_
      refine c_zreturn dX9_isLetter_19 rfl (by omega) ?_
      subst hQ0; refine ⟨?_, rfl⟩; split <;> first | rfl | omega
set_option maxHeartbeats 4000000 in
set_option maxRecDepth 100000 in
theorem cMX9_clearBelow {p m last : Int} (hp : 0 ≤ p ∧ p < m ∧ m ≤ 4) (hl : rL last ∧ last ≠ 0) (hB : ∀ q, (q < 16 ∧ p + 1 < m ∧ p ≤ ((q / 4 : Nat) : Int) ∧ ((q / 4 : Nat) : Int) < m ∧ p ≤ ((q % 4 : Nat) : Int) ∧ ((q % 4 : Nat) : Int) < m) → -2147483647 ≤ P 49 q ∧ P 49 q ≤ 2147483647) : ZC g l MX9_clearBelow [.ref 42, .int (iZ p), .int (iZ m), .long (lZ last)] (KF Kd, zi J, zj P, RF Rd, n, s0) (fun rr hh => rr = none ∧ ∃ P', hh = (KF Kd, zi J, zj P', RF Rd, n, s0) ∧ (∀ i j : Nat, p < i → (i : Int) < m → p < j → (j : Int) < m → P' 49 (4 * i + j) = bstep (fun i j => P 49 (4 * i + j)) p.toNat last i j) ∧ ∀ a, a ≠ 49 → P' a = P a) := by
  refine ZC.of (by decide) (Nat.le_of_ble_eq_true rfl) ?_
  generalize hQ0 : (fun rr hh => rr = none ∧ ∃ P', hh = (KF Kd, zi J, zj P', RF Rd, n, s0) ∧ (∀ i j : Nat, p < i → (i : Int) < m → p < j → (j : Int) < m → P' 49 (4 * i + j) = bstep (fun i j => P 49 (4 * i + j)) p.toNat last i j) ∧ ∀ a, a ≠ 49 → P' a = P a : Option Value → ZH → Prop) = Q0
  show Z g l MX9_clearBelow 0 [some (.ref 42), some (.int (iZ p)), some (.int (iZ m)), some (.long (lZ last)), none, none, none] [] (KF Kd, zi J, zj P, RF Rd, n, s0) Q0
  refine z_iload_n dX9_clearBelow_0 rfl rfl ?_
  refine c_iconst dX9_clearBelow_1 ?_
  refine c_iadd dX9_clearBelow_2 ?_
  refine z_istore dX9_clearBelow_3 (by decide) rfl ?_
  have L5 : ∀ (m5 : Nat), ∀ (i : Int) (P1 : Nat → Nat → Int), (m - i).toNat = m5 → (p + 1 ≤ i ∧ i ≤ m) → (P1 = (fun a q => if a = 49 ∧ q < 16 ∧ (p < ((q / 4 : Nat) : Int) ∧ ((q / 4 : Nat) : Int) < i ∧ p < ((q % 4 : Nat) : Int) ∧ ((q % 4 : Nat) : Int) < m) then (P 49 q * P 49 (5 * p).toNat - P 49 (4 * (q / 4) + p.toNat) * P 49 (4 * p.toNat + q % 4)).tdiv last else P a q)) → Z g l MX9_clearBelow 5 [some (.ref 42), some (.int (iZ p)), some (.int (iZ m)), some (.long (lZ last)), none, some (.int (iZ i)), none] [] (KF Kd, zi J, zj P1, RF Rd, n, s0) Q0 := by
    intro m5
    induction m5 using Nat.strongRecOn with
    | ind m5 ih5 =>
      intro i P1 hm5 hi hP1
      refine z_iload dX9_clearBelow_5 rfl ?_
      refine z_iload_n dX9_clearBelow_7 rfl rfl ?_
      refine c_icmp_ge (tgt := 93) dX9_clearBelow_8 (by decide) (by omega) (by omega) (fun h8 => ?_) (fun h8 => ?_)
      · refine z_return dX9_clearBelow_93 rfl ?_
        subst hQ0; refine ⟨rfl, P1, rfl, fun i2 j2 g1 g2 g3 g4 => ?_, fun a ha => ?_⟩
        · subst hP1; simp only [bstep]; split
          · rw [show (4 * i2 + j2) / 4 = i2 by omega, show (4 * i2 + j2) % 4 = j2 by omega, show (5 * p).toNat = 4 * p.toNat + p.toNat by omega]
          · rename_i hx; exfalso; apply hx; refine ⟨trivial, ?_⟩; omega
        · subst hP1; funext x; simp [ha]
      · refine z_iload_n dX9_clearBelow_11 rfl rfl ?_
        refine c_iconst dX9_clearBelow_12 ?_
        refine c_iadd dX9_clearBelow_13 ?_
        refine z_istore dX9_clearBelow_14 (by decide) rfl ?_
        have L16 : ∀ (m16 : Nat), ∀ (j : Int) (P1 : Nat → Nat → Int), (m - j).toNat = m16 → (p + 1 ≤ j ∧ j ≤ m) → (P1 = (fun a q => if a = 49 ∧ q < 16 ∧ ((p < ((q / 4 : Nat) : Int) ∧ ((q / 4 : Nat) : Int) < i ∧ p < ((q % 4 : Nat) : Int) ∧ ((q % 4 : Nat) : Int) < m) ∨ (((q / 4 : Nat) : Int) = i ∧ p < ((q % 4 : Nat) : Int) ∧ ((q % 4 : Nat) : Int) < j)) then (P 49 q * P 49 (5 * p).toNat - P 49 (4 * (q / 4) + p.toNat) * P 49 (4 * p.toNat + q % 4)).tdiv last else P a q)) → Z g l MX9_clearBelow 16 [some (.ref 42), some (.int (iZ p)), some (.int (iZ m)), some (.long (lZ last)), none, some (.int (iZ i)), some (.int (iZ j))] [] (KF Kd, zi J, zj P1, RF Rd, n, s0) Q0 := by
          intro m16
          induction m16 using Nat.strongRecOn with
          | ind m16 ih16 =>
            intro j P1 hm16 hj hP1
            refine z_iload dX9_clearBelow_16 rfl ?_
            refine z_iload_n dX9_clearBelow_18 rfl rfl ?_
            refine c_icmp_ge (tgt := 87) dX9_clearBelow_19 (by decide) (by omega) (by omega) (fun h19 => ?_) (fun h19 => ?_)
            · refine c_iinc dX9_clearBelow_87 rfl (by decide) rfl ?_
              refine z_goto (tgt := 5) dX9_clearBelow_90 (by decide) ?_
              exact Z.fg2 (ih5 _ (by omega) _ _ rfl (by omega) (by clear ih5 hQ0 hB; subst hP1; funext a q; grind (splits := 20))) (zs1 rfl (zs1 rfl (zs1 rfl (zs1 rfl (zsn (zs1 rfl (zsn zs0)))))))
            · refine z_aload_n dX9_clearBelow_22 rfl rfl ?_
              refine z_getR (ci := 9) (kf := 9) dX9_clearBelow_23 rfl (by decide) (by decide) rfl w_785 rfl ?_
              refine c_iconst dX9_clearBelow_26 ?_
              refine z_iload dX9_clearBelow_27 rfl ?_
              refine c_imul dX9_clearBelow_29 ?_
              refine z_iload dX9_clearBelow_30 rfl ?_
              refine c_iadd dX9_clearBelow_32 ?_
              refine z_aload_n dX9_clearBelow_33 rfl rfl ?_
              refine z_getR (ci := 9) (kf := 9) dX9_clearBelow_34 rfl (by decide) (by decide) rfl w_785 rfl ?_
              refine c_iconst dX9_clearBelow_37 ?_
              refine z_iload dX9_clearBelow_38 rfl ?_
              refine c_imul dX9_clearBelow_40 ?_
              refine z_iload dX9_clearBelow_41 rfl ?_
              refine c_iadd dX9_clearBelow_43 ?_
              refine c_lald dX9_clearBelow_44 rfl (by omega) (by decide) ?_
              refine z_aload_n dX9_clearBelow_45 rfl rfl ?_
              refine z_getR (ci := 9) (kf := 9) dX9_clearBelow_46 rfl (by decide) (by decide) rfl w_785 rfl ?_
              refine c_iconst dX9_clearBelow_49 ?_
              refine z_iload_n dX9_clearBelow_50 rfl rfl ?_
              refine c_imul dX9_clearBelow_51 ?_
              refine c_lald dX9_clearBelow_52 rfl (by omega) (by decide) ?_
              refine c_lmul dX9_clearBelow_53 ?_
              refine z_aload_n dX9_clearBelow_54 rfl rfl ?_
              refine z_getR (ci := 9) (kf := 9) dX9_clearBelow_55 rfl (by decide) (by decide) rfl w_785 rfl ?_
              refine c_iconst dX9_clearBelow_58 ?_
              refine z_iload dX9_clearBelow_59 rfl ?_
              refine c_imul dX9_clearBelow_61 ?_
              refine z_iload_n dX9_clearBelow_62 rfl rfl ?_
              refine c_iadd dX9_clearBelow_63 ?_
              refine c_lald dX9_clearBelow_64 rfl (by omega) (by decide) ?_
              refine z_aload_n dX9_clearBelow_65 rfl rfl ?_
              refine z_getR (ci := 9) (kf := 9) dX9_clearBelow_66 rfl (by decide) (by decide) rfl w_785 rfl ?_
              refine c_iconst dX9_clearBelow_69 ?_
              refine z_iload_n dX9_clearBelow_70 rfl rfl ?_
              refine c_imul dX9_clearBelow_71 ?_
              refine z_iload dX9_clearBelow_72 rfl ?_
              refine c_iadd dX9_clearBelow_74 ?_
              refine c_lald dX9_clearBelow_75 rfl (by omega) (by decide) ?_
              refine c_lmul dX9_clearBelow_76 ?_
              refine c_lsub dX9_clearBelow_77 ?_
              refine z_lload_n dX9_clearBelow_78 rfl rfl ?_
              have e1 : P1 49 (4 * i + j).toNat = P 49 (4 * i + j).toNat := by subst hP1; grind
              have e2 : P1 49 (5 * p).toNat = P 49 (5 * p).toNat := by subst hP1; grind
              have e3 : P1 49 (4 * i + p).toNat = P 49 (4 * i + p).toNat := by subst hP1; grind
              have e4 : P1 49 (4 * p + j).toNat = P 49 (4 * p + j).toNat := by subst hP1; grind
              have b1 := hB (4 * i + j).toNat (by omega)
              have b2 := hB (5 * p).toNat (by omega)
              have b3 := hB (4 * i + p).toNat (by omega)
              have b4 := hB (4 * p + j).toNat (by omega)
              have m1 := mul_bd b1.1 b1.2 b2.1 b2.2
              have m2 := mul_bd b3.1 b3.2 b4.1 b4.2
              simp only [e1, e2, e3, e4]
              refine c_ldiv dX9_clearBelow_79 (by omega) (by omega) (by omega) (by omega) ?_
              refine c_last dX9_clearBelow_80 rfl (by omega) (by decide) ?_
              refine c_iinc dX9_clearBelow_81 rfl (by decide) rfl ?_
              refine z_goto (tgt := 16) dX9_clearBelow_84 (by decide) ?_
              exact Z.fg2 (ih16 _ (by omega) _ _ rfl (by omega) (by clear ih16 ih5 hQ0 hB m1 m2 b1 b2 b3 b4 e1 e2 e3 e4; subst hP1; funext a q; simp only [zup]; grind (splits := 20))) (zs1 rfl (zs1 rfl (zs1 rfl (zs1 rfl (zsn (zs1 rfl (zs1 rfl zs0)))))))
        exact Z.fg2 (L16 _ _ _ rfl (by omega) (by subst hP1; funext a q; grind)) (zs1 rfl (zs1 rfl (zs1 rfl (zs1 rfl (zsn (zs1 rfl (zs1 rfl zs0)))))))
  exact Z.fg2 (L5 _ _ _ rfl (by omega) (by funext a q; grind)) (zs1 rfl (zs1 rfl (zs1 rfl (zs1 rfl (zsn (zs1 rfl (zsn zs0)))))))
end Ref2
