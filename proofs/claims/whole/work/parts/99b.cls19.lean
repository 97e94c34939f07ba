section Cls19
variable {g : ZG} {l : Launch} {Kd : ZK} {Rd : ZR} {n s0 c : Nat} {A J P : Nat → Nat → Int}
/-- the rules' rows, which were there before -/
def ORUL (g : ZG) : Prop := ∀ r : Int, 0 ≤ r → r < 3 → g.2.2.2.2 (r.toNat + 1) = ((ruleN r).toNat, fun j : Nat => iZ (ruleA r (j : Int)))
theorem lackN_all {f : Nat → Int} {r : Int} : ∀ K : Nat, lackN f r K = 0 ↔ ∀ p : Nat, p < K → f (ruleA r p).toNat ≠ 0
  | 0 => ⟨fun _ p hp => absurd hp (by omega), fun _ => rfl⟩
  | K + 1 => by
    have i := lackN_all (f := f) (r := r) K
    have b := lackN_bd f r K
    unfold lackN
    by_cases z : f (ruleA r K).toNat = 0
    · rw [if_pos z]
      exact ⟨fun w => by omega, fun w => absurd z (w K (by omega))⟩
    · rw [if_neg z, i]
      exact ⟨fun w p hp => by by_cases e : p = K; (rw [e]; exact z); (exact w p (by omega)), fun w p hp => w p (by omega)⟩
theorem lckD_zero {f : Nat → Int} {r : Int} (hr : 0 ≤ r ∧ r < 3) : ∀ k : Nat, (k : Int) ≤ ruleN r → (lckD f r 0 k 0 = -2 ↔ ∀ p : Nat, ruleN r - k ≤ (p : Int) → (p : Int) < ruleN r → f (ruleA r p).toNat ≠ 0)
  | 0, _ => ⟨fun _ p h1 h2 => by omega, fun _ => rfl⟩
  | k + 1, hk => by
    have i := lckD_zero (f := f) hr k (by omega)
    unfold lckD
    have a := ruleA_bd hr (i := ruleN r - ((k + 1 : Nat) : Int)) (by omega)
    by_cases z : f (ruleA r (ruleN r - ((k + 1 : Nat) : Int))).toNat = 0
    · rw [if_pos z, if_pos rfl]
      refine ⟨fun w => by omega, fun w => absurd z ?_⟩
      have := w (ruleN r - ((k + 1 : Nat) : Int)).toNat (by omega) (by omega)
      rw [Int.toNat_of_nonneg (by omega)] at this; exact this
    · rw [if_neg z, i]
      refine ⟨fun w p h1 h2 => ?_, fun w p h1 h2 => w p (by omega) h2⟩
      by_cases e : (p : Int) = ruleN r - ((k + 1 : Nat) : Int)
      · rw [e]; exact z
      · exact w p (by omega) h2
theorem lck_claim {f : Nat → Int} {r : Int} (hr : 0 ≤ r ∧ r < 3) : lckD f r 0 (ruleN r).toNat 0 = -2 ↔ lackN f r (ruleN r).toNat = 0 := by
  have b := ruleN_bd r
  rw [lckD_zero hr _ (by omega), lackN_all]
  exact ⟨fun w p hp => w p (by omega) (by omega), fun w p _ h2 => w p (by omega)⟩
theorem lckD_bd {f : Nat → Int} {r i : Int} (hr : 0 ≤ r ∧ r < 3) : ∀ (k : Nat) (c : Int), (k : Int) ≤ ruleN r → -2 ≤ lckD f r i k c ∧ lckD f r i k c ≤ 73
  | 0, _, _ => ⟨by unfold lckD; omega, by unfold lckD; omega⟩
  | k + 1, c, hk => by
    have a := ruleA_bd hr (i := ruleN r - ((k + 1 : Nat) : Int)) (by omega)
    have i1 := lckD_bd (f := f) (i := i) hr k c (by omega)
    have i2 := lckD_bd (f := f) (i := i) hr k (c + 1) (by omega)
    unfold lckD
    split
    · split <;> omega
    · omega
set_option maxHeartbeats 4000000 in
set_option maxRecDepth 100000 in
theorem cMX8_numbersOf {q : Int} (hq : 0 ≤ q ∧ q < 3) : ZC g l MX8_numbersOf [.int (iZ q)] (KF Kd, zi J, zj P, RF Rd, n, s0) (fun rr hh => rr = some (.ref (q.toNat + 1)) ∧ hh = (KF Kd, zi J, zj P, RF Rd, n, s0)) := by
  refine ZC.of (by decide) (Nat.le_of_ble_eq_true rfl) ?_
  generalize hQ0 : (fun rr hh => rr = some (.ref (q.toNat + 1)) ∧ hh = (KF Kd, zi J, zj P, RF Rd, n, s0) : Option Value → ZH → Prop) = Q0
  show Z g l MX8_numbersOf 0 [some (.int (iZ q))] [] (KF Kd, zi J, zj P, RF Rd, n, s0) Q0
  refine z_iload_n dX8_numbersOf_0 rfl rfl ?_
  refine c_if_ne (tgt := 10) dX8_numbersOf_1 (by decide) (by omega) (fun h1 => ?_) (fun h1 => ?_)
  · refine z_iload_n dX8_numbersOf_10 rfl rfl ?_
    refine c_iconst dX8_numbersOf_11 ?_
    refine c_icmp_ne (tgt := 21) dX8_numbersOf_12 (by decide) (by omega) (by omega) (fun h12 => ?_) (fun h12 => ?_)
    · refine z_static (r := 3) dX8_numbersOf_21 (by simp) w_570 ?_
      refine z_areturn dX8_numbersOf_24 rfl (Or.inr ⟨_, rfl⟩) ?_
      subst hQ0; refine ⟨?_, rfl⟩; first | (rw [show q.toNat = 0 by omega]; done) | (rw [show q.toNat = 1 by omega]; done) | (rw [show q.toNat = 2 by omega]; done)
    · refine z_static (r := 2) dX8_numbersOf_15 (by simp) w_568 ?_
      refine z_goto (tgt := 24) dX8_numbersOf_18 (by decide) ?_
      refine z_areturn dX8_numbersOf_24 rfl (Or.inr ⟨_, rfl⟩) ?_
      subst hQ0; refine ⟨?_, rfl⟩; first | (rw [show q.toNat = 0 by omega]; done) | (rw [show q.toNat = 1 by omega]; done) | (rw [show q.toNat = 2 by omega]; done)
  · refine z_static (r := 1) dX8_numbersOf_4 (by simp) w_566 ?_
    refine z_goto (tgt := 24) dX8_numbersOf_7 (by decide) ?_
    refine z_areturn dX8_numbersOf_24 rfl (Or.inr ⟨_, rfl⟩) ?_
    subst hQ0; refine ⟨?_, rfl⟩; first | (rw [show q.toNat = 0 by omega]; done) | (rw [show q.toNat = 1 by omega]; done) | (rw [show q.toNat = 2 by omega]; done)
set_option maxHeartbeats 4000000 in
set_option maxRecDepth 100000 in
theorem cMX8_rule {q i : Int} (hq : rI q) (hi : rI i) (hO : ORUL g) (hW : WD A c Kd J Rd n s0) : ZC g l MX8_rule [.ref 4, .int (iZ q), .int (iZ i)] (KF Kd, zi J, zj P, RF Rd, n, s0) (PW A (c + 1) J P (.int (iZ (aRule q i)))) := by
  refine ZC.of (by decide) (Nat.le_of_ble_eq_true rfl) ?_
  generalize hQ0 : (PW A (c + 1) J P (.int (iZ (aRule q i))) : Option Value → ZH → Prop) = Q0
  show Z g l MX8_rule 0 [some (.ref 4), some (.int (iZ q)), some (.int (iZ i)), none] [] (KF Kd, zi J, zj P, RF Rd, n, s0) Q0
  refine z_iload_n dX8_rule_0 rfl rfl ?_
  refine z_calls (N := MX8_isRule) (nas := 1) (as := [_]) dX8_rule_1 w_562 w_560 w_561 w_1 (by decide +kernel) rfl rfl (Nat.le_of_ble_eq_true rfl) (by decide) (by decide) (ZC.mono (cMX8_isRule (by omega)) ?_)
  rintro _ _ ⟨b1, rfl, rfl, hb1⟩
  refine c_if_ne (tgt := 9) dX8_rule_4 (by decide) (by omega) (fun h4 => ?_) (fun h4 => ?_)
  · have g1 := (hb1.resolve_right (fun z => by have := z.1; omega)).2
    clear hb1
    refine z_iload_n dX8_rule_9 rfl rfl ?_
    refine z_calls (N := MX8_numbersOf) (nas := 1) (as := [_]) dX8_rule_10 w_565 w_563 w_564 w_1 (by decide +kernel) rfl rfl (Nat.le_of_ble_eq_true rfl) (by decide) (by decide) (ZC.mono (cMX8_numbersOf (by omega)) ?_)
    rintro _ _ ⟨rfl, rfl⟩
    refine z_astore_n dX8_rule_13 rfl (by decide) rfl ?_
    have hnb := ruleN_bd q
    refine z_iload_n dX8_rule_14 rfl rfl ?_
    refine c_if_lt (tgt := 24) dX8_rule_15 (by decide) (by omega) (fun h15 => ?_) (fun h15 => ?_)
    · refine c_bipush dX8_rule_24 (by decide) ?_
      refine z_goto (tgt := 32) dX8_rule_26 (by decide) ?_
      refine c_ireturn dX8_rule_32 rfl ?_
      subst hQ0; unfold aRule; rw [cif_pos (by omega)]; first | (rw [cif_neg (by omega)]; exact PW_id hW) | (rw [cif_pos (by omega), Int.toNat_of_nonneg (by omega)]; exact PW_id hW)
    · refine z_iload_n dX8_rule_18 rfl rfl ?_
      refine z_aload_n dX8_rule_19 rfl rfl ?_
      refine c_alen_old dX8_rule_20 (by omega) (hO q (by omega) (by omega)) ?_
      refine c_icmp_lt (tgt := 29) dX8_rule_21 (by decide) (by omega) (by omega) (fun h21 => ?_) (fun h21 => ?_)
      · refine z_aload_n dX8_rule_29 rfl rfl ?_
        refine z_iload_n dX8_rule_30 rfl rfl ?_
        refine c_iald_old dX8_rule_31 (by omega) (hO q (by omega) (by omega)) (by omega) (by omega) ?_
        refine c_ireturn dX8_rule_32 rfl ?_
        subst hQ0; unfold aRule; rw [cif_pos (by omega)]; first | (rw [cif_neg (by omega)]; exact PW_id hW) | (rw [cif_pos (by omega), Int.toNat_of_nonneg (by omega)]; exact PW_id hW)
      · refine c_bipush dX8_rule_24 (by decide) ?_
        refine z_goto (tgt := 32) dX8_rule_26 (by decide) ?_
        refine c_ireturn dX8_rule_32 rfl ?_
        subst hQ0; unfold aRule; rw [cif_pos (by omega)]; first | (rw [cif_neg (by omega)]; exact PW_id hW) | (rw [cif_pos (by omega), Int.toNat_of_nonneg (by omega)]; exact PW_id hW)
  · have g1 := (hb1.resolve_left (fun z => by have := z.1; omega)).2
    clear hb1
    refine c_iconst dX8_rule_7 ?_
    refine c_ireturn dX8_rule_8 rfl ?_
    subst hQ0; unfold aRule; rw [cif_neg (by omega)]; exact PW_id hW
set_option maxHeartbeats 4000000 in
set_option maxRecDepth 100000 in
theorem cMX8_lackingOf {t cc : Nat} {f : Nat → Int} (hK : (KF Kd t).1 = 16) (hR : RF Rd t 0 = some cc) (hKc : KF Kd cc = (1, 101)) (hf : ∀ m : Nat, m ≤ 100 → J cc m = f m ∧ 0 ≤ f m ∧ f m ≤ 2000000) (hO : ORUL g) {q i : Int} (hq : 0 ≤ q ∧ q < 3) (hi : rI i) : ZC g l MX8_lackingOf [.ref t, .int (iZ q), .int (iZ i)] (KF Kd, zi J, zj P, RF Rd, n, s0) (fun rr hh => rr = some (.int (iZ (lckD f q i (ruleN q).toNat 0))) ∧ hh = (KF Kd, zi J, zj P, RF Rd, n, s0)) := by
  refine ZC.of (by decide) (Nat.le_of_ble_eq_true rfl) ?_
  generalize hQ0 : (fun rr hh => rr = some (.int (iZ (lckD f q i (ruleN q).toNat 0))) ∧ hh = (KF Kd, zi J, zj P, RF Rd, n, s0) : Option Value → ZH → Prop) = Q0
  show Z g l MX8_lackingOf 0 [some (.ref t), some (.int (iZ q)), some (.int (iZ i)), none, none, none] [] (KF Kd, zi J, zj P, RF Rd, n, s0) Q0
  have hnb := ruleN_bd q
  refine z_iload_n dX8_lackingOf_0 rfl rfl ?_
  refine z_calls (N := MX8_numbersOf) (nas := 1) (as := [_]) dX8_lackingOf_1 w_565 w_563 w_564 w_1 (by decide +kernel) rfl rfl (Nat.le_of_ble_eq_true rfl) (by decide) (by decide) (ZC.mono (cMX8_numbersOf (by omega)) ?_)
  rintro _ _ ⟨rfl, rfl⟩
  refine z_astore_n dX8_lackingOf_4 rfl (by decide) rfl ?_
  refine c_iconst dX8_lackingOf_5 ?_
  refine z_istore dX8_lackingOf_6 (by decide) rfl ?_
  refine c_iconst dX8_lackingOf_8 ?_
  refine z_istore dX8_lackingOf_9 (by decide) rfl ?_
  have L11 : ∀ (m11 : Nat), ∀ (p w : Int), (ruleN q - p).toNat = m11 → (0 ≤ p ∧ p ≤ ruleN q) → (0 ≤ w ∧ w ≤ p) → (lckD f q i (ruleN q).toNat 0 = lckD f q i (ruleN q - p).toNat w) → Z g l MX8_lackingOf 11 [some (.ref t), some (.int (iZ q)), some (.int (iZ i)), some (.ref (q.toNat + 1)), some (.int (iZ w)), some (.int (iZ p))] [] (KF Kd, zi J, zj P, RF Rd, n, s0) Q0 := by
    intro m11
    induction m11 using Nat.strongRecOn with
    | ind m11 ih11 =>
      intro p w hm11 hp hw hd
      refine z_iload dX8_lackingOf_11 rfl ?_
      refine z_aload_n dX8_lackingOf_13 rfl rfl ?_
      refine c_alen_old dX8_lackingOf_14 (by omega) (hO q (by omega) (by omega)) ?_
      refine c_icmp_ge (tgt := 50) dX8_lackingOf_15 (by decide) (by omega) (by omega) (fun h15 => ?_) (fun h15 => ?_)
      · refine c_bipush dX8_lackingOf_50 (by decide) ?_
        refine c_ireturn dX8_lackingOf_52 rfl ?_
        subst hQ0; refine ⟨?_, rfl⟩; rw [hd, show (ruleN q - p).toNat = 0 by omega]; rfl
      · refine z_aload_n dX8_lackingOf_18 rfl rfl ?_
        refine z_getR (ci := 6) (kf := 0) dX8_lackingOf_19 hK (by decide) (by decide) rfl w_484 hR ?_
        refine z_aload_n dX8_lackingOf_22 rfl rfl ?_
        refine z_iload dX8_lackingOf_23 rfl ?_
        refine c_iald_old dX8_lackingOf_25 (by omega) (hO q (by omega) (by omega)) (by omega) (by omega) ?_
        have ha := ruleA_bd (i := ((p.toNat : Nat) : Int)) hq (by omega)
        have hfa := hf (ruleA q ((p.toNat : Nat) : Int)).toNat (by omega)
        have hdd : lckD f q i (ruleN q - p).toNat w = if f (ruleA q ((p.toNat : Nat) : Int)).toNat = 0 then (if w = i then ruleA q ((p.toNat : Nat) : Int) else lckD f q i (ruleN q - (p + 1)).toNat (w + 1)) else lckD f q i (ruleN q - (p + 1)).toNat w := by
          rw [show (ruleN q - p).toNat = (ruleN q - (p + 1)).toNat + 1 by omega, lckD, show ruleN q - (((ruleN q - (p + 1)).toNat + 1 : Nat) : Int) = ((p.toNat : Nat) : Int) by omega]
        refine c_iald dX8_lackingOf_26 hKc (by omega) (by decide) ?_
        rw [hfa.1]
        refine c_if_ne (tgt := 44) dX8_lackingOf_27 (by decide) (by omega) (fun h27 => ?_) (fun h27 => ?_)
        · refine c_iinc dX8_lackingOf_44 rfl (by decide) rfl ?_
          refine z_goto (tgt := 11) dX8_lackingOf_47 (by decide) ?_
          exact Z.fg2 (ih11 _ (by omega) _ _ rfl (by omega) (by omega) (by first | (rw [hd, hdd, if_neg (by omega)]; done) | (rw [hd, hdd, if_pos (by omega), if_neg (by omega)]; done))) (zs1 rfl (zs1 rfl (zs1 rfl (zs1 rfl (zs1 rfl (zs1 rfl zs0))))))
        · refine z_iload dX8_lackingOf_30 rfl ?_
          refine z_iload_n dX8_lackingOf_32 rfl rfl ?_
          refine c_icmp_ne (tgt := 41) dX8_lackingOf_33 (by decide) (by omega) (by omega) (fun h33 => ?_) (fun h33 => ?_)
          · refine c_iinc dX8_lackingOf_41 rfl (by decide) rfl ?_
            refine c_iinc dX8_lackingOf_44 rfl (by decide) rfl ?_
            refine z_goto (tgt := 11) dX8_lackingOf_47 (by decide) ?_
            exact Z.fg2 (ih11 _ (by omega) _ _ rfl (by omega) (by omega) (by first | (rw [hd, hdd, if_neg (by omega)]; done) | (rw [hd, hdd, if_pos (by omega), if_neg (by omega)]; done))) (zs1 rfl (zs1 rfl (zs1 rfl (zs1 rfl (zs1 rfl (zs1 rfl zs0))))))
          · refine z_aload_n dX8_lackingOf_36 rfl rfl ?_
            refine z_iload dX8_lackingOf_37 rfl ?_
            refine c_iald_old dX8_lackingOf_39 (by omega) (hO q (by omega) (by omega)) (by omega) (by omega) ?_
            refine c_ireturn dX8_lackingOf_40 rfl ?_
            subst hQ0; refine ⟨?_, rfl⟩; rw [hd, hdd, if_pos (by omega), if_pos (by omega)]
  exact Z.fg2 (L11 _ _ _ rfl (by omega) (by omega) (by rw [Int.sub_zero])) (zs1 rfl (zs1 rfl (zs1 rfl (zs1 rfl (zs1 rfl (zs1 rfl zs0))))))
set_option maxHeartbeats 4000000 in
set_option maxRecDepth 100000 in
theorem cMX8_isClaimed {t cc : Nat} {f : Nat → Int} (hK : (KF Kd t).1 = 16) (hR : RF Rd t 0 = some cc) (hKc : KF Kd cc = (1, 101)) (hf : ∀ m : Nat, m ≤ 100 → J cc m = f m ∧ 0 ≤ f m ∧ f m ≤ 2000000) (hO : ORUL g) {q : Int} (hq : 0 ≤ q ∧ q < 3) : ZC g l MX8_isClaimed [.ref t, .int (iZ q)] (KF Kd, zi J, zj P, RF Rd, n, s0) (fun rr hh => ∃ b : Int, hh = (KF Kd, zi J, zj P, RF Rd, n, s0) ∧ rr = some (.int (iZ b)) ∧ (b = 1 ∧ (lackN f q (ruleN q).toNat = 0) ∨ b = 0 ∧ ¬ (lackN f q (ruleN q).toNat = 0))) := by
  refine ZC.of (by decide) (Nat.le_of_ble_eq_true rfl) ?_
  generalize hQ0 : (fun rr hh => ∃ b : Int, hh = (KF Kd, zi J, zj P, RF Rd, n, s0) ∧ rr = some (.int (iZ b)) ∧ (b = 1 ∧ (lackN f q (ruleN q).toNat = 0) ∨ b = 0 ∧ ¬ (lackN f q (ruleN q).toNat = 0)) : Option Value → ZH → Prop) = Q0
  show Z g l MX8_isClaimed 0 [some (.ref t), some (.int (iZ q))] [] (KF Kd, zi J, zj P, RF Rd, n, s0) Q0
  refine z_aload_n dX8_isClaimed_0 rfl rfl ?_
  refine z_iload_n dX8_isClaimed_1 rfl rfl ?_
  refine c_iconst dX8_isClaimed_2 ?_
  refine z_calls (N := MX8_lackingOf) (nas := 3) (as := [_, _, _]) dX8_isClaimed_3 w_581 w_579 w_580 w_1 (by decide +kernel) rfl rfl (Nat.le_of_ble_eq_true rfl) (by decide) (by decide) (ZC.mono (cMX8_lackingOf hK hR hKc hf hO (i := 0) hq (by omega)) ?_)
  rintro _ _ ⟨rfl, rfl⟩
  have hbd := lckD_bd (f := f) (i := 0) hq (ruleN q).toNat 0 (by have := ruleN_bd q; omega)
  have hcl := lck_claim (f := f) hq
  refine c_bipush dX8_isClaimed_6 (by decide) ?_
  refine c_icmp_ne (tgt := 15) dX8_isClaimed_8 (by decide) (by omega) (by omega) (fun h8 => ?_) (fun h8 => ?_)
  · refine c_iconst dX8_isClaimed_15 ?_
    refine c_zreturn dX8_isClaimed_16 rfl (by omega) ?_
    subst hQ0; refine ⟨_, rfl, rfl, ?_⟩; first | exact Or.inl ⟨rfl, hcl.mp (by omega)⟩ | exact Or.inr ⟨rfl, fun z => absurd (hcl.mpr z) (by omega)⟩
  · refine c_iconst dX8_isClaimed_11 ?_
    refine z_goto (tgt := 16) dX8_isClaimed_12 (by decide) ?_
    refine c_zreturn dX8_isClaimed_16 rfl (by omega) ?_
    subst hQ0; refine ⟨_, rfl, rfl, ?_⟩; first | exact Or.inl ⟨rfl, hcl.mp (by omega)⟩ | exact Or.inr ⟨rfl, fun z => absurd (hcl.mpr z) (by omega)⟩
set_option maxHeartbeats 4000000 in
set_option maxRecDepth 100000 in
theorem cMX8_claim {s q : Int} (hs : rI s) (hq : rI q) (hO : ORUL g) (hW : WD A c Kd J Rd n s0) : ZC g l MX8_claim [.ref 4, .int (iZ s), .int (iZ q)] (KF Kd, zi J, zj P, RF Rd, n, s0) (PW A (c + 1) J P (.int (iZ (aClaim A s q)))) := by
  refine ZC.of (by decide) (Nat.le_of_ble_eq_true rfl) ?_
  generalize hQ0 : (PW A (c + 1) J P (.int (iZ (aClaim A s q))) : Option Value → ZH → Prop) = Q0
  show Z g l MX8_claim 0 [some (.ref 4), some (.int (iZ s)), some (.int (iZ q)), none] [] (KF Kd, zi J, zj P, RF Rd, n, s0) Q0
  refine z_aload_n dX8_claim_0 rfl rfl ?_
  refine z_iload_n dX8_claim_1 rfl rfl ?_
  refine z_callv (N := MX8_held) (ci := 8) (nas := 1) (as := [_]) dX8_claim_2 w_333 w_330 w_332 ws_2 w_1 (by decide +kernel) rfl rfl rfl (by decide) (Nat.le_of_ble_eq_true rfl) (by decide) (by decide) (ZC.mono (cMX8_held (by omega) hW) ?_)
  rintro _ _ ⟨rfl, hd2⟩
  rcases hd2 with ⟨hf2, rfl⟩ | ⟨hf2, r2, rfl, hr2⟩
  · skip
    refine z_astore_nN dX8_claim_5 rfl (by decide) rfl ?_
    refine z_aload_nN dX8_claim_6 rfl rfl ?_
    refine z_ifnullN (tgt := 17) dX8_claim_7 (by decide) ?_
    refine c_iconst dX8_claim_17 ?_
    refine c_ireturn dX8_claim_18 rfl ?_
    subst hQ0; unfold aClaim; rw [cif_neg (by omega)]; exact PW_id hW
  · have hK2 := FA_K1 hr2.1
    have hE2 := WD_ent hW hr2.1
    have hF2 := FA_okF hW hr2
    have hl2 := hF2.2.1
    refine z_astore_n dX8_claim_5 rfl (by decide) rfl ?_
    refine z_aload_n dX8_claim_6 rfl rfl ?_
    refine z_ifnull dX8_claim_7 ?_
    refine z_iload_n dX8_claim_10 rfl rfl ?_
    refine z_calls (N := MX8_isRule) (nas := 1) (as := [_]) dX8_claim_11 w_562 w_560 w_561 w_1 (by decide +kernel) rfl rfl (Nat.le_of_ble_eq_true rfl) (by decide) (by decide) (ZC.mono (cMX8_isRule (by omega)) ?_)
    rintro _ _ ⟨b11, rfl, rfl, hb11⟩
    refine c_if_ne (tgt := 19) dX8_claim_14 (by decide) (by omega) (fun h14 => ?_) (fun h14 => ?_)
    · have g11 := (hb11.resolve_right (fun z => by have := z.1; omega)).2
      clear hb11
      refine z_aload_n dX8_claim_19 rfl rfl ?_
      refine z_aload_n dX8_claim_20 rfl rfl ?_
      refine z_callv (N := MX8_takenBy) (ci := 8) (nas := 1) (as := [_]) dX8_claim_21 w_445 w_442 w_444 ws_3 w_1 (by decide +kernel) rfl rfl rfl (by decide) (Nat.le_of_ble_eq_true rfl) (by decide) (by decide) (ZC.mono (cMX8_takenBy hr2.1 hW) ?_)
      rintro _ _ ⟨K21, J21, P21, R21, n21, s21, t21, c21, f21, rfl, rfl, hW21, hE21, hD21, hk21, hP21⟩
      have hT21 := TK_pub hr2 hF2 hD21
      refine z_iload_n dX8_claim_24 rfl rfl ?_
      refine z_calls (N := MX8_isClaimed) (nas := 2) (as := [_, _]) dX8_claim_25 w_578 w_576 w_577 w_1 (by decide +kernel) rfl rfl (Nat.le_of_ble_eq_true rfl) (by decide) (by decide) (ZC.mono (cMX8_isClaimed (f := (cF (A 44 s.toNat) (eE A s))) hD21.1.1 hD21.1.2.1 hD21.2.2.1.1 hT21.1 hO (q := q) (by omega)) ?_)
      rintro _ _ ⟨b25, rfl, rfl, hb25⟩
      refine c_if_eq (tgt := 35) dX8_claim_28 (by decide) (by omega) (fun h28 => ?_) (fun h28 => ?_)
      · have g25 := (hb25.resolve_left (fun z => by have := z.1; omega)).2
        clear hb25
        refine c_iconst dX8_claim_35 ?_
        refine c_ireturn dX8_claim_36 rfl ?_
        subst hQ0; unfold aClaim; rw [cif_pos (by omega)]; first | (rw [if_pos g25]; exact ⟨rfl, _, _, _, _, _, _, rfl, WD_mono hW21, cs_Ev hE21, fun a a1 a2 => hP21 a (by omega) a2⟩) | (rw [if_neg g25]; exact ⟨rfl, _, _, _, _, _, _, rfl, WD_mono hW21, cs_Ev hE21, fun a a1 a2 => hP21 a (by omega) a2⟩)
      · have g25 := (hb25.resolve_right (fun z => by have := z.1; omega)).2
        clear hb25
        refine c_iconst dX8_claim_31 ?_
        refine z_goto (tgt := 36) dX8_claim_32 (by decide) ?_
        refine c_ireturn dX8_claim_36 rfl ?_
        subst hQ0; unfold aClaim; rw [cif_pos (by omega)]; first | (rw [if_pos g25]; exact ⟨rfl, _, _, _, _, _, _, rfl, WD_mono hW21, cs_Ev hE21, fun a a1 a2 => hP21 a (by omega) a2⟩) | (rw [if_neg g25]; exact ⟨rfl, _, _, _, _, _, _, rfl, WD_mono hW21, cs_Ev hE21, fun a a1 a2 => hP21 a (by omega) a2⟩)
    · have g11 := (hb11.resolve_left (fun z => by have := z.1; omega)).2
      clear hb11
      refine c_iconst dX8_claim_17 ?_
      refine c_ireturn dX8_claim_18 rfl ?_
      subst hQ0; unfold aClaim; rw [cif_neg (by omega)]; exact PW_id hW
set_option maxHeartbeats 4000000 in
set_option maxRecDepth 100000 in
theorem cMX8_lacks {s q i : Int} (hs : rI s) (hq : rI q) (hi : rI i) (hO : ORUL g) (hW : WD A c Kd J Rd n s0) : ZC g l MX8_lacks [.ref 4, .int (iZ s), .int (iZ q), .int (iZ i)] (KF Kd, zi J, zj P, RF Rd, n, s0) (PW A (c + 1) J P (.int (iZ (aLacks A s q i)))) := by
  refine ZC.of (by decide) (Nat.le_of_ble_eq_true rfl) ?_
  generalize hQ0 : (PW A (c + 1) J P (.int (iZ (aLacks A s q i))) : Option Value → ZH → Prop) = Q0
  show Z g l MX8_lacks 0 [some (.ref 4), some (.int (iZ s)), some (.int (iZ q)), some (.int (iZ i)), none] [] (KF Kd, zi J, zj P, RF Rd, n, s0) Q0
  refine z_aload_n dX8_lacks_0 rfl rfl ?_
  refine z_iload_n dX8_lacks_1 rfl rfl ?_
  refine z_callv (N := MX8_held) (ci := 8) (nas := 1) (as := [_]) dX8_lacks_2 w_333 w_330 w_332 ws_2 w_1 (by decide +kernel) rfl rfl rfl (by decide) (Nat.le_of_ble_eq_true rfl) (by decide) (by decide) (ZC.mono (cMX8_held (by omega) hW) ?_)
  rintro _ _ ⟨rfl, hd2⟩
  rcases hd2 with ⟨hf2, rfl⟩ | ⟨hf2, r2, rfl, hr2⟩
  · skip
    refine z_astoreN dX8_lacks_5 (by decide) rfl ?_
    refine z_aloadN dX8_lacks_7 rfl ?_
    refine z_ifnullN (tgt := 19) dX8_lacks_9 (by decide) ?_
    refine c_iconst dX8_lacks_19 ?_
    refine c_ireturn dX8_lacks_20 rfl ?_
    subst hQ0; unfold aLacks; rw [cif_neg (by omega)]; exact PW_id hW
  · have hK2 := FA_K1 hr2.1
    have hE2 := WD_ent hW hr2.1
    have hF2 := FA_okF hW hr2
    have hl2 := hF2.2.1
    refine z_astore dX8_lacks_5 (by decide) rfl ?_
    refine z_aload dX8_lacks_7 rfl ?_
    refine z_ifnull dX8_lacks_9 ?_
    refine z_iload_n dX8_lacks_12 rfl rfl ?_
    refine z_calls (N := MX8_isRule) (nas := 1) (as := [_]) dX8_lacks_13 w_562 w_560 w_561 w_1 (by decide +kernel) rfl rfl (Nat.le_of_ble_eq_true rfl) (by decide) (by decide) (ZC.mono (cMX8_isRule (by omega)) ?_)
    rintro _ _ ⟨b13, rfl, rfl, hb13⟩
    refine c_if_ne (tgt := 21) dX8_lacks_16 (by decide) (by omega) (fun h16 => ?_) (fun h16 => ?_)
    · have g13 := (hb13.resolve_right (fun z => by have := z.1; omega)).2
      clear hb13
      refine z_aload_n dX8_lacks_21 rfl rfl ?_
      refine z_aload dX8_lacks_22 rfl ?_
      refine z_callv (N := MX8_takenBy) (ci := 8) (nas := 1) (as := [_]) dX8_lacks_24 w_445 w_442 w_444 ws_3 w_1 (by decide +kernel) rfl rfl rfl (by decide) (Nat.le_of_ble_eq_true rfl) (by decide) (by decide) (ZC.mono (cMX8_takenBy hr2.1 hW) ?_)
      rintro _ _ ⟨K24, J24, P24, R24, n24, s24, t24, c24, f24, rfl, rfl, hW24, hE24, hD24, hk24, hP24⟩
      have hT24 := TK_pub hr2 hF2 hD24
      refine z_iload_n dX8_lacks_27 rfl rfl ?_
      refine z_iload_n dX8_lacks_28 rfl rfl ?_
      refine z_calls (N := MX8_lackingOf) (nas := 3) (as := [_, _, _]) dX8_lacks_29 w_581 w_579 w_580 w_1 (by decide +kernel) rfl rfl (Nat.le_of_ble_eq_true rfl) (by decide) (by decide) (ZC.mono (cMX8_lackingOf (f := (cF (A 44 s.toNat) (eE A s))) hD24.1.1 hD24.1.2.1 hD24.2.2.1.1 hT24.1 hO (q := q) (i := i) (by omega) hi) ?_)
      rintro _ _ ⟨rfl, rfl⟩
      refine c_ireturn dX8_lacks_32 rfl ?_
      subst hQ0; unfold aLacks; rw [cif_pos (by omega)]; exact ⟨rfl, _, _, _, _, _, _, rfl, WD_mono hW24, cs_Ev hE24, fun a a1 a2 => hP24 a (by omega) a2⟩
    · have g13 := (hb13.resolve_left (fun z => by have := z.1; omega)).2
      clear hb13
      refine c_iconst dX8_lacks_19 ?_
      refine c_ireturn dX8_lacks_20 rfl ?_
      subst hQ0; unfold aLacks; rw [cif_neg (by omega)]; exact PW_id hW
end Cls19
