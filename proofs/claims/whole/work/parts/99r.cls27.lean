section Cls27
variable {g : ZG} {l : Launch} {Kd : ZK} {Rd : ZR} {n s0 c : Nat} {A J P : Nat → Nat → Int}
/-- the bits of what was seen -/
def SeB (E : Nat → Int) (L : List V4) (b : Nat) : Prop := b < 65536 ∧ ∀ m : Nat, m ≤ 15 → (b.testBit m = true ↔ 0 < cntL E L m)
theorem SeB_nil (E : Nat → Int) : SeB E [] 0 := ⟨by decide, fun m _ => by rw [Nat.zero_testBit]; exact ⟨fun z => (by cases z), fun z => absurd z (by show ¬ (0 : Int) < 0; decide)⟩⟩
theorem SeB_step {E : Nat → Int} {L : List V4} {b : Nat} {v : V4} (h : SeB E L b) (hw : 0 ≤ wv E v ∧ wv E v ≤ 15) : SeB E (L ++ [v]) (b ||| 2 ^ (wv E v).toNat) := by
  refine ⟨Nat.or_lt_two_pow (n := 16) h.1 (Nat.pow_lt_pow_right (by decide) (by omega)), fun m hm => ?_⟩
  rw [or_bit, h.2 m hm, cntL_app]
  have b := (cntL_bd E L m).1
  by_cases e : wv E v = m
  · rw [if_pos e]
    exact ⟨fun _ => by omega, fun _ => Or.inr (by omega)⟩
  · rw [if_neg e]
    exact ⟨fun z => by rcases z with z | z <;> omega, fun z => Or.inl (by omega)⟩
theorem SeB_end {nl : Int} {E : Nat → Int} {b : Nat} (hn : 1 ≤ nl) (hO : okF nl E) (h : SeB E (hlf nl E 15) b) {m : Nat} (hm : m ≤ 15) : b.testBit m = true ↔ cF nl E m ≠ 0 := by
  rw [h.2 m hm, (hlf_cnt (tp := 15) hn hO (by omega) (m := m) (by omega)).1]
  have b := (cntL_bd E (hlf nl E 15) m).1
  split <;> omega
theorem ruleA_15 {i : Int} (hi : 0 ≤ i ∧ i < 9) : 1 ≤ ruleA 0 i ∧ ruleA 0 i ≤ 15 := by
  rcases (show i = 0 ∨ i = 1 ∨ i = 2 ∨ i = 3 ∨ i = 4 ∨ i = 5 ∨ i = 6 ∨ i = 7 ∨ i = 8 by omega) with rfl | rfl | rfl | rfl | rfl | rfl | rfl | rfl | rfl <;> decide
set_option maxHeartbeats 4000000 in
set_option maxRecDepth 100000 in
theorem cMX8_greatestLackOfDraft {nl : Int} {E : Nat → Int} (hn : 1 ≤ nl) (hO : okF nl E) (hOR : ORUL g) (hd0 : J 26 0 = nl) (hd1 : ∀ k, k < 16 → J 27 k = E k) : ZC g l MX8_greatestLackOfDraft [.ref 4] (KF Kd, zi J, zj P, RF Rd, n, s0) (fun rr hh => rr = some (.int (iZ (glD (cF nl E) 9))) ∧ ∃ J' P' : Nat → Nat → Int, hh = (KF Kd, zi J', zj P', RF Rd, n, s0) ∧ (∀ a, a ≠ 30 → a ≠ 35 → a ≠ 36 → J' a = J a) ∧ ∀ a, a ≠ 31 → a ≠ 32 → a ≠ 33 → a ≠ 34 → P' a = P a) := by
  refine ZC.of (by decide) (Nat.le_of_ble_eq_true rfl) ?_
  generalize hQ0 : (fun rr hh => rr = some (.int (iZ (glD (cF nl E) 9))) ∧ ∃ J' P' : Nat → Nat → Int, hh = (KF Kd, zi J', zj P', RF Rd, n, s0) ∧ (∀ a, a ≠ 30 → a ≠ 35 → a ≠ 36 → J' a = J a) ∧ ∀ a, a ≠ 31 → a ≠ 32 → a ≠ 33 → a ≠ 34 → P' a = P a : Option Value → ZH → Prop) = Q0
  show Z g l MX8_greatestLackOfDraft 0 [some (.ref 4), none, none] [] (KF Kd, zi J, zj P, RF Rd, n, s0) Q0
  have h4 := hO.1
  have hok := eW_ok (tp := 15) hn hO (by omega)
  have hlen := hlf_len (tp := 15) hn hO (by omega)
  have hrn : ruleN 0 = 9 := rfl
  refine z_aload_n dX8_greatestLackOfDraft_0 rfl rfl ?_
  refine z_getR (ci := 8) (kf := 7) dX8_greatestLackOfDraft_1 rfl (by decide) (by decide) rfl w_189 rfl ?_
  refine z_aload_n dX8_greatestLackOfDraft_4 rfl rfl ?_
  refine z_getR (ci := 8) (kf := 6) dX8_greatestLackOfDraft_5 rfl (by decide) (by decide) rfl w_188 rfl ?_
  refine c_getI (ci := 1) (kf := 0) dX8_greatestLackOfDraft_8 rfl (by decide) (by decide) rfl w_80 ?_
  rw [hd0]
  refine z_aload_n dX8_greatestLackOfDraft_11 rfl rfl ?_
  refine z_getR (ci := 8) (kf := 6) dX8_greatestLackOfDraft_12 rfl (by decide) (by decide) rfl w_188 rfl ?_
  refine z_getR (ci := 1) (kf := 1) dX8_greatestLackOfDraft_15 rfl (by decide) (by decide) rfl w_83 rfl ?_
  refine c_bipush dX8_greatestLackOfDraft_18 (by decide) ?_
  refine z_callv (N := MX2_openWorths) (ci := 2) (nas := 3) (as := [_, _, _]) dX8_greatestLackOfDraft_20 w_455 w_647 w_453 w_454 w_5 (by decide +kernel) rfl rfl rfl (by decide) (Nat.le_of_ble_eq_true rfl) (by decide) (by decide) (ZC.mono (cMX2_openWorths (nl := nl) (tp := 15) (E := E) (ee := 27) hn hO (by omega) rfl (by decide) hd1) ?_)
  rintro _ _ ⟨rfl, J9, P9, rfl, hE0, hrs0, h300, hoJ9, hoP9⟩
  refine c_iconst dX8_greatestLackOfDraft_23 ?_
  refine z_istore_n dX8_greatestLackOfDraft_24 rfl (by decide) rfl ?_
  refine c_iconst dX8_greatestLackOfDraft_25 ?_
  refine z_istore_n dX8_greatestLackOfDraft_26 rfl (by decide) rfl ?_
  have L27 : ∀ (m27 : Nat), ∀ (gd k0 : Int) (L1 L2 : List V4) (bits : Nat) (J1 P1 : Nat → Nat → Int), (((L2.length : Nat) : Int)).toNat = m27 → (gd = ((L1.length : Nat) : Int) ∧ L1.length + L2.length ≤ 1000000) → (hlf nl E 15 = L1 ++ L2) → (EI (eW nl E 15) J1 P1 k0) → (L2 = (eW nl E 15).rs (J1 35) (J1 36) (k0 + 1).toNat) → (J1 30 2 = 15) → (SeB E L1 bits) → (∀ a, a ≠ 30 → a ≠ 35 → a ≠ 36 → J1 a = J a) → (∀ a, a ≠ 31 → a ≠ 32 → a ≠ 33 → a ≠ 34 → P1 a = P a) → Z g l MX8_greatestLackOfDraft 27 [some (.ref 4), some (.int (iZ ((bits : Nat) : Int))), some (.int (iZ gd))] [] (KF Kd, zi J1, zj P1, RF Rd, n, s0) Q0 := by
    intro m27
    induction m27 using Nat.strongRecOn with
    | ind m27 ih27 =>
      intro gd k0 L1 L2 bits J1 P1 hm27 hg hH hEI hL2 hlm hS hoJ hoP
      refine z_iload_n dX8_greatestLackOfDraft_27 rfl rfl ?_
      refine c_ldc (z := 4000000) dX8_greatestLackOfDraft_28 w_427 (by decide) ?_
      refine c_icmp_ge (tgt := 61) dX8_greatestLackOfDraft_30 (by decide) (by omega) (by omega) (fun h30 => ?_) (fun h30 => ?_)
      · exact absurd h30 (by omega)
      · refine z_aload_n dX8_greatestLackOfDraft_33 rfl rfl ?_
        refine z_getR (ci := 8) (kf := 7) dX8_greatestLackOfDraft_34 rfl (by decide) (by decide) rfl w_189 rfl ?_
        refine z_callv (N := MX2_advance) (ci := 2) (nas := 0) (as := []) dX8_greatestLackOfDraft_37 w_472 w_648 w_470 w_471 w_5 (by decide +kernel) rfl rfl rfl (by decide) (Nat.le_of_ble_eq_true rfl) (by decide) (by decide) (ZC.mono (cMX2_advance (e := (eW nl E 15)) (L := L2) (k0 := k0) hok hEI hL2) ?_)
        rintro _ _ ⟨J2, P2, b37, rfl, rfl, hb37, hof⟩
        refine c_if_eq (tgt := 61) dX8_greatestLackOfDraft_40 (by decide) (by omega) (fun h40 => ?_) (fun h40 => ?_)
        · have hz := (hb37.resolve_left (fun z => by have := z.1; omega)).2
          rw [hz, List.append_nil] at hH
          rw [← hH] at hS
          have hSe := fun (m : Nat) (hm : m ≤ 15) => SeB_end hn hO hS hm
          refine z_static (r := 1) dX8_greatestLackOfDraft_61 (by simp) w_566 ?_
          refine c_alen_old dX8_greatestLackOfDraft_64 (by decide) (hOR 0 (by omega) (by omega)) ?_
          rw [show (((ruleN 0).toNat : Nat) : Int) = 9 from rfl]
          refine c_iconst dX8_greatestLackOfDraft_65 ?_
          refine c_isub dX8_greatestLackOfDraft_66 ?_
          refine z_istore_n dX8_greatestLackOfDraft_67 rfl (by decide) rfl ?_
          have L68 : ∀ (m68 : Nat), ∀ (p : Int), (p + 1).toNat = m68 → (-1 ≤ p ∧ p ≤ 8) → (glD (cF nl E) 9 = glD (cF nl E) (p + 1).toNat) → Z g l MX8_greatestLackOfDraft 68 [some (.ref 4), some (.int (iZ ((bits : Nat) : Int))), some (.int (iZ p))] [] (KF Kd, zi J2, zj P2, RF Rd, n, s0) Q0 := by
            intro m68
            induction m68 using Nat.strongRecOn with
            | ind m68 ih68 =>
              intro p hm68 hp hd
              refine z_iload_n dX8_greatestLackOfDraft_68 rfl rfl ?_
              refine c_if_lt (tgt := 96) dX8_greatestLackOfDraft_69 (by decide) (by omega) (fun h69 => ?_) (fun h69 => ?_)
              · refine c_iconst dX8_greatestLackOfDraft_96 ?_
                refine c_ireturn dX8_greatestLackOfDraft_97 rfl ?_
                subst hQ0; refine ⟨?_, J2, P2, rfl, fun a a1 a2 a3 => by rw [hof.1 a a1 a2 a3]; exact hoJ a a1 a2 a3, fun a a1 a2 a3 a4 => by rw [hof.2.2 a a3 a4]; exact hoP a a1 a2 a3 a4⟩; rw [hd, show (p + 1).toNat = 0 by omega]; rfl
              · refine z_iload_n dX8_greatestLackOfDraft_72 rfl rfl ?_
                refine z_static (r := 1) dX8_greatestLackOfDraft_73 (by simp) w_566 ?_
                refine z_iload_n dX8_greatestLackOfDraft_76 rfl rfl ?_
                have ha := ruleA_15 (i := ((p.toNat : Nat) : Int)) (by omega)
                refine c_iald_old dX8_greatestLackOfDraft_77 (by decide) (hOR 0 (by omega) (by omega)) (by omega) (by omega) ?_
                refine z_ishr dX8_greatestLackOfDraft_78 ?_
                refine c_iconst dX8_greatestLackOfDraft_79 ?_
                refine z_iand dX8_greatestLackOfDraft_80 ?_
                rw [iZ_bit (by have := hS.1; omega) (by omega) (by omega)]
                have hbt := hSe (ruleA 0 ((p.toNat : Nat) : Int)).toNat (by omega)
                have hgl : glD (cF nl E) (p + 1).toNat = if cF nl E (ruleA 0 ((p.toNat : Nat) : Int)).toNat = 0 then ruleA 0 ((p.toNat : Nat) : Int) else glD (cF nl E) p.toNat := by
                  rw [show (p + 1).toNat = p.toNat + 1 by omega, glD]
                have hib : (if (bits.testBit (ruleA 0 ((p.toNat : Nat) : Int)).toNat) then (1 : Int) else 0) = 0 ↔ cF nl E (ruleA 0 ((p.toNat : Nat) : Int)).toNat = 0 := by
                  cases hq : bits.testBit (ruleA 0 ((p.toNat : Nat) : Int)).toNat
                  · rw [hq] at hbt; exact ⟨fun _ => Classical.byContradiction (fun z => by have := hbt.mpr z; cases this), fun _ => rfl⟩
                  · rw [hq] at hbt; exact ⟨fun z => absurd z (by decide), fun z => absurd z (hbt.mp rfl)⟩
                refine c_if_ne (tgt := 90) dX8_greatestLackOfDraft_81 (by decide) (by split <;> omega) (fun h81 => ?_) (fun h81 => ?_)
                · refine c_iinc dX8_greatestLackOfDraft_90 rfl (by decide) rfl ?_
                  refine z_goto (tgt := 68) dX8_greatestLackOfDraft_93 (by decide) ?_
                  exact Z.fg2 (ih68 _ (by omega) _ rfl (by omega) (by rw [hd, hgl, if_neg (fun z => h81 (hib.mpr z)), show p + -1 + 1 = p by omega])) (zs1 rfl (zs1 rfl (zs1 rfl zs0)))
                · refine z_static (r := 1) dX8_greatestLackOfDraft_84 (by simp) w_566 ?_
                  refine z_iload_n dX8_greatestLackOfDraft_87 rfl rfl ?_
                  refine c_iald_old dX8_greatestLackOfDraft_88 (by decide) (hOR 0 (by omega) (by omega)) (by omega) (by omega) ?_
                  refine c_ireturn dX8_greatestLackOfDraft_89 rfl ?_
                  subst hQ0; refine ⟨?_, J2, P2, rfl, fun a a1 a2 a3 => by rw [hof.1 a a1 a2 a3]; exact hoJ a a1 a2 a3, fun a a1 a2 a3 a4 => by rw [hof.2.2 a a3 a4]; exact hoP a a1 a2 a3 a4⟩; rw [hd, hgl, if_pos (hib.mp (Classical.not_not.mp h81))]
          exact Z.fg2 (L68 _ _ rfl (by omega) rfl) (zs1 rfl (zs1 rfl (zs1 rfl zs0)))
        · obtain ⟨hb1, L3, k3, hL3, hE3, hr3, hP3, hs3⟩ := hb37.resolve_right (fun z => h40 z.1)
          have hv : (tupN nl.toNat (J2 35)) ∈ hlf nl E 15 := by rw [hH, hL3]; exact List.mem_append_right _ List.mem_cons_self
          have hwv := hlf_mem hn hO (by omega) hv
          have hwe : P2 33 (eW nl E 15).n = 15 - wv E (tupN nl.toNat (J2 35)) := by rw [hP3]; exact lW_end hn hO (J2 35)
          have h302 : J2 30 2 = 15 := by rw [hof.2.1 2 (by decide)]; exact hlm
          have hl3 : L2.length = L3.length + 1 := by rw [hL3, List.length_cons]
          refine z_iload_n dX8_greatestLackOfDraft_43 rfl rfl ?_
          refine c_iconst dX8_greatestLackOfDraft_44 ?_
          refine z_aload_n dX8_greatestLackOfDraft_45 rfl rfl ?_
          refine z_getR (ci := 8) (kf := 7) dX8_greatestLackOfDraft_46 rfl (by decide) (by decide) rfl w_189 rfl ?_
          refine z_callv (N := MX2_worthHere) (ci := 2) (nas := 0) (as := []) dX8_greatestLackOfDraft_49 w_481 w_649 w_479 w_480 w_5 (by decide +kernel) rfl rfl rfl (by decide) (Nat.le_of_ble_eq_true rfl) (by decide) (by decide) (ZC.mono (cMX2_worthHere (e := (eW nl E 15)) (tp := 15) (w := 15 - wv E (tupN nl.toNat (J2 35))) hE3.1.1 (by show nl.toNat ≤ 4; omega) h302 hwe) ?_)
          rintro _ _ ⟨rfl, rfl⟩
          rw [show (15 : Int) - (15 - wv E (tupN nl.toNat (J2 35))) = wv E (tupN nl.toNat (J2 35)) by omega]
          refine z_ishl dX8_greatestLackOfDraft_52 ?_
          refine z_ior dX8_greatestLackOfDraft_53 ?_
          rw [iZ_sh (by omega) (by omega), iZ_or]
          have hS3 := SeB_step (v := (tupN nl.toNat (J2 35))) hS hwv
          refine z_istore_n dX8_greatestLackOfDraft_54 rfl (by decide) rfl ?_
          refine c_iinc dX8_greatestLackOfDraft_55 rfl (by decide) rfl ?_
          refine z_goto (tgt := 27) dX8_greatestLackOfDraft_58 (by decide) ?_
          exact Z.fg2 (ih27 _ (by omega) _ k3 (L1 ++ [(tupN nl.toNat (J2 35))]) L3 _ _ _ rfl ⟨by rw [List.length_append, hg.1]; simp, by rw [List.length_append, List.length_singleton]; omega⟩ (by rw [hH, hL3, List.append_assoc]; rfl) hE3 hr3 h302 hS3 (fun a a1 a2 a3 => by rw [hof.1 a a1 a2 a3]; exact hoJ a a1 a2 a3) (fun a a1 a2 a3 a4 => by rw [hof.2.2 a a3 a4]; exact hoP a a1 a2 a3 a4)) (zs1 rfl (zs1 rfl (zs1 rfl zs0)))
  exact Z.fg2 (L27 _ 0 0 [] (hlf nl E 15) 0 _ _ rfl ⟨rfl, by rw [List.length_nil]; omega⟩ rfl hE0 (by rw [show ((0 : Int) + 1).toNat = 1 from rfl, hrs0]; exact (hlf_any hn hO (by omega) _).symm) h300 (SeB_nil E) hoJ9 hoP9) (zs1 rfl (zs1 rfl (zs1 rfl zs0)))
end Cls27
