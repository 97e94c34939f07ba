section Ref20
variable {g : ZG} {l : Launch} {Kd : ZK} {Rd : ZR} {n s0 : Nat} {J P : Nat → Nat → Int}
/-- a child stands ready -/
def KidNew (J : Nat → Nat → Int) (nl : Int) (E : Nat → Int) (t : Int) (x : V4) : Prop := J 44 72 = nl + 1 ∧ (∀ k, k < 16 → J 43 (1152 + k) = chE nl.toNat E t x k) ∧ lawS (nl + 1) (chE nl.toNat E t x)
/-- whose children are gone through -/
def Par (J : Nat → Nat → Int) (p nl : Int) (E : Nat → Int) (t : Int) : Prop := J 42 22 = p ∧ (0 ≤ p ∧ p < 72) ∧ J 44 p.toNat = nl ∧ (1 ≤ nl ∧ nl ≤ 3) ∧ (∀ k, k < 16 → J 43 (16 * p.toNat + k) = E k) ∧ J 42 23 = t ∧ (0 ≤ t ∧ t ≤ 100) ∧ entS E
theorem Par_off {J J' : Nat → Nat → Int} {p nl t : Int} {E : Nat → Int} (h : Par J p nl E t) (ho : offK J J') : Par J' p nl E t := by
  obtain ⟨h1, h2, h3, h4, h5, h6, h7, h8⟩ := h
  exact ⟨by rw [ho.2.2.2 22 (by decide) (by decide) (by decide) (by decide)]; exact h1, h2, by rw [ho.2.2.1 _ (by omega)]; exact h3, h4, fun k hk => by rw [ho.2.1 _ (by omega)]; exact h5 k hk, by rw [ho.2.2.2 23 (by decide) (by decide) (by decide) (by decide)]; exact h6, h7, h8⟩
theorem chR_rng {nl : Nat} {E : Nat → Int} {x : V4} (hE : entS E) (hx : ∀ i : Nat, i < 3 → -99 ≤ vAt x i ∧ vAt x i ≤ 99) : ∀ i, i ≤ 3 → entS (chR nl E x i)
  | 0, _ => hE
  | i + 1, h => setE_rng (chR_rng hE hx i (by omega)) (hx i (by omega))
theorem chE_rng {nl : Nat} {E : Nat → Int} {x : V4} {t : Int} (hn : nl ≤ 3) (hE : entS E) (hx : ∀ i : Nat, i < 3 → -99 ≤ vAt x i ∧ vAt x i ≤ 99) (ht : 0 ≤ t ∧ t ≤ 100) : ∀ k, k < 16 → -2147483647 ≤ chE nl E t x k ∧ chE nl E t x k ≤ 2147483647 := fun k hk => by
  have := chR_rng (nl := nl) hE hx nl hn k hk
  unfold chE setE
  repeat' split
  all_goals omega
theorem j_isLawful {nl : Int} {E : Nat → Int} (hn : 0 ≤ nl ∧ nl ≤ 4) (hR : ∀ k, k < 16 → -2147483647 ≤ E k ∧ E k ≤ 2147483647) : ZC g l MX9_isLawful [.ref 42, .int (iZ 72)] (KF Kd, zi (jput J (72 : Int).toNat nl E), zj P, RF Rd, n, s0) (fun rr hh => ∃ P' b, hh = (KF Kd, zi (jput J (72 : Int).toNat nl E), zj P', RF Rd, n, s0) ∧ rr = some (.int (iZ b)) ∧ ((b = 1 ∧ lawS nl E) ∨ (b = 0 ∧ ¬ lawS nl E)) ∧ offP P P') := by
  have e : ∀ k, k < 16 → eE (jput J (72 : Int).toNat nl E) 72 k = E k := fun k hk => eE_jput rfl hk
  refine ZC.mono (cMX9_isLawful (p := 72) (by omega) (by rw [jput_let]; exact hn) (fun k hk => by rw [e k hk]; exact hR k hk)) ?_
  rintro _ _ ⟨P', b, rfl, rfl, hb, _, ho⟩
  rw [jput_let, lawS_congr hn.2 e] at hb
  exact ⟨P', b, rfl, rfl, hb, ho⟩
theorem RowSt_new {J : Nat → Nat → Int} {nl : Int} {E : Nat → Int} {rest : List V4} (h : RowSt J rest) : RowSt (jput J (72 : Int).toNat nl E) rest := by
  unfold RowSt
  rw [jput_off (by decide) (by decide), jput_off (by decide) (by decide), jput_off (by decide) (by decide)]; exact h
set_option maxHeartbeats 4000000 in
set_option maxRecDepth 100000 in
theorem cMX9_nextChild {p nl t : Int} {E : Nat → Int} {rest : List V4} (hS : RowSt J rest) (hPar : Par J p nl E t) : ZC g l MX9_nextChild [.ref 42] (KF Kd, zi J, zj P, RF Rd, n, s0) (fun rr hh => ∃ J' P' b, hh = (KF Kd, zi J', zj P', RF Rd, n, s0) ∧ rr = some (.int (iZ b)) ∧ ((b = 1 ∧ ∃ x rest', kidF nl E t rest = x :: kidF nl E t rest' ∧ RowSt J' rest' ∧ KidNew J' nl E t x) ∨ (b = 0 ∧ kidF nl E t rest = [])) ∧ offK J J' ∧ offP P P') := by
  refine ZC.of (by decide) (Nat.le_of_ble_eq_true rfl) ?_
  generalize hQ0 : (fun rr hh => ∃ J' P' b, hh = (KF Kd, zi J', zj P', RF Rd, n, s0) ∧ rr = some (.int (iZ b)) ∧ ((b = 1 ∧ ∃ x rest', kidF nl E t rest = x :: kidF nl E t rest' ∧ RowSt J' rest' ∧ KidNew J' nl E t x) ∨ (b = 0 ∧ kidF nl E t rest = [])) ∧ offK J J' ∧ offP P P' : Option Value → ZH → Prop) = Q0
  show Z g l MX9_nextChild 0 [some (.ref 42), none, none] [] (KF Kd, zi J, zj P, RF Rd, n, s0) Q0
  have h13 := hPar.2.2.2.1
  have hpp := hPar.2.1
  have L0 : ∀ (m0 : Nat), ∀ (rest1 : List V4) (J1 P1 : Nat → Nat → Int), ((rest1.length : Int)).toNat = m0 → (RowSt J1 rest1) → (kidF nl E t rest = kidF nl E t rest1) → (offK J J1) → (offP P P1) → Z g l MX9_nextChild 0 [some (.ref 42), none, none] [] (KF Kd, zi J1, zj P1, RF Rd, n, s0) Q0 := by
    intro m0
    induction m0 using Nat.strongRecOn with
    | ind m0 ih0 =>
      intro rest1 J1 P1 hm0 hS1 hK hO hP
      have hS1q := hS1
      refine z_aload_n dX9_nextChild_0 rfl rfl ?_
      refine z_callv (N := MX9_nextRow) (ci := 9) (nas := 0) (as := []) dX9_nextChild_1 w_1126 w_1123 w_1125 ws_44 w_8 (by decide +kernel) rfl rfl rfl (by decide) (Nat.le_of_ble_eq_true rfl) (by decide) (by decide) (ZC.mono (cMX9_nextRow hS1q) ?_)
      rintro _ _ ⟨J2, b1, rfl, rfl, hb1, hoA, hoB⟩
      refine c_if_eq (tgt := 90) dX9_nextChild_4 (by decide) (by omega) (fun h4 => ?_) (fun h4 => ?_)
      · have g1 := (hb1.resolve_left (fun z => by have := z.1; omega)).2
        clear hb1
        refine c_iconst dX9_nextChild_90 ?_
        refine c_zreturn dX9_nextChild_91 rfl (by omega) ?_
        subst hQ0; refine ⟨_, _, _, rfl, rfl, Or.inr ⟨rfl, by rw [hK, g1]; rfl⟩, offK_trans hO ⟨fun a a1 _ _ a4 _ _ => hoA a a4 a1, fun q _ => by rw [hoA 43 (by decide) (by decide)], fun q _ => by rw [hoA 44 (by decide) (by decide)], fun q q1 _ _ _ => hoB q q1⟩, hP⟩
      · have g1 := (hb1.resolve_right (fun z => by have := z.1; omega)).2
        clear hb1
        obtain ⟨rest2, hr2, hS2⟩ := g1
        have hO2 : offK J1 J2 := ⟨fun a a1 _ _ a4 _ _ => hoA a a4 a1, fun q _ => by rw [hoA 43 (by decide) (by decide)], fun q _ => by rw [hoA 44 (by decide) (by decide)], fun q q1 _ _ _ => hoB q q1⟩
        have hPa := Par_off hPar (offK_trans hO hO2)
        have e22 := hPa.1
        have e23 := hPa.2.2.2.2.2.1
        have d0 := hS2.1 0 (by omega)
        have d1 := hS2.1 1 (by omega)
        have d2 := hS2.1 2 (by omega)
        refine z_aload_n dX9_nextChild_7 rfl rfl ?_
        refine z_aload_n dX9_nextChild_8 rfl rfl ?_
        refine c_getI (ci := 9) (kf := 22) dX9_nextChild_9 rfl (by decide) (by decide) rfl w_798 ?_
        rw [e22]
        refine c_bipush dX9_nextChild_12 (by decide) ?_
        refine z_callv (N := MX9_copyTo) (ci := 9) (nas := 2) (as := [_, _]) dX9_nextChild_14 w_940 w_937 w_939 ws_27 w_8 (by decide +kernel) rfl rfl rfl (by decide) (Nat.le_of_ble_eq_true rfl) (by decide) (by decide) (ZC.mono (j_copyTo (by omega) (by omega)) ?_)
        rintro _ _ ⟨rfl, rfl⟩
        rw [hPa.2.2.1, jput_ext (E := eE J2 p) (F := E) (fun k hk => hPa.2.2.2.2.1 k hk)]
        refine z_aload_n dX9_nextChild_17 rfl rfl ?_
        refine z_getR (ci := 9) (kf := 1) dX9_nextChild_18 rfl (by decide) (by decide) rfl w_777 rfl ?_
        refine z_aload_n dX9_nextChild_21 rfl rfl ?_
        refine c_getI (ci := 9) (kf := 22) dX9_nextChild_22 rfl (by decide) (by decide) rfl w_798 ?_
        rw [jput_off (by decide) (by decide), e22]
        refine c_iald dX9_nextChild_25 rfl (by omega) (by decide) ?_
        rw [jput_let_ne (by omega), hPa.2.2.1]
        refine z_istore_n dX9_nextChild_26 rfl (by decide) rfl ?_
        refine z_aload_n dX9_nextChild_27 rfl rfl ?_
        refine z_getR (ci := 9) (kf := 1) dX9_nextChild_28 rfl (by decide) (by decide) rfl w_777 rfl ?_
        refine c_bipush dX9_nextChild_31 (by decide) ?_
        refine z_iload_n dX9_nextChild_33 rfl rfl ?_
        refine c_iconst dX9_nextChild_34 ?_
        refine c_iadd dX9_nextChild_35 ?_
        refine c_iast dX9_nextChild_36 rfl (by omega) (by decide) ?_
        rw [jput_setl]
        refine c_iconst dX9_nextChild_37 ?_
        refine z_istore_n dX9_nextChild_38 rfl (by decide) rfl ?_
        have L39 : ∀ (m39 : Nat), ∀ (i : Int) (J3 : Nat → Nat → Int), (nl - i).toNat = m39 → (0 ≤ i ∧ i ≤ nl) → (J3 = jput J2 (72 : Int).toNat (nl + 1) (chR nl.toNat E (J2 58 0, J2 58 1, J2 58 2, 0) i.toNat)) → Z g l MX9_nextChild 39 [some (.ref 42), some (.int (iZ nl)), some (.int (iZ i))] [] (KF Kd, zi J3, zj P1, RF Rd, n, s0) Q0 := by
          intro m39
          induction m39 using Nat.strongRecOn with
          | ind m39 ih39 =>
            intro i J3 hm39 hi hJ
            subst hJ
            refine z_iload_n dX9_nextChild_39 rfl rfl ?_
            refine z_iload_n dX9_nextChild_40 rfl rfl ?_
            refine c_icmp_ge (tgt := 64) dX9_nextChild_41 (by decide) (by omega) (by omega) (fun h41 => ?_) (fun h41 => ?_)
            · refine z_aload_n dX9_nextChild_64 rfl rfl ?_
              refine c_bipush dX9_nextChild_65 (by decide) ?_
              refine z_iload_n dX9_nextChild_67 rfl rfl ?_
              refine z_iload_n dX9_nextChild_68 rfl rfl ?_
              refine z_aload_n dX9_nextChild_69 rfl rfl ?_
              refine c_getI (ci := 9) (kf := 23) dX9_nextChild_70 rfl (by decide) (by decide) rfl w_799 ?_
              rw [jput_off (by decide) (by decide), e23, show i.toNat = nl.toNat by omega]
              refine z_callv (N := MX9_layEntry) (ci := 9) (nas := 4) (as := [_, _, _, _]) dX9_nextChild_73 w_897 w_894 w_896 ws_21 w_8 (by decide +kernel) rfl rfl rfl (by decide) (Nat.le_of_ble_eq_true rfl) (by decide) (by decide) (ZC.mono (j_layEntry (by omega) (by omega) (by omega)) ?_)
              rintro _ _ ⟨rfl, rfl⟩
              rw [show setE (chR nl.toNat E (J2 58 0, J2 58 1, J2 58 2, 0) nl.toNat) nl.toNat nl.toNat t = chE nl.toNat E t (J2 58 0, J2 58 1, J2 58 2, 0) from rfl]
              have hvx : ∀ q : Nat, q < 3 → -99 ≤ vAt (J2 58 0, J2 58 1, J2 58 2, 0) q ∧ vAt (J2 58 0, J2 58 1, J2 58 2, 0) q ≤ 99 := fun q hq => by rcases (show q = 0 ∨ q = 1 ∨ q = 2 by omega) with e | e | e <;> subst e <;> (simp only [vAt]; simp; omega)
              have hR79 := chE_rng (nl := nl.toNat) (x := (J2 58 0, J2 58 1, J2 58 2, 0)) (t := t) (by omega) hPa.2.2.2.2.2.2.2 hvx hPa.2.2.2.2.2.2.1
              refine z_aload_n dX9_nextChild_76 rfl rfl ?_
              refine c_bipush dX9_nextChild_77 (by decide) ?_
              refine z_callv (N := MX9_isLawful) (ci := 9) (nas := 1) (as := [_]) dX9_nextChild_79 w_914 w_911 w_913 ws_23 w_8 (by decide +kernel) rfl rfl rfl (by decide) (Nat.le_of_ble_eq_true rfl) (by decide) (by decide) (ZC.mono (j_isLawful (by omega) hR79) ?_)
              rintro _ _ ⟨P3, b79, rfl, rfl, hb79, hpo3⟩
              refine c_if_eq (tgt := 87) dX9_nextChild_82 (by decide) (by omega) (fun h82 => ?_) (fun h82 => ?_)
              · have g79 := (hb79.resolve_left (fun z => by have := z.1; omega)).2
                clear hb79
                have hkf : kidF nl E t rest1 = kidF nl E t rest2 := by rw [hr2]; unfold kidF; rw [List.filter_cons, if_neg (by rw [lawb_f g79]; decide)]
                refine z_goto (tgt := 0) dX9_nextChild_87 (by decide) ?_
                exact Z.fg2 (ih0 _ (by rw [hr2] at hm0; simp at hm0; omega) rest2 _ _ rfl (RowSt_new hS2) (by rw [hK, hkf]) (offK_trans hO (offK_trans hO2 offK_new)) (offP_trans hP hpo3)) (zs1 rfl (zsn (zsn zs0)))
              · have g79 := (hb79.resolve_right (fun z => by have := z.1; omega)).2
                clear hb79
                have hkf : kidF nl E t rest1 = (J2 58 0, J2 58 1, J2 58 2, 0) :: kidF nl E t rest2 := by rw [hr2]; unfold kidF; rw [List.filter_cons, if_pos (lawb_t g79)]
                refine c_iconst dX9_nextChild_85 ?_
                refine c_zreturn dX9_nextChild_86 rfl (by omega) ?_
                subst hQ0; refine ⟨_, _, _, rfl, rfl, Or.inl ⟨rfl, (J2 58 0, J2 58 1, J2 58 2, 0), rest2, by rw [hK, hkf], RowSt_new hS2, ?_⟩, offK_trans hO (offK_trans hO2 offK_new), offP_trans hP hpo3⟩
                exact ⟨jput_let, fun k hk => jput_in (p := 72) hk, g79⟩
            · refine z_aload_n dX9_nextChild_44 rfl rfl ?_
              refine c_bipush dX9_nextChild_45 (by decide) ?_
              refine z_iload_n dX9_nextChild_47 rfl rfl ?_
              refine z_iload_n dX9_nextChild_48 rfl rfl ?_
              refine z_aload_n dX9_nextChild_49 rfl rfl ?_
              refine z_getR (ci := 9) (kf := 25) dX9_nextChild_50 rfl (by decide) (by decide) rfl w_801 rfl ?_
              refine z_iload_n dX9_nextChild_53 rfl rfl ?_
              refine c_iald dX9_nextChild_54 rfl (by omega) (by decide) ?_
              rw [jput_off (by decide) (by decide), show J2 58 i.toNat = vAt (J2 58 0, J2 58 1, J2 58 2, 0) (i.toNat : Nat) by unfold vAt; rcases (show i = 0 ∨ i = 1 ∨ i = 2 by omega) with e | e | e <;> subst e <;> rfl]
              refine z_callv (N := MX9_layEntry) (ci := 9) (nas := 4) (as := [_, _, _, _]) dX9_nextChild_55 w_897 w_894 w_896 ws_21 w_8 (by decide +kernel) rfl rfl rfl (by decide) (Nat.le_of_ble_eq_true rfl) (by decide) (by decide) (ZC.mono (j_layEntry (by omega) (by omega) (by omega)) ?_)
              rintro _ _ ⟨rfl, rfl⟩
              refine c_iinc dX9_nextChild_58 rfl (by decide) rfl ?_
              refine z_goto (tgt := 39) dX9_nextChild_61 (by decide) ?_
              exact Z.fg2 (ih39 _ (by omega) _ _ rfl (by omega) (by rw [show (i + 1).toNat = i.toNat + 1 by omega]; rfl)) (zs1 rfl (zs1 rfl (zs1 rfl zs0)))
        exact Z.fg2 (L39 _ _ _ rfl (by omega) rfl) (zs1 rfl (zs1 rfl (zs1 rfl zs0)))
  exact Z.fg2 (L0 _ rest _ _ rfl hS rfl (offK_refl J) (fun _ _ _ _ => rfl)) (zs1 rfl (zsn (zsn zs0)))
end Ref20
