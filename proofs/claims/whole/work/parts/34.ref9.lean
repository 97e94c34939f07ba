section Ref9
variable {g : ZG} {l : Launch} {Kd : ZK} {Rd : ZR} {n s0 : Nat} {J P : Nat → Nat → Int}
theorem joinE_sym {E F : Nat → Int} {a b : Nat} (hE : symS E) (hF : symS F) (h4 : a + b ≤ 4 := by omega) : symS (joinE E F a b) := by
  intro i j hi hj
  unfold joinE
  rw [show (4 * i + j) / 4 = i by omega, show (4 * i + j) % 4 = j by omega, show (4 * j + i) / 4 = j by omega, show (4 * j + i) % 4 = i by omega]
  by_cases h : a ≤ i ∧ i < a + b ∧ a ≤ j ∧ j < a + b
  · rw [if_pos h, if_pos (by omega)]; exact hF _ _ (by omega) (by omega)
  · rw [if_neg h, if_neg (by omega)]; exact hE i j hi hj
theorem join_step {s t i j : Int} {q : Nat} (hsy : symS (eE J t)) (hn : 1 ≤ J 44 s.toNat ∧ J 44 s.toNat + J 44 t.toNat ≤ 4) (hi : 0 ≤ i ∧ i < J 44 t.toNat) (hj : 0 ≤ j ∧ j ≤ i) (hq : q < 16) :
    (if q = 4 * (J 44 s.toNat + j).toNat + (J 44 s.toNat + i).toNat then eE J t (4 * i.toNat + j.toNat) else if q = 4 * (J 44 s.toNat + i).toNat + (J 44 s.toNat + j).toNat then eE J t (4 * i.toNat + j.toNat) else (fun q : Nat => if (J 44 s.toNat).toNat ≤ q / 4 ∧ q / 4 < (J 44 s.toNat).toNat + (J 44 t.toNat).toNat ∧ (J 44 s.toNat).toNat ≤ q % 4 ∧ q % 4 < (J 44 s.toNat).toNat + (J 44 t.toNat).toNat ∧ ((((q / 4 : Nat) : Int) < (J 44 s.toNat) + i ∧ ((q % 4 : Nat) : Int) < (J 44 s.toNat) + i) ∨ (((q / 4 : Nat) : Int) = (J 44 s.toNat) + i ∧ ((q % 4 : Nat) : Int) < (J 44 s.toNat) + j) ∨ (((q % 4 : Nat) : Int) = (J 44 s.toNat) + i ∧ ((q / 4 : Nat) : Int) < (J 44 s.toNat) + j)) then eE J t (4 * (q / 4 - (J 44 s.toNat).toNat) + (q % 4 - (J 44 s.toNat).toNat)) else eE J s q) q) = (fun q : Nat => if (J 44 s.toNat).toNat ≤ q / 4 ∧ q / 4 < (J 44 s.toNat).toNat + (J 44 t.toNat).toNat ∧ (J 44 s.toNat).toNat ≤ q % 4 ∧ q % 4 < (J 44 s.toNat).toNat + (J 44 t.toNat).toNat ∧ ((((q / 4 : Nat) : Int) < (J 44 s.toNat) + i ∧ ((q % 4 : Nat) : Int) < (J 44 s.toNat) + i) ∨ (((q / 4 : Nat) : Int) = (J 44 s.toNat) + i ∧ ((q % 4 : Nat) : Int) < (J 44 s.toNat) + (j + 1)) ∨ (((q % 4 : Nat) : Int) = (J 44 s.toNat) + i ∧ ((q / 4 : Nat) : Int) < (J 44 s.toNat) + (j + 1))) then eE J t (4 * (q / 4 - (J 44 s.toNat).toNat) + (q % 4 - (J 44 s.toNat).toNat)) else eE J s q) q := by
  dsimp only
  by_cases h1 : q = 4 * (J 44 s.toNat + j).toNat + (J 44 s.toNat + i).toNat
  · rw [if_pos h1, if_pos (by omega), show q / 4 - (J 44 s.toNat).toNat = j.toNat by omega, show q % 4 - (J 44 s.toNat).toNat = i.toNat by omega]
    exact hsy _ _ (by omega) (by omega)
  · rw [if_neg h1]
    by_cases h2 : q = 4 * (J 44 s.toNat + i).toNat + (J 44 s.toNat + j).toNat
    · rw [if_pos h2, if_pos (by omega), show q / 4 - (J 44 s.toNat).toNat = i.toNat by omega, show q % 4 - (J 44 s.toNat).toNat = j.toNat by omega]
    · rw [if_neg h2]
      exact ifc (by omega)
theorem j_entryAt {p i j nl : Int} {E : Nat → Int} (hp : 0 ≤ p ∧ p < 74) (hi : 0 ≤ i ∧ i < 4) (hj : 0 ≤ j ∧ j < 4) : ZC g l MX9_entryAt [.ref 42, .int (iZ p), .int (iZ i), .int (iZ j)] (KF Kd, zi (jput J p.toNat nl E), zj P, RF Rd, n, s0) (fun rr hh => rr = some (.int (iZ (E (4 * i.toNat + j.toNat)))) ∧ hh = (KF Kd, zi (jput J p.toNat nl E), zj P, RF Rd, n, s0)) := ZC.mono (cMX9_entryAt (by omega)) (by
  rintro _ _ ⟨rfl, rfl⟩
  refine ⟨?_, rfl⟩
  rw [show (16 * p + 4 * i + j).toNat = 16 * p.toNat + (4 * i.toNat + j.toNat) by omega, jput_in (by omega)])
set_option maxHeartbeats 4000000 in
set_option maxRecDepth 100000 in
theorem cMX9_changeAt {i j c nl : Int} {E : Nat → Int} (hn : 1 ≤ nl ∧ nl ≤ 4) (hi : 0 ≤ i ∧ i < nl) (hj : 0 ≤ j ∧ j < nl) (hij : ¬ i = j) : ZC g l MX9_changeAt [.ref 42, .int (iZ 72), .int (iZ i), .int (iZ j), .int (iZ c)] (KF Kd, zi (jput J 72 nl E), zj P, RF Rd, n, s0) (fun rr hh => rr = none ∧ hh = (KF Kd, zi (jput J 72 nl (chgE E nl.toNat i.toNat j.toNat c)), zj P, RF Rd, n, s0)) := by
  refine ZC.of (by decide) (Nat.le_of_ble_eq_true rfl) ?_
  generalize hQ0 : (fun rr hh => rr = none ∧ hh = (KF Kd, zi (jput J 72 nl (chgE E nl.toNat i.toNat j.toNat c)), zj P, RF Rd, n, s0) : Option Value → ZH → Prop) = Q0
  show Z g l MX9_changeAt 0 [some (.ref 42), some (.int (iZ 72)), some (.int (iZ i)), some (.int (iZ j)), some (.int (iZ c)), none, none] [] (KF Kd, zi (jput J 72 nl E), zj P, RF Rd, n, s0) Q0
  refine z_aload_n dX9_changeAt_0 rfl rfl ?_
  refine z_iload_n dX9_changeAt_1 rfl rfl ?_
  refine z_iload_n dX9_changeAt_2 rfl rfl ?_
  refine z_iload_n dX9_changeAt_3 rfl rfl ?_
  refine z_callv (N := MX9_entryAt) (ci := 9) (nas := 3) (as := [_, _, _]) dX9_changeAt_4 w_925 w_922 w_924 ws_25 w_8 (by decide +kernel) rfl rfl rfl (by decide) (Nat.le_of_ble_eq_true rfl) (by decide) (by decide) (ZC.mono (j_entryAt (by omega) (by omega) (by omega)) ?_)
  rintro _ _ ⟨rfl, rfl⟩
  refine c_iconst dX9_changeAt_7 ?_
  refine z_iload dX9_changeAt_8 rfl ?_
  refine c_imul dX9_changeAt_10 ?_
  refine z_aload_n dX9_changeAt_11 rfl rfl ?_
  refine z_iload_n dX9_changeAt_12 rfl rfl ?_
  refine z_iload_n dX9_changeAt_13 rfl rfl ?_
  refine z_iload_n dX9_changeAt_14 rfl rfl ?_
  refine z_callv (N := MX9_entryAt) (ci := 9) (nas := 3) (as := [_, _, _]) dX9_changeAt_15 w_925 w_922 w_924 ws_25 w_8 (by decide +kernel) rfl rfl rfl (by decide) (Nat.le_of_ble_eq_true rfl) (by decide) (by decide) (ZC.mono (j_entryAt (by omega) (by omega) (by omega)) ?_)
  rintro _ _ ⟨rfl, rfl⟩
  refine c_imul dX9_changeAt_18 ?_
  refine c_iadd dX9_changeAt_19 ?_
  refine z_iload dX9_changeAt_20 rfl ?_
  refine z_iload dX9_changeAt_22 rfl ?_
  refine c_imul dX9_changeAt_24 ?_
  refine z_aload_n dX9_changeAt_25 rfl rfl ?_
  refine z_iload_n dX9_changeAt_26 rfl rfl ?_
  refine z_iload_n dX9_changeAt_27 rfl rfl ?_
  refine z_iload_n dX9_changeAt_28 rfl rfl ?_
  refine z_callv (N := MX9_entryAt) (ci := 9) (nas := 3) (as := [_, _, _]) dX9_changeAt_29 w_925 w_922 w_924 ws_25 w_8 (by decide +kernel) rfl rfl rfl (by decide) (Nat.le_of_ble_eq_true rfl) (by decide) (by decide) (ZC.mono (j_entryAt (by omega) (by omega) (by omega)) ?_)
  rintro _ _ ⟨rfl, rfl⟩
  refine c_imul dX9_changeAt_32 ?_
  refine c_iadd dX9_changeAt_33 ?_
  refine z_istore dX9_changeAt_34 (by decide) rfl ?_
  refine c_iconst dX9_changeAt_36 ?_
  refine z_istore dX9_changeAt_37 (by decide) rfl ?_
  have L39 : ∀ (m39 : Nat), ∀ (k : Int) (J1 : Nat → Nat → Int), (nl - k).toNat = m39 → (0 ≤ k ∧ k ≤ nl) → (J1 = jput J 72 nl (chgK E i.toNat j.toNat c k.toNat)) → Z g l MX9_changeAt 39 [some (.ref 42), some (.int (iZ 72)), some (.int (iZ i)), some (.int (iZ j)), some (.int (iZ c)), some (.int (iZ (E (4 * i.toNat + i.toNat) + 2 * c * E (4 * i.toNat + j.toNat) + c * c * E (4 * j.toNat + j.toNat)))), some (.int (iZ k))] [] (KF Kd, zi J1, zj P, RF Rd, n, s0) Q0 := by
    intro m39
    induction m39 using Nat.strongRecOn with
    | ind m39 ih39 =>
      intro k J1 hm39 hk hJ
      subst hJ
      refine z_iload dX9_changeAt_39 rfl ?_
      refine z_aload_n dX9_changeAt_41 rfl rfl ?_
      refine z_getR (ci := 9) (kf := 1) dX9_changeAt_42 rfl (by decide) (by decide) rfl w_777 rfl ?_
      refine z_iload_n dX9_changeAt_45 rfl rfl ?_
      refine c_iald dX9_changeAt_46 rfl (by omega) (by decide) ?_
      rw [show jput J 72 nl (chgK E i.toNat j.toNat c k.toNat) 44 (72 : Int).toNat = nl from jput_let]
      refine c_icmp_ge (tgt := 90) dX9_changeAt_47 (by decide) (by omega) (by omega) (fun h47 => ?_) (fun h47 => ?_)
      · refine z_aload_n dX9_changeAt_90 rfl rfl ?_
        refine z_iload_n dX9_changeAt_91 rfl rfl ?_
        refine z_iload_n dX9_changeAt_92 rfl rfl ?_
        refine z_iload_n dX9_changeAt_93 rfl rfl ?_
        refine z_iload dX9_changeAt_94 rfl ?_
        refine z_callv (N := MX9_layEntry) (ci := 9) (nas := 4) (as := [_, _, _, _]) dX9_changeAt_96 w_897 w_894 w_896 ws_21 w_8 (by decide +kernel) rfl rfl rfl (by decide) (Nat.le_of_ble_eq_true rfl) (by decide) (by decide) (ZC.mono (j_layEntry (by omega) (by omega) (by omega)) ?_)
        rintro _ _ ⟨rfl, rfl⟩
        rw [show k.toNat = nl.toNat by omega]
        refine z_return dX9_changeAt_99 rfl ?_
        subst hQ0; exact ⟨rfl, rfl⟩
      · refine z_iload dX9_changeAt_50 rfl ?_
        refine z_iload_n dX9_changeAt_52 rfl rfl ?_
        refine c_icmp_eq (tgt := 84) dX9_changeAt_53 (by decide) (by omega) (by omega) (fun h53 => ?_) (fun h53 => ?_)
        · refine c_iinc dX9_changeAt_84 rfl (by decide) rfl ?_
          refine z_goto (tgt := 39) dX9_changeAt_87 (by decide) ?_
          exact Z.fg2 (ih39 _ (by omega) _ _ rfl (by omega) (by rw [show (k + 1).toNat = k.toNat + 1 by omega]; first | exact jput_ext (chgK_step (by omega) (by omega) (by omega)) | exact jput_ext (fun q _ => by rw [show k.toNat = i.toNat by omega]; exact (chgK_skip q).symm))) (zs1 rfl (zs1 rfl (zs1 rfl (zs1 rfl (zs1 rfl (zs1 rfl (zs1 rfl zs0)))))))
        · refine z_aload_n dX9_changeAt_56 rfl rfl ?_
          refine z_iload_n dX9_changeAt_57 rfl rfl ?_
          refine z_iload_n dX9_changeAt_58 rfl rfl ?_
          refine z_iload dX9_changeAt_59 rfl ?_
          refine z_aload_n dX9_changeAt_61 rfl rfl ?_
          refine z_iload_n dX9_changeAt_62 rfl rfl ?_
          refine z_iload_n dX9_changeAt_63 rfl rfl ?_
          refine z_iload dX9_changeAt_64 rfl ?_
          refine z_callv (N := MX9_entryAt) (ci := 9) (nas := 3) (as := [_, _, _]) dX9_changeAt_66 w_925 w_922 w_924 ws_25 w_8 (by decide +kernel) rfl rfl rfl (by decide) (Nat.le_of_ble_eq_true rfl) (by decide) (by decide) (ZC.mono (j_entryAt (by omega) (by omega) (by omega)) ?_)
          rintro _ _ ⟨rfl, rfl⟩
          rw [(chgK_at (E := E) (i := i.toNat) (j := j.toNat) (k := k.toNat) (c := c) (by omega) (by omega) (by omega)).1]
          refine z_iload dX9_changeAt_69 rfl ?_
          refine z_aload_n dX9_changeAt_71 rfl rfl ?_
          refine z_iload_n dX9_changeAt_72 rfl rfl ?_
          refine z_iload_n dX9_changeAt_73 rfl rfl ?_
          refine z_iload dX9_changeAt_74 rfl ?_
          refine z_callv (N := MX9_entryAt) (ci := 9) (nas := 3) (as := [_, _, _]) dX9_changeAt_76 w_925 w_922 w_924 ws_25 w_8 (by decide +kernel) rfl rfl rfl (by decide) (Nat.le_of_ble_eq_true rfl) (by decide) (by decide) (ZC.mono (j_entryAt (by omega) (by omega) (by omega)) ?_)
          rintro _ _ ⟨rfl, rfl⟩
          rw [(chgK_at (E := E) (i := i.toNat) (j := j.toNat) (k := k.toNat) (c := c) (by omega) (by omega) (by omega)).2]
          refine c_imul dX9_changeAt_79 ?_
          refine c_iadd dX9_changeAt_80 ?_
          refine z_callv (N := MX9_layEntry) (ci := 9) (nas := 4) (as := [_, _, _, _]) dX9_changeAt_81 w_897 w_894 w_896 ws_21 w_8 (by decide +kernel) rfl rfl rfl (by decide) (Nat.le_of_ble_eq_true rfl) (by decide) (by decide) (ZC.mono (j_layEntry (by omega) (by omega) (by omega)) ?_)
          rintro _ _ ⟨rfl, rfl⟩
          refine c_iinc dX9_changeAt_84 rfl (by decide) rfl ?_
          refine z_goto (tgt := 39) dX9_changeAt_87 (by decide) ?_
          exact Z.fg2 (ih39 _ (by omega) _ _ rfl (by omega) (by rw [show (k + 1).toNat = k.toNat + 1 by omega]; first | exact jput_ext (chgK_step (by omega) (by omega) (by omega)) | exact jput_ext (fun q _ => by rw [show k.toNat = i.toNat by omega]; exact (chgK_skip q).symm))) (zs1 rfl (zs1 rfl (zs1 rfl (zs1 rfl (zs1 rfl (zs1 rfl (zs1 rfl zs0)))))))
  exact Z.fg2 (L39 _ _ _ rfl (by omega) (by rw [show (0 : Int).toNat = 0 from rfl, chgK_0]; rfl)) (zs1 rfl (zs1 rfl (zs1 rfl (zs1 rfl (zs1 rfl (zs1 rfl (zs1 rfl zs0)))))))
set_option maxHeartbeats 4000000 in
set_option maxRecDepth 100000 in
theorem cMX9_change {s i j c : Int} (hs : rI s) (hi : rI i) (hj : rI j) (hc : rI c) (hL : okJ J) : ZC g l MX9_change [.ref 42, .int (iZ s), .int (iZ i), .int (iZ j), .int (iZ c)] (KF Kd, zi J, zj P, RF Rd, n, s0) (fun rr hh => ∃ J' P', hh = (KF Kd, zi J', zj P', RF Rd, n, s0) ∧ rr = some (.int (iZ (aChange J s i j c).1)) ∧ pq (aChange J s i j c).2 J' ∧ pp P P') := by
  refine ZC.of (by decide) (Nat.le_of_ble_eq_true rfl) ?_
  generalize hQ0 : (fun rr hh => ∃ J' P', hh = (KF Kd, zi J', zj P', RF Rd, n, s0) ∧ rr = some (.int (iZ (aChange J s i j c).1)) ∧ pq (aChange J s i j c).2 J' ∧ pp P P' : Option Value → ZH → Prop) = Q0
  show Z g l MX9_change 0 [some (.ref 42), some (.int (iZ s)), some (.int (iZ i)), some (.int (iZ j)), some (.int (iZ c))] [] (KF Kd, zi J, zj P, RF Rd, n, s0) Q0
  refine z_aload_n dX9_change_0 rfl rfl ?_
  refine z_iload_n dX9_change_1 rfl rfl ?_
  refine z_callv (N := MX9_hasForm) (ci := 9) (nas := 1) (as := [_]) dX9_change_2 w_948 w_945 w_947 ws_28 w_8 (by decide +kernel) rfl rfl rfl (by decide) (Nat.le_of_ble_eq_true rfl) (by decide) (by decide) (ZC.mono (b_hasForm (by omega) hL) ?_)
  rintro _ _ ⟨b2, rfl, rfl, hb2⟩
  refine c_if_eq (tgt := 46) dX9_change_5 (by decide) (by omega) (fun h5 => ?_) (fun h5 => ?_)
  · have g2 := (hb2.resolve_left (fun z => by have := z.1; omega)).2
    clear hb2
    refine c_iconst dX9_change_46 ?_
    refine c_ireturn dX9_change_47 rfl ?_
    subst hQ0; refine ⟨_, _, rfl, ?_⟩; unfold aChange; rw [cif_neg (by omega)]; exact ⟨rfl, pq_refl _, pp_refl _⟩
  · have g2 := (hb2.resolve_right (fun z => by have := z.1; omega)).2
    clear hb2
    refine z_aload_n dX9_change_8 rfl rfl ?_
    refine z_iload_n dX9_change_9 rfl rfl ?_
    refine z_iload_n dX9_change_10 rfl rfl ?_
    refine z_callv (N := MX9_isLetter) (ci := 9) (nas := 2) (as := [_, _]) dX9_change_11 w_960 w_957 w_959 ws_29 w_8 (by decide +kernel) rfl rfl rfl (by decide) (Nat.le_of_ble_eq_true rfl) (by decide) (by decide) (ZC.mono (b_isLetter (by omega) (by omega) hL) ?_)
    rintro _ _ ⟨b11, rfl, rfl, hb11⟩
    refine c_if_eq (tgt := 46) dX9_change_14 (by decide) (by omega) (fun h14 => ?_) (fun h14 => ?_)
    · have g11 := (hb11.resolve_left (fun z => by have := z.1; omega)).2
      clear hb11
      refine c_iconst dX9_change_46 ?_
      refine c_ireturn dX9_change_47 rfl ?_
      subst hQ0; refine ⟨_, _, rfl, ?_⟩; unfold aChange; rw [cif_neg (by omega)]; exact ⟨rfl, pq_refl _, pp_refl _⟩
    · have g11 := (hb11.resolve_right (fun z => by have := z.1; omega)).2
      clear hb11
      refine z_aload_n dX9_change_17 rfl rfl ?_
      refine z_iload_n dX9_change_18 rfl rfl ?_
      refine z_iload_n dX9_change_19 rfl rfl ?_
      refine z_callv (N := MX9_isLetter) (ci := 9) (nas := 2) (as := [_, _]) dX9_change_20 w_960 w_957 w_959 ws_29 w_8 (by decide +kernel) rfl rfl rfl (by decide) (Nat.le_of_ble_eq_true rfl) (by decide) (by decide) (ZC.mono (b_isLetter (by omega) (by omega) hL) ?_)
      rintro _ _ ⟨b20, rfl, rfl, hb20⟩
      refine c_if_eq (tgt := 46) dX9_change_23 (by decide) (by omega) (fun h23 => ?_) (fun h23 => ?_)
      · have g20 := (hb20.resolve_left (fun z => by have := z.1; omega)).2
        clear hb20
        refine c_iconst dX9_change_46 ?_
        refine c_ireturn dX9_change_47 rfl ?_
        subst hQ0; refine ⟨_, _, rfl, ?_⟩; unfold aChange; rw [cif_neg (by omega)]; exact ⟨rfl, pq_refl _, pp_refl _⟩
      · have g20 := (hb20.resolve_right (fun z => by have := z.1; omega)).2
        clear hb20
        refine z_iload_n dX9_change_26 rfl rfl ?_
        refine z_iload_n dX9_change_27 rfl rfl ?_
        refine c_icmp_eq (tgt := 46) dX9_change_28 (by decide) (by omega) (by omega) (fun h28 => ?_) (fun h28 => ?_)
        · refine c_iconst dX9_change_46 ?_
          refine c_ireturn dX9_change_47 rfl ?_
          subst hQ0; refine ⟨_, _, rfl, ?_⟩; unfold aChange; rw [cif_neg (by omega)]; exact ⟨rfl, pq_refl _, pp_refl _⟩
        · refine z_iload dX9_change_31 rfl ?_
          refine c_i2l dX9_change_33 (by omega) ?_
          refine c_ldc2 (z := -9) dX9_change_34 w_986 (by decide) ?_
          refine c_ldc2 (z := 9) dX9_change_37 w_987 (by decide) ?_
          refine z_calls (N := MX9_in) (nas := 3) (as := [_, _, _]) dX9_change_40 w_889 w_887 w_888 w_8 (by decide +kernel) rfl rfl (Nat.le_of_ble_eq_true rfl) (by decide) (by decide) (ZC.mono (b_in (by omega) (by omega) (by omega)) ?_)
          rintro _ _ ⟨b40, rfl, rfl, hb40⟩
          refine c_if_ne (tgt := 48) dX9_change_43 (by decide) (by omega) (fun h43 => ?_) (fun h43 => ?_)
          · have g40 := (hb40.resolve_right (fun z => by have := z.1; omega)).2
            clear hb40
            have hl4 := okJ_let hL (q := s.toNat) (by omega)
            have hfo := okJ_form hL (s := s) (by omega) (by omega)
            refine z_aload_n dX9_change_48 rfl rfl ?_
            refine z_iload_n dX9_change_49 rfl rfl ?_
            refine c_bipush dX9_change_50 (by decide) ?_
            refine z_callv (N := MX9_copyTo) (ci := 9) (nas := 2) (as := [_, _]) dX9_change_52 w_940 w_937 w_939 ws_27 w_8 (by decide +kernel) rfl rfl rfl (by decide) (Nat.le_of_ble_eq_true rfl) (by decide) (by decide) (ZC.mono (j_copyTo (by omega) (by omega)) ?_)
            rintro _ _ ⟨rfl, rfl⟩
            refine z_aload_n dX9_change_55 rfl rfl ?_
            refine c_bipush dX9_change_56 (by decide) ?_
            refine z_iload_n dX9_change_58 rfl rfl ?_
            refine z_iload_n dX9_change_59 rfl rfl ?_
            refine z_iload dX9_change_60 rfl ?_
            refine z_callv (N := MX9_changeAt) (ci := 9) (nas := 4) (as := [_, _, _, _]) dX9_change_62 w_991 w_988 w_990 ws_30 w_8 (by decide +kernel) rfl rfl rfl (by decide) (Nat.le_of_ble_eq_true rfl) (by decide) (by decide) (ZC.mono (cMX9_changeAt (by omega) (by omega) (by omega) (by omega)) ?_)
            rintro _ _ ⟨rfl, rfl⟩
            refine z_aload_n dX9_change_65 rfl rfl ?_
            refine z_iload_n dX9_change_66 rfl rfl ?_
            have hR67 := chgE_rng (nl := (J 44 s.toNat).toNat) (i := i.toNat) (j := j.toNat) (c := c) hfo.2.1.1 (by omega) (by omega) (by omega)
            refine z_callv (N := MX9_comes) (ci := 9) (nas := 1) (as := [_]) dX9_change_67 w_910 w_907 w_909 ws_22 w_8 (by decide +kernel) rfl rfl rfl (by decide) (Nat.le_of_ble_eq_true rfl) (by decide) (by decide) (ZC.mono (cMX9_comes (by omega) (by omega) hR67) ?_)
            rintro _ _ ⟨J67, P67, r67, rfl, rfl, hr67, hpp67⟩
            refine c_ireturn dX9_change_70 rfl ?_
            subst hQ0; have h9 := aComes_of hr67 (fun _ => rfl)
            refine ⟨_, _, rfl, ?_⟩; unfold aChange; rw [cif_pos (by omega), h9.1]; exact ⟨rfl, h9.2, hpp67⟩
          · have g40 := (hb40.resolve_left (fun z => by have := z.1; omega)).2
            clear hb40
            refine c_iconst dX9_change_46 ?_
            refine c_ireturn dX9_change_47 rfl ?_
            subst hQ0; refine ⟨_, _, rfl, ?_⟩; unfold aChange; rw [cif_neg (by omega)]; exact ⟨rfl, pq_refl _, pp_refl _⟩
set_option maxHeartbeats 4000000 in
set_option maxRecDepth 100000 in
theorem cMX9_swap {s i j : Int} (hs : rI s) (hi : rI i) (hj : rI j) (hL : okJ J) : ZC g l MX9_swap [.ref 42, .int (iZ s), .int (iZ i), .int (iZ j)] (KF Kd, zi J, zj P, RF Rd, n, s0) (fun rr hh => ∃ J' P', hh = (KF Kd, zi J', zj P', RF Rd, n, s0) ∧ rr = some (.int (iZ (aSwap J s i j).1)) ∧ pq (aSwap J s i j).2 J' ∧ pp P P') := by
  refine ZC.of (by decide) (Nat.le_of_ble_eq_true rfl) ?_
  generalize hQ0 : (fun rr hh => ∃ J' P', hh = (KF Kd, zi J', zj P', RF Rd, n, s0) ∧ rr = some (.int (iZ (aSwap J s i j).1)) ∧ pq (aSwap J s i j).2 J' ∧ pp P P' : Option Value → ZH → Prop) = Q0
  show Z g l MX9_swap 0 [some (.ref 42), some (.int (iZ s)), some (.int (iZ i)), some (.int (iZ j)), none, none, none, none] [] (KF Kd, zi J, zj P, RF Rd, n, s0) Q0
  refine z_aload_n dX9_swap_0 rfl rfl ?_
  refine z_iload_n dX9_swap_1 rfl rfl ?_
  refine z_callv (N := MX9_hasForm) (ci := 9) (nas := 1) (as := [_]) dX9_swap_2 w_948 w_945 w_947 ws_28 w_8 (by decide +kernel) rfl rfl rfl (by decide) (Nat.le_of_ble_eq_true rfl) (by decide) (by decide) (ZC.mono (b_hasForm (by omega) hL) ?_)
  rintro _ _ ⟨b2, rfl, rfl, hb2⟩
  refine c_if_eq (tgt := 26) dX9_swap_5 (by decide) (by omega) (fun h5 => ?_) (fun h5 => ?_)
  · have g2 := (hb2.resolve_left (fun z => by have := z.1; omega)).2
    clear hb2
    refine c_iconst dX9_swap_26 ?_
    refine c_ireturn dX9_swap_27 rfl ?_
    subst hQ0; refine ⟨_, _, rfl, ?_⟩; unfold aSwap; rw [cif_neg (by omega)]; exact ⟨rfl, pq_refl _, pp_refl _⟩
  · have g2 := (hb2.resolve_right (fun z => by have := z.1; omega)).2
    clear hb2
    refine z_aload_n dX9_swap_8 rfl rfl ?_
    refine z_iload_n dX9_swap_9 rfl rfl ?_
    refine z_iload_n dX9_swap_10 rfl rfl ?_
    refine z_callv (N := MX9_isLetter) (ci := 9) (nas := 2) (as := [_, _]) dX9_swap_11 w_960 w_957 w_959 ws_29 w_8 (by decide +kernel) rfl rfl rfl (by decide) (Nat.le_of_ble_eq_true rfl) (by decide) (by decide) (ZC.mono (b_isLetter (by omega) (by omega) hL) ?_)
    rintro _ _ ⟨b11, rfl, rfl, hb11⟩
    refine c_if_eq (tgt := 26) dX9_swap_14 (by decide) (by omega) (fun h14 => ?_) (fun h14 => ?_)
    · have g11 := (hb11.resolve_left (fun z => by have := z.1; omega)).2
      clear hb11
      refine c_iconst dX9_swap_26 ?_
      refine c_ireturn dX9_swap_27 rfl ?_
      subst hQ0; refine ⟨_, _, rfl, ?_⟩; unfold aSwap; rw [cif_neg (by omega)]; exact ⟨rfl, pq_refl _, pp_refl _⟩
    · have g11 := (hb11.resolve_right (fun z => by have := z.1; omega)).2
      clear hb11
      refine z_aload_n dX9_swap_17 rfl rfl ?_
      refine z_iload_n dX9_swap_18 rfl rfl ?_
      refine z_iload_n dX9_swap_19 rfl rfl ?_
      refine z_callv (N := MX9_isLetter) (ci := 9) (nas := 2) (as := [_, _]) dX9_swap_20 w_960 w_957 w_959 ws_29 w_8 (by decide +kernel) rfl rfl rfl (by decide) (Nat.le_of_ble_eq_true rfl) (by decide) (by decide) (ZC.mono (b_isLetter (by omega) (by omega) hL) ?_)
      rintro _ _ ⟨b20, rfl, rfl, hb20⟩
      refine c_if_ne (tgt := 28) dX9_swap_23 (by decide) (by omega) (fun h23 => ?_) (fun h23 => ?_)
      · have g20 := (hb20.resolve_right (fun z => by have := z.1; omega)).2
        clear hb20
        have hl4 := okJ_let hL (q := s.toNat) (by omega)
        have hfo := okJ_form hL (s := s) (by omega) (by omega)
        refine z_aload_n dX9_swap_28 rfl rfl ?_
        refine z_iload_n dX9_swap_29 rfl rfl ?_
        refine c_bipush dX9_swap_30 (by decide) ?_
        refine z_callv (N := MX9_copyTo) (ci := 9) (nas := 2) (as := [_, _]) dX9_swap_32 w_940 w_937 w_939 ws_27 w_8 (by decide +kernel) rfl rfl rfl (by decide) (Nat.le_of_ble_eq_true rfl) (by decide) (by decide) (ZC.mono (j_copyTo (by omega) (by omega)) ?_)
        rintro _ _ ⟨rfl, rfl⟩
        refine c_iconst dX9_swap_35 ?_
        refine z_istore dX9_swap_36 (by decide) rfl ?_
        have L38 : ∀ (m38 : Nat), ∀ (k : Int) (J1 : Nat → Nat → Int), (J 44 s.toNat - k).toNat = m38 → (0 ≤ k ∧ k ≤ J 44 s.toNat) → (J1 = jput (jput J 72 (J 44 s.toNat) (eE J s)) s.toNat (J 44 s.toNat) (fun q : Nat => if q / 4 < (J 44 s.toNat).toNat ∧ q % 4 < (J 44 s.toNat).toNat ∧ ((q / 4 : Nat) : Int) < k then eE J s (4 * swi i.toNat j.toNat (q / 4) + swi i.toNat j.toNat (q % 4)) else eE J s q)) → Z g l MX9_swap 38 [some (.ref 42), some (.int (iZ s)), some (.int (iZ i)), some (.int (iZ j)), some (.int (iZ k)), none, none, none] [] (KF Kd, zi J1, zj P, RF Rd, n, s0) Q0 := by
          intro m38
          induction m38 using Nat.strongRecOn with
          | ind m38 ih38 =>
            intro k J1 hm38 hk hJ
            refine z_iload dX9_swap_38 rfl ?_
            refine z_aload_n dX9_swap_40 rfl rfl ?_
            refine z_getR (ci := 9) (kf := 1) dX9_swap_41 rfl (by decide) (by decide) rfl w_777 rfl ?_
            refine z_iload_n dX9_swap_44 rfl rfl ?_
            refine c_iald dX9_swap_45 rfl (by omega) (by decide) ?_
            rw [show J1 44 s.toNat = J 44 s.toNat by subst hJ; exact jput_let]
            refine c_icmp_ge (tgt := 150) dX9_swap_46 (by decide) (by omega) (by omega) (fun h46 => ?_) (fun h46 => ?_)
            · refine z_aload_n dX9_swap_150 rfl rfl ?_
              refine z_getR (ci := 9) (kf := 1) dX9_swap_151 rfl (by decide) (by decide) rfl w_777 rfl ?_
              refine z_iload_n dX9_swap_154 rfl rfl ?_
              refine c_iald dX9_swap_155 rfl (by omega) (by decide) ?_
              rw [show J1 44 s.toNat = J 44 s.toNat by subst hJ; exact jput_let]
              refine c_ireturn dX9_swap_156 rfl ?_
              subst hQ0; refine ⟨_, _, rfl, ?_⟩; unfold aSwap; rw [cif_pos (by omega)]; refine ⟨rfl, ?_, pp_refl _⟩
              rw [show J1 = jput (jput J 72 (J 44 s.toNat) (eE J s)) s.toNat (J 44 s.toNat) (swpE (eE J s) (J 44 s.toNat).toNat i.toNat j.toNat) by subst hJ; exact jput_ext (fun q hq => ifc (by omega))]
              exact pq_jput pq_new
            · refine c_iconst dX9_swap_49 ?_
              refine z_istore dX9_swap_50 (by decide) rfl ?_
              have L52 : ∀ (m52 : Nat), ∀ (m : Int) (J1 : Nat → Nat → Int), (J 44 s.toNat - m).toNat = m52 → (0 ≤ m ∧ m ≤ J 44 s.toNat) → (J1 = jput (jput J 72 (J 44 s.toNat) (eE J s)) s.toNat (J 44 s.toNat) (fun q : Nat => if q / 4 < (J 44 s.toNat).toNat ∧ q % 4 < (J 44 s.toNat).toNat ∧ (((q / 4 : Nat) : Int) < k ∨ (((q / 4 : Nat) : Int) = k ∧ ((q % 4 : Nat) : Int) < m)) then eE J s (4 * swi i.toNat j.toNat (q / 4) + swi i.toNat j.toNat (q % 4)) else eE J s q)) → Z g l MX9_swap 52 [some (.ref 42), some (.int (iZ s)), some (.int (iZ i)), some (.int (iZ j)), some (.int (iZ k)), some (.int (iZ m)), none, none] [] (KF Kd, zi J1, zj P, RF Rd, n, s0) Q0 := by
                intro m52
                induction m52 using Nat.strongRecOn with
                | ind m52 ih52 =>
                  intro m J1 hm52 hm hJ
                  refine z_iload dX9_swap_52 rfl ?_
                  refine z_aload_n dX9_swap_54 rfl rfl ?_
                  refine z_getR (ci := 9) (kf := 1) dX9_swap_55 rfl (by decide) (by decide) rfl w_777 rfl ?_
                  refine z_iload_n dX9_swap_58 rfl rfl ?_
                  refine c_iald dX9_swap_59 rfl (by omega) (by decide) ?_
                  rw [show J1 44 s.toNat = J 44 s.toNat by subst hJ; exact jput_let]
                  refine c_icmp_ge (tgt := 144) dX9_swap_60 (by decide) (by omega) (by omega) (fun h60 => ?_) (fun h60 => ?_)
                  · refine c_iinc dX9_swap_144 rfl (by decide) rfl ?_
                    refine z_goto (tgt := 38) dX9_swap_147 (by decide) ?_
                    exact Z.fg2 (ih38 _ (by omega) _ _ rfl (by omega) (by subst hJ; exact jput_ext (fun q hq => ifc (by omega)))) (zs1 rfl (zs1 rfl (zs1 rfl (zs1 rfl (zs1 rfl (zsn (zsn (zsn zs0))))))))
                  · have L87 : ∀ (a : Int), (0 ≤ a ∧ a < 4) → (a.toNat = swi i.toNat j.toNat k.toNat) → Z g l MX9_swap 87 [some (.ref 42), some (.int (iZ s)), some (.int (iZ i)), some (.int (iZ j)), some (.int (iZ k)), some (.int (iZ m)), some (.int (iZ a)), none] [] (KF Kd, zi J1, zj P, RF Rd, n, s0) Q0 := by
                      intro a ha hA
                      have L111 : ∀ (b : Int), (0 ≤ b ∧ b < 4) → (b.toNat = swi i.toNat j.toNat m.toNat) → Z g l MX9_swap 111 [some (.ref 42), some (.int (iZ s)), some (.int (iZ i)), some (.int (iZ j)), some (.int (iZ k)), some (.int (iZ m)), some (.int (iZ a)), some (.int (iZ b))] [] (KF Kd, zi J1, zj P, RF Rd, n, s0) Q0 := by
                        intro b hbb hB
                        refine z_aload_n dX9_swap_111 rfl rfl ?_
                        refine z_getR (ci := 9) (kf := 0) dX9_swap_112 rfl (by decide) (by decide) rfl w_776 rfl ?_
                        refine c_bipush dX9_swap_115 (by decide) ?_
                        refine z_iload_n dX9_swap_117 rfl rfl ?_
                        refine c_imul dX9_swap_118 ?_
                        refine c_iconst dX9_swap_119 ?_
                        refine z_iload dX9_swap_120 rfl ?_
                        refine c_imul dX9_swap_122 ?_
                        refine c_iadd dX9_swap_123 ?_
                        refine z_iload dX9_swap_124 rfl ?_
                        refine c_iadd dX9_swap_126 ?_
                        refine z_aload_n dX9_swap_127 rfl rfl ?_
                        refine c_bipush dX9_swap_128 (by decide) ?_
                        refine z_iload dX9_swap_130 rfl ?_
                        refine z_iload dX9_swap_132 rfl ?_
                        refine z_callv (N := MX9_entryAt) (ci := 9) (nas := 3) (as := [_, _, _]) dX9_swap_134 w_925 w_922 w_924 ws_25 w_8 (by decide +kernel) rfl rfl rfl (by decide) (Nat.le_of_ble_eq_true rfl) (by decide) (by decide) (ZC.mono (cMX9_entryAt (by omega)) ?_)
                        rintro _ _ ⟨rfl, rfl⟩
                        have e137 : J1 43 (16 * 72 + 4 * a + b).toNat = eE J s (4 * a.toNat + b.toNat) := by
                          subst hJ; rw [show (16 * 72 + 4 * a + b).toNat = 16 * 72 + (4 * a.toNat + b.toNat) by omega, jput_43 (by omega), jput_in (by omega)]
                        rw [e137]
                        refine c_iast dX9_swap_137 rfl (by omega) (by decide) ?_
                        rw [show (16 * s + 4 * k + m).toNat = 16 * s.toNat + (4 * k.toNat + m.toNat) by omega]
                        refine c_iinc dX9_swap_138 rfl (by decide) rfl ?_
                        refine z_goto (tgt := 52) dX9_swap_141 (by decide) ?_
                        exact Z.fg2 (ih52 _ (by omega) _ _ rfl (by omega) (by subst hJ; rw [jput_set (by omega)]; refine jput_ext (fun q hq => ?_); by_cases hq2 : q = 4 * k.toNat + m.toNat; (rw [if_pos hq2, if_pos (by omega), hA, hB, show q / 4 = k.toNat by omega, show q % 4 = m.toNat by omega]); (rw [if_neg hq2]; exact ifc (by omega)))) (zs1 rfl (zs1 rfl (zs1 rfl (zs1 rfl (zs1 rfl (zs1 rfl (zsn (zsn zs0))))))))
                      refine z_iload dX9_swap_87 rfl ?_
                      refine z_iload_n dX9_swap_89 rfl rfl ?_
                      refine c_icmp_ne (tgt := 97) dX9_swap_90 (by decide) (by omega) (by omega) (fun h90 => ?_) (fun h90 => ?_)
                      · refine z_iload dX9_swap_97 rfl ?_
                        refine z_iload_n dX9_swap_99 rfl rfl ?_
                        refine c_icmp_ne (tgt := 107) dX9_swap_100 (by decide) (by omega) (by omega) (fun h100 => ?_) (fun h100 => ?_)
                        · refine z_iload dX9_swap_107 rfl ?_
                          refine z_istore dX9_swap_109 (by decide) rfl ?_
                          exact Z.fg2 (L111 _ (by omega) (by unfold swi; first | rw [if_pos (by omega)] | rw [if_neg (by omega), if_pos (by omega)] | rw [if_neg (by omega), if_neg (by omega)])) (zs1 rfl (zs1 rfl (zs1 rfl (zs1 rfl (zs1 rfl (zs1 rfl (zs1 rfl (zs1 rfl zs0))))))))
                        · refine z_iload_n dX9_swap_103 rfl rfl ?_
                          refine z_goto (tgt := 109) dX9_swap_104 (by decide) ?_
                          refine z_istore dX9_swap_109 (by decide) rfl ?_
                          exact Z.fg2 (L111 _ (by omega) (by unfold swi; first | rw [if_pos (by omega)] | rw [if_neg (by omega), if_pos (by omega)] | rw [if_neg (by omega), if_neg (by omega)])) (zs1 rfl (zs1 rfl (zs1 rfl (zs1 rfl (zs1 rfl (zs1 rfl (zs1 rfl (zs1 rfl zs0))))))))
                      · refine z_iload_n dX9_swap_93 rfl rfl ?_
                        refine z_goto (tgt := 109) dX9_swap_94 (by decide) ?_
                        refine z_istore dX9_swap_109 (by decide) rfl ?_
                        exact Z.fg2 (L111 _ (by omega) (by unfold swi; first | rw [if_pos (by omega)] | rw [if_neg (by omega), if_pos (by omega)] | rw [if_neg (by omega), if_neg (by omega)])) (zs1 rfl (zs1 rfl (zs1 rfl (zs1 rfl (zs1 rfl (zs1 rfl (zs1 rfl (zs1 rfl zs0))))))))
                    refine z_iload dX9_swap_63 rfl ?_
                    refine z_iload_n dX9_swap_65 rfl rfl ?_
                    refine c_icmp_ne (tgt := 73) dX9_swap_66 (by decide) (by omega) (by omega) (fun h66 => ?_) (fun h66 => ?_)
                    · refine z_iload dX9_swap_73 rfl ?_
                      refine z_iload_n dX9_swap_75 rfl rfl ?_
                      refine c_icmp_ne (tgt := 83) dX9_swap_76 (by decide) (by omega) (by omega) (fun h76 => ?_) (fun h76 => ?_)
                      · refine z_iload dX9_swap_83 rfl ?_
                        refine z_istore dX9_swap_85 (by decide) rfl ?_
                        exact Z.fg2 (L87 _ (by omega) (by unfold swi; first | rw [if_pos (by omega)] | rw [if_neg (by omega), if_pos (by omega)] | rw [if_neg (by omega), if_neg (by omega)])) (zs1 rfl (zs1 rfl (zs1 rfl (zs1 rfl (zs1 rfl (zs1 rfl (zs1 rfl (zsn zs0))))))))
                      · refine z_iload_n dX9_swap_79 rfl rfl ?_
                        refine z_goto (tgt := 85) dX9_swap_80 (by decide) ?_
                        refine z_istore dX9_swap_85 (by decide) rfl ?_
                        exact Z.fg2 (L87 _ (by omega) (by unfold swi; first | rw [if_pos (by omega)] | rw [if_neg (by omega), if_pos (by omega)] | rw [if_neg (by omega), if_neg (by omega)])) (zs1 rfl (zs1 rfl (zs1 rfl (zs1 rfl (zs1 rfl (zs1 rfl (zs1 rfl (zsn zs0))))))))
                    · refine z_iload_n dX9_swap_69 rfl rfl ?_
                      refine z_goto (tgt := 85) dX9_swap_70 (by decide) ?_
                      refine z_istore dX9_swap_85 (by decide) rfl ?_
                      exact Z.fg2 (L87 _ (by omega) (by unfold swi; first | rw [if_pos (by omega)] | rw [if_neg (by omega), if_pos (by omega)] | rw [if_neg (by omega), if_neg (by omega)])) (zs1 rfl (zs1 rfl (zs1 rfl (zs1 rfl (zs1 rfl (zs1 rfl (zs1 rfl (zsn zs0))))))))
              exact Z.fg2 (L52 _ _ _ rfl (by omega) (by subst hJ; exact jput_ext (fun q hq => ifc (by omega)))) (zs1 rfl (zs1 rfl (zs1 rfl (zs1 rfl (zs1 rfl (zs1 rfl (zsn (zsn zs0))))))))
        exact Z.fg2 (L38 _ _ _ rfl (by omega) (jput_self (J := jput J 72 (J 44 s.toNat) (eE J s)) (jput_let_ne (by omega)) (fun q hq => by rw [jput_43 (by omega), if_neg (by omega)]; rfl)).symm) (zs1 rfl (zs1 rfl (zs1 rfl (zs1 rfl (zs1 rfl (zsn (zsn (zsn zs0))))))))
      · have g20 := (hb20.resolve_left (fun z => by have := z.1; omega)).2
        clear hb20
        refine c_iconst dX9_swap_26 ?_
        refine c_ireturn dX9_swap_27 rfl ?_
        subst hQ0; refine ⟨_, _, rfl, ?_⟩; unfold aSwap; rw [cif_neg (by omega)]; exact ⟨rfl, pq_refl _, pp_refl _⟩
set_option maxHeartbeats 4000000 in
set_option maxRecDepth 100000 in
theorem cMX9_join {s t u : Int} (hs : rI s) (ht : rI t) (hu : rI u) (hL : okJ J) : ZC g l MX9_join [.ref 42, .int (iZ s), .int (iZ t), .int (iZ u)] (KF Kd, zi J, zj P, RF Rd, n, s0) (fun rr hh => ∃ J' P', hh = (KF Kd, zi J', zj P', RF Rd, n, s0) ∧ rr = some (.int (iZ (aJoin J s t u).1)) ∧ pq (aJoin J s t u).2 J' ∧ pp P P') := by
  refine ZC.of (by decide) (Nat.le_of_ble_eq_true rfl) ?_
  generalize hQ0 : (fun rr hh => ∃ J' P', hh = (KF Kd, zi J', zj P', RF Rd, n, s0) ∧ rr = some (.int (iZ (aJoin J s t u).1)) ∧ pq (aJoin J s t u).2 J' ∧ pp P P' : Option Value → ZH → Prop) = Q0
  show Z g l MX9_join 0 [some (.ref 42), some (.int (iZ s)), some (.int (iZ t)), some (.int (iZ u)), none, none, none] [] (KF Kd, zi J, zj P, RF Rd, n, s0) Q0
  refine z_aload_n dX9_join_0 rfl rfl ?_
  refine z_iload_n dX9_join_1 rfl rfl ?_
  refine z_callv (N := MX9_hasForm) (ci := 9) (nas := 1) (as := [_]) dX9_join_2 w_948 w_945 w_947 ws_28 w_8 (by decide +kernel) rfl rfl rfl (by decide) (Nat.le_of_ble_eq_true rfl) (by decide) (by decide) (ZC.mono (b_hasForm (by omega) hL) ?_)
  rintro _ _ ⟨b2, rfl, rfl, hb2⟩
  refine c_if_eq (tgt := 23) dX9_join_5 (by decide) (by omega) (fun h5 => ?_) (fun h5 => ?_)
  · have g2 := (hb2.resolve_left (fun z => by have := z.1; omega)).2
    clear hb2
    refine c_iconst dX9_join_23 ?_
    refine c_ireturn dX9_join_24 rfl ?_
    subst hQ0; refine ⟨_, _, rfl, ?_⟩; unfold aJoin; rw [cif_neg (by omega)]; exact ⟨rfl, pq_refl _, pp_refl _⟩
  · have g2 := (hb2.resolve_right (fun z => by have := z.1; omega)).2
    clear hb2
    refine z_aload_n dX9_join_8 rfl rfl ?_
    refine z_iload_n dX9_join_9 rfl rfl ?_
    refine z_callv (N := MX9_hasForm) (ci := 9) (nas := 1) (as := [_]) dX9_join_10 w_948 w_945 w_947 ws_28 w_8 (by decide +kernel) rfl rfl rfl (by decide) (Nat.le_of_ble_eq_true rfl) (by decide) (by decide) (ZC.mono (b_hasForm (by omega) hL) ?_)
    rintro _ _ ⟨b10, rfl, rfl, hb10⟩
    refine c_if_eq (tgt := 23) dX9_join_13 (by decide) (by omega) (fun h13 => ?_) (fun h13 => ?_)
    · have g10 := (hb10.resolve_left (fun z => by have := z.1; omega)).2
      clear hb10
      refine c_iconst dX9_join_23 ?_
      refine c_ireturn dX9_join_24 rfl ?_
      subst hQ0; refine ⟨_, _, rfl, ?_⟩; unfold aJoin; rw [cif_neg (by omega)]; exact ⟨rfl, pq_refl _, pp_refl _⟩
    · have g10 := (hb10.resolve_right (fun z => by have := z.1; omega)).2
      clear hb10
      refine z_iload_n dX9_join_16 rfl rfl ?_
      refine z_calls (N := MX9_isSlot) (nas := 1) (as := [_]) dX9_join_17 w_885 w_883 w_884 w_8 (by decide +kernel) rfl rfl (Nat.le_of_ble_eq_true rfl) (by decide) (by decide) (ZC.mono (b_isSlot (by omega)) ?_)
      rintro _ _ ⟨b17, rfl, rfl, hb17⟩
      refine c_if_ne (tgt := 25) dX9_join_20 (by decide) (by omega) (fun h20 => ?_) (fun h20 => ?_)
      · have g17 := (hb17.resolve_right (fun z => by have := z.1; omega)).2
        clear hb17
        have hl4 := okJ_let hL (q := s.toNat) (by omega)
        have hl5 := okJ_let hL (q := t.toNat) (by omega)
        have hfo := okJ_form hL (s := s) (by omega) (by omega)
        have hgo := okJ_form hL (s := t) (by omega) (by omega)
        refine z_aload_n dX9_join_25 rfl rfl ?_
        refine z_getR (ci := 9) (kf := 1) dX9_join_26 rfl (by decide) (by decide) rfl w_777 rfl ?_
        refine z_iload_n dX9_join_29 rfl rfl ?_
        refine c_iald dX9_join_30 rfl (by omega) (by decide) ?_
        refine z_istore dX9_join_31 (by decide) rfl ?_
        refine z_iload dX9_join_33 rfl ?_
        refine z_aload_n dX9_join_35 rfl rfl ?_
        refine z_getR (ci := 9) (kf := 1) dX9_join_36 rfl (by decide) (by decide) rfl w_777 rfl ?_
        refine z_iload_n dX9_join_39 rfl rfl ?_
        refine c_iald dX9_join_40 rfl (by omega) (by decide) ?_
        refine c_iadd dX9_join_41 ?_
        refine c_iconst dX9_join_42 ?_
        refine c_icmp_le (tgt := 49) dX9_join_43 (by decide) (by omega) (by omega) (fun h43 => ?_) (fun h43 => ?_)
        · refine z_aload_n dX9_join_49 rfl rfl ?_
          refine z_iload_n dX9_join_50 rfl rfl ?_
          refine c_bipush dX9_join_51 (by decide) ?_
          refine z_callv (N := MX9_copyTo) (ci := 9) (nas := 2) (as := [_, _]) dX9_join_53 w_940 w_937 w_939 ws_27 w_8 (by decide +kernel) rfl rfl rfl (by decide) (Nat.le_of_ble_eq_true rfl) (by decide) (by decide) (ZC.mono (j_copyTo (by omega) (by omega)) ?_)
          rintro _ _ ⟨rfl, rfl⟩
          refine z_aload_n dX9_join_56 rfl rfl ?_
          refine z_getR (ci := 9) (kf := 1) dX9_join_57 rfl (by decide) (by decide) rfl w_777 rfl ?_
          refine c_bipush dX9_join_60 (by decide) ?_
          refine z_iload dX9_join_62 rfl ?_
          refine z_aload_n dX9_join_64 rfl rfl ?_
          refine z_getR (ci := 9) (kf := 1) dX9_join_65 rfl (by decide) (by decide) rfl w_777 rfl ?_
          refine z_iload_n dX9_join_68 rfl rfl ?_
          refine c_iald dX9_join_69 rfl (by omega) (by decide) ?_
          rw [show jput J (72 : Int).toNat (J 44 s.toNat) (eE J s) 44 t.toNat = J 44 t.toNat from jput_let_ne (by show t.toNat ≠ 72; omega)]
          refine c_iadd dX9_join_70 ?_
          refine c_iast dX9_join_71 rfl (by omega) (by decide) ?_
          rw [show zup (jput J (72 : Int).toNat (J 44 s.toNat) (eE J s)) 44 (72 : Int).toNat (J 44 s.toNat + J 44 t.toNat) = jput J 72 (J 44 s.toNat + J 44 t.toNat) (eE J s) from jput_setl]
          refine c_iconst dX9_join_72 ?_
          refine z_istore dX9_join_73 (by decide) rfl ?_
          have L75 : ∀ (m75 : Nat), ∀ (i : Int) (J1 : Nat → Nat → Int), (J 44 t.toNat - i).toNat = m75 → (0 ≤ i ∧ i ≤ J 44 t.toNat) → (J1 = jput J 72 (J 44 s.toNat + J 44 t.toNat) (fun q : Nat => if (J 44 s.toNat).toNat ≤ q / 4 ∧ q / 4 < (J 44 s.toNat).toNat + (J 44 t.toNat).toNat ∧ (J 44 s.toNat).toNat ≤ q % 4 ∧ q % 4 < (J 44 s.toNat).toNat + (J 44 t.toNat).toNat ∧ (((q / 4 : Nat) : Int) < (J 44 s.toNat) + i ∧ ((q % 4 : Nat) : Int) < (J 44 s.toNat) + i) then eE J t (4 * (q / 4 - (J 44 s.toNat).toNat) + (q % 4 - (J 44 s.toNat).toNat)) else eE J s q)) → Z g l MX9_join 75 [some (.ref 42), some (.int (iZ s)), some (.int (iZ t)), some (.int (iZ u)), some (.int (iZ (J 44 s.toNat))), some (.int (iZ i)), none] [] (KF Kd, zi J1, zj P, RF Rd, n, s0) Q0 := by
            intro m75
            induction m75 using Nat.strongRecOn with
            | ind m75 ih75 =>
              intro i J1 hm75 hi hJ
              refine z_iload dX9_join_75 rfl ?_
              refine z_aload_n dX9_join_77 rfl rfl ?_
              refine z_getR (ci := 9) (kf := 1) dX9_join_78 rfl (by decide) (by decide) rfl w_777 rfl ?_
              refine z_iload_n dX9_join_81 rfl rfl ?_
              refine c_iald dX9_join_82 rfl (by omega) (by decide) ?_
              rw [show J1 44 t.toNat = J 44 t.toNat by subst hJ; exact jput_let_ne (by omega)]
              refine c_icmp_ge (tgt := 133) dX9_join_83 (by decide) (by omega) (by omega) (fun h83 => ?_) (fun h83 => ?_)
              · subst hJ
                rw [jput_ext (F := joinE (eE J s) (eE J t) (J 44 s.toNat).toNat (J 44 t.toNat).toNat) (fun q hq => ifc (by omega))]
                refine z_aload_n dX9_join_133 rfl rfl ?_
                refine z_getR (ci := 9) (kf := 1) dX9_join_134 rfl (by decide) (by decide) rfl w_777 rfl ?_
                refine c_bipush dX9_join_137 (by decide) ?_
                refine c_iald dX9_join_139 rfl (by omega) (by decide) ?_
                rw [show jput J 72 (J 44 s.toNat + J 44 t.toNat) (joinE (eE J s) (eE J t) (J 44 s.toNat).toNat (J 44 t.toNat).toNat) 44 (72 : Int).toNat = J 44 s.toNat + J 44 t.toNat from jput_let]
                refine z_istore dX9_join_140 (by decide) rfl ?_
                refine z_aload_n dX9_join_142 rfl rfl ?_
                refine z_iload_n dX9_join_143 rfl rfl ?_
                have hEj : entS (joinE (eE J s) (eE J t) (J 44 s.toNat).toNat (J 44 t.toNat).toNat) := fun q hq => by
                  unfold joinE; split; exact hgo.2.1.1 _ (by omega); exact hfo.2.1.1 q hq
                have hSj : symS (joinE (eE J s) (eE J t) (J 44 s.toNat).toNat (J 44 t.toNat).toNat) := joinE_sym hfo.2.2.1 hgo.2.2.1
                have hR144 := entS_rng hEj
                have hds := detS_small (k := J 44 s.toNat + J 44 t.toNat) hEj hSj (by omega)
                refine z_callv (N := MX9_comes) (ci := 9) (nas := 1) (as := [_]) dX9_join_144 w_910 w_907 w_909 ws_22 w_8 (by decide +kernel) rfl rfl rfl (by decide) (Nat.le_of_ble_eq_true rfl) (by decide) (by decide) (ZC.mono (cMX9_comes (by omega) (by omega) hR144) ?_)
                rintro _ _ ⟨J144, P144, r144, rfl, rfl, hr144, hpp144⟩
                have hr9 : rI r144 := by rcases hr144 with h | h <;> (have := h.2.1; omega)
                refine c_if_ge (tgt := 155) dX9_join_147 (by decide) (by omega) (fun h147 => ?_) (fun h147 => ?_)
                · refine z_iload dX9_join_155 rfl ?_
                  refine c_ireturn dX9_join_157 rfl ?_
                  subst hQ0; refine ⟨_, _, rfl, ?_⟩; unfold aJoin; rw [cif_pos (by omega), cif_pos (by omega)]; unfold aComes
                  rcases hr144 with ⟨z1, z2, z3⟩ | ⟨z1, z2, z3⟩
                  · rw [cif_pos z1]; subst z3; first | exact ⟨rfl, pq_jput pq_new, hpp144⟩ | (exfalso; omega)
                  · rw [cif_neg z1]; subst z3; first | exact ⟨rfl, pq_new, hpp144⟩ | (exfalso; omega)
                · refine c_bipush dX9_join_150 (by decide) ?_
                  refine z_goto (tgt := 157) dX9_join_152 (by decide) ?_
                  refine c_ireturn dX9_join_157 rfl ?_
                  subst hQ0; refine ⟨_, _, rfl, ?_⟩; unfold aJoin; rw [cif_pos (by omega), cif_pos (by omega)]; unfold aComes
                  rcases hr144 with ⟨z1, z2, z3⟩ | ⟨z1, z2, z3⟩
                  · rw [cif_pos z1]; subst z3; first | exact ⟨rfl, pq_jput pq_new, hpp144⟩ | (exfalso; omega)
                  · rw [cif_neg z1]; subst z3; first | exact ⟨rfl, pq_new, hpp144⟩ | (exfalso; omega)
              · refine c_iconst dX9_join_86 ?_
                refine z_istore dX9_join_87 (by decide) rfl ?_
                have L89 : ∀ (m89 : Nat), ∀ (j : Int) (J1 : Nat → Nat → Int), (i + 1 - j).toNat = m89 → (0 ≤ j ∧ j ≤ i + 1) → (J1 = jput J 72 (J 44 s.toNat + J 44 t.toNat) (fun q : Nat => if (J 44 s.toNat).toNat ≤ q / 4 ∧ q / 4 < (J 44 s.toNat).toNat + (J 44 t.toNat).toNat ∧ (J 44 s.toNat).toNat ≤ q % 4 ∧ q % 4 < (J 44 s.toNat).toNat + (J 44 t.toNat).toNat ∧ ((((q / 4 : Nat) : Int) < (J 44 s.toNat) + i ∧ ((q % 4 : Nat) : Int) < (J 44 s.toNat) + i) ∨ (((q / 4 : Nat) : Int) = (J 44 s.toNat) + i ∧ ((q % 4 : Nat) : Int) < (J 44 s.toNat) + j) ∨ (((q % 4 : Nat) : Int) = (J 44 s.toNat) + i ∧ ((q / 4 : Nat) : Int) < (J 44 s.toNat) + j)) then eE J t (4 * (q / 4 - (J 44 s.toNat).toNat) + (q % 4 - (J 44 s.toNat).toNat)) else eE J s q)) → Z g l MX9_join 89 [some (.ref 42), some (.int (iZ s)), some (.int (iZ t)), some (.int (iZ u)), some (.int (iZ (J 44 s.toNat))), some (.int (iZ i)), some (.int (iZ j))] [] (KF Kd, zi J1, zj P, RF Rd, n, s0) Q0 := by
                  intro m89
                  induction m89 using Nat.strongRecOn with
                  | ind m89 ih89 =>
                    intro j J1 hm89 hj hJ
                    refine z_iload dX9_join_89 rfl ?_
                    refine z_iload dX9_join_91 rfl ?_
                    refine c_icmp_gt (tgt := 127) dX9_join_93 (by decide) (by omega) (by omega) (fun h93 => ?_) (fun h93 => ?_)
                    · refine c_iinc dX9_join_127 rfl (by decide) rfl ?_
                      refine z_goto (tgt := 75) dX9_join_130 (by decide) ?_
                      exact Z.fg2 (ih75 _ (by omega) _ _ rfl (by omega) (by subst hJ; exact jput_ext (fun q hq => ifc (by omega)))) (zs1 rfl (zs1 rfl (zs1 rfl (zs1 rfl (zs1 rfl (zs1 rfl (zsn zs0)))))))
                    · refine z_aload_n dX9_join_96 rfl rfl ?_
                      refine c_bipush dX9_join_97 (by decide) ?_
                      refine z_iload dX9_join_99 rfl ?_
                      refine z_iload dX9_join_101 rfl ?_
                      refine c_iadd dX9_join_103 ?_
                      refine z_iload dX9_join_104 rfl ?_
                      refine z_iload dX9_join_106 rfl ?_
                      refine c_iadd dX9_join_108 ?_
                      refine z_aload_n dX9_join_109 rfl rfl ?_
                      refine z_iload_n dX9_join_110 rfl rfl ?_
                      refine z_iload dX9_join_111 rfl ?_
                      refine z_iload dX9_join_113 rfl ?_
                      refine z_callv (N := MX9_entryAt) (ci := 9) (nas := 3) (as := [_, _, _]) dX9_join_115 w_925 w_922 w_924 ws_25 w_8 (by decide +kernel) rfl rfl rfl (by decide) (Nat.le_of_ble_eq_true rfl) (by decide) (by decide) (ZC.mono (cMX9_entryAt (by omega)) ?_)
                      rintro _ _ ⟨rfl, rfl⟩
                      have e118 : J1 43 (16 * t + 4 * i + j).toNat = eE J t (4 * i.toNat + j.toNat) := by
                        subst hJ; rw [show (16 * t + 4 * i + j).toNat = 16 * t.toNat + (4 * i.toNat + j.toNat) by omega, jput_43 (by omega)]; rfl
                      rw [e118]
                      subst hJ
                      refine z_callv (N := MX9_layEntry) (ci := 9) (nas := 4) (as := [_, _, _, _]) dX9_join_118 w_897 w_894 w_896 ws_21 w_8 (by decide +kernel) rfl rfl rfl (by decide) (Nat.le_of_ble_eq_true rfl) (by decide) (by decide) (ZC.mono (j_layEntry (by omega) (by omega) (by omega)) ?_)
                      rintro _ _ ⟨rfl, rfl⟩
                      refine c_iinc dX9_join_121 rfl (by decide) rfl ?_
                      refine z_goto (tgt := 89) dX9_join_124 (by decide) ?_
                      exact Z.fg2 (ih89 _ (by omega) _ _ rfl (by omega) (jput_ext (fun q hq => by unfold setE; exact join_step hgo.2.2.1 (by omega) (by omega) (by omega) hq))) (zs1 rfl (zs1 rfl (zs1 rfl (zs1 rfl (zs1 rfl (zs1 rfl (zs1 rfl zs0)))))))
                exact Z.fg2 (L89 _ _ _ rfl (by omega) (by subst hJ; exact jput_ext (fun q hq => ifc (by omega)))) (zs1 rfl (zs1 rfl (zs1 rfl (zs1 rfl (zs1 rfl (zs1 rfl (zs1 rfl zs0)))))))
          exact Z.fg2 (L75 _ _ _ rfl (by omega) (jput_ext (fun q hq => by rw [if_neg (by omega)]))) (zs1 rfl (zs1 rfl (zs1 rfl (zs1 rfl (zs1 rfl (zs1 rfl (zsn zs0)))))))
        · refine c_bipush dX9_join_46 (by decide) ?_
          refine c_ireturn dX9_join_48 rfl ?_
          subst hQ0; refine ⟨_, _, rfl, ?_⟩; unfold aJoin; rw [cif_pos (by omega), cif_neg (by omega)]; exact ⟨rfl, pq_refl _, pp_refl _⟩
      · have g17 := (hb17.resolve_left (fun z => by have := z.1; omega)).2
        clear hb17
        refine c_iconst dX9_join_23 ?_
        refine c_ireturn dX9_join_24 rfl ?_
        subst hQ0; refine ⟨_, _, rfl, ?_⟩; unfold aJoin; rw [cif_neg (by omega)]; exact ⟨rfl, pq_refl _, pp_refl _⟩
end Ref9
