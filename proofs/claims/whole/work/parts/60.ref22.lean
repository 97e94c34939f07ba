section Ref22
variable {g : ZG} {l : Launch} {Kd : ZK} {Rd : ZR} {n s0 : Nat} {J P : Nat → Nat → Int}
theorem RowSt_C {J J' : Nat → Nat → Int} {rest : List V4} (h : RowSt J rest) (ho : offC J J') : RowSt J' rest := by
  unfold RowSt
  rw [ho.1 57 (by decide) (by decide) (by decide), ho.1 58 (by decide) (by decide) (by decide), ho.2 26 (by decide) (by decide) (by decide)]; exact h
theorem nx_a {J : Nat → Nat → Int} {p nl k : Int} {E : Nat → Int} (hk : k = 0) (h : RowSt J (rAll (bndC nl E (truF nl E) 0) (bndC nl E (truF nl E) 1) (bndC nl E (truF nl E) 2)) ∧ Par J p nl E (truF nl E)) : ((1 : Int) = 1 ∧ ∃ rest1, nxL nl E k = (kidF nl E (truF nl E) rest1).take (64 - (0 : Int)).toNat ∧ RowSt J rest1 ∧ Par J p nl E (truF nl E) ∧ k ≤ 7880599) ∨ ((1 : Int) = 0 ∧ nxL nl E k = []) := by
  subst hk
  exact Or.inl ⟨rfl, _, rfl, h.1, h.2, by omega⟩
theorem nx_b {J : Nat → Nat → Int} {p nl k : Int} {E : Nat → Int} (hk : rI k) (g : 0 ≤ k - 1 ∧ ∃ x rest', (kidF nl E (truF nl E) (rAll (bndC nl E (truF nl E) 0) (bndC nl E (truF nl E) 1) (bndC nl E (truF nl E) 2)))[(k - 1).toNat]? = some x ∧ (kidF nl E (truF nl E) (rAll (bndC nl E (truF nl E) 0) (bndC nl E (truF nl E) 1) (bndC nl E (truF nl E) 2))).drop ((k - 1).toNat + 1) = kidF nl E (truF nl E) rest' ∧ RowSt J rest' ∧ KidNew J nl E (truF nl E) x) (h : Par J p nl E (truF nl E)) : ((1 : Int) = 1 ∧ ∃ rest1, nxL nl E k = (kidF nl E (truF nl E) rest1).take (64 - (0 : Int)).toNat ∧ RowSt J rest1 ∧ Par J p nl E (truF nl E) ∧ k ≤ 7880599) ∨ ((1 : Int) = 0 ∧ nxL nl E k = []) := by
  obtain ⟨h0, x, rest', h1, h2, h3, h4⟩ := g
  refine Or.inl ⟨rfl, rest', ?_, h3, h, ?_⟩
  · unfold nxL
    rw [show k.toNat = (k - 1).toNat + 1 by omega, show (kids nl E).drop ((k - 1).toNat + 1) = kidF nl E (truF nl E) rest' from h2]; rfl
  · have h5 := (List.getElem?_eq_some_iff.mp h1).1
    have h6 : (kidF nl E (truF nl E) (rAll (bndC nl E (truF nl E) 0) (bndC nl E (truF nl E) 1) (bndC nl E (truF nl E) 2))).length ≤ 7880599 := kids_len nl E
    omega
theorem nx_c {P : Prop} {nl k : Int} {E : Nat → Int} (hk : 0 ≤ k - 1) (g : ¬ (0 ≤ k - 1 ∧ k - 1 < ((kidF nl E (truF nl E) (rAll (bndC nl E (truF nl E) 0) (bndC nl E (truF nl E) 1) (bndC nl E (truF nl E) 2))).length : Int))) : P ∨ ((0 : Int) = 0 ∧ nxL nl E k = []) := by
  refine Or.inr ⟨rfl, ?_⟩
  unfold nxL
  have h : (kids nl E).length ≤ k.toNat := by have h1 : ¬ (0 ≤ k - 1 ∧ k - 1 < ((kids nl E).length : Int)) := g; omega
  rw [List.drop_eq_nil_of_le h]; rfl
set_option maxHeartbeats 4000000 in
set_option maxRecDepth 100000 in
theorem cMX9_children {s : Int} (hs : rI s) (hL : okJ J) : ZC g l MX9_children [.ref 42, .int (iZ s)] (KF Kd, zi J, zj P, RF Rd, n, s0) (fun rr hh => ∃ J' P', hh = (KF Kd, zi J', zj P', RF Rd, n, s0) ∧ rr = some (.int (iZ (aChildren J s))) ∧ pq J J' ∧ pp P P') := by
  refine ZC.of (by decide) (Nat.le_of_ble_eq_true rfl) ?_
  generalize hQ0 : (fun rr hh => ∃ J' P', hh = (KF Kd, zi J', zj P', RF Rd, n, s0) ∧ rr = some (.int (iZ (aChildren J s))) ∧ pq J J' ∧ pp P P' : Option Value → ZH → Prop) = Q0
  show Z g l MX9_children 0 [some (.ref 42), some (.int (iZ s)), none, none] [] (KF Kd, zi J, zj P, RF Rd, n, s0) Q0
  refine z_aload_n dX9_children_0 rfl rfl ?_
  refine z_iload_n dX9_children_1 rfl rfl ?_
  refine z_callv (N := MX9_hasForm) (ci := 9) (nas := 1) (as := [_]) dX9_children_2 w_948 w_945 w_947 ws_28 w_8 (by decide +kernel) rfl rfl rfl (by decide) (Nat.le_of_ble_eq_true rfl) (by decide) (by decide) (ZC.mono (b_hasForm (by omega) hL) ?_)
  rintro _ _ ⟨b2, rfl, rfl, hb2⟩
  refine c_if_ne (tgt := 10) dX9_children_5 (by decide) (by omega) (fun h5 => ?_) (fun h5 => ?_)
  · have g2 := (hb2.resolve_right (fun z => by have := z.1; omega)).2
    clear hb2
    have hp12 : 0 ≤ s ∧ s < 72 := by omega
    have h112 : 1 ≤ J 44 (s).toNat := by omega
    have hF12 := okJ_form hL (s := s) (by omega) (by omega)
    have hgb : grow (J 44 (s).toNat) (eE J (s)) = 0 ∨ grow (J 44 (s).toNat) (eE J (s)) = -3 ∨ grow (J 44 (s).toNat) (eE J (s)) = -4 := by unfold grow; split; simp; split <;> simp
    refine z_aload_n dX9_children_10 rfl rfl ?_
    refine z_iload_n dX9_children_11 rfl rfl ?_
    refine z_callv (N := MX9_beginChildren) (ci := 9) (nas := 1) (as := [_]) dX9_children_12 w_1118 w_1115 w_1117 ws_42 w_8 (by decide +kernel) rfl rfl rfl (by decide) (Nat.le_of_ble_eq_true rfl) (by decide) (by decide) (ZC.mono (cMX9_beginChildren hp12 h112 hF12) ?_)
    rintro _ _ ⟨J2, P2, rfl, rfl, hq2, hpq2, hst⟩
    refine z_istore_n dX9_children_15 rfl (by decide) rfl ?_
    refine z_iload_n dX9_children_16 rfl rfl ?_
    refine c_if_eq (tgt := 22) dX9_children_17 (by decide) (by omega) (fun h17 => ?_) (fun h17 => ?_)
    · have hg0 : grow (J 44 s.toNat) (eE J s) = 0 := by omega
      have hst1 := hst hg0
      have hkl := kids_len (J 44 s.toNat) (eE J s)
      refine c_iconst dX9_children_22 ?_
      refine z_istore_n dX9_children_23 rfl (by decide) rfl ?_
      have L24 : ∀ (m24 : Nat), ∀ (c : Int) (rest1 : List V4) (J1 P1 : Nat → Nat → Int), (((kidF (J 44 s.toNat) (eE J s) (truF (J 44 s.toNat) (eE J s)) rest1).length : Int)).toNat = m24 → (0 ≤ c) → (((kids (J 44 s.toNat) (eE J s)).length : Int) = c + ((kidF (J 44 s.toNat) (eE J s) (truF (J 44 s.toNat) (eE J s)) rest1).length : Int)) → (RowSt J1 rest1) → (Par J1 s (J 44 s.toNat) (eE J s) (truF (J 44 s.toNat) (eE J s))) → (pq J J1) → (pp P P1) → Z g l MX9_children 24 [some (.ref 42), some (.int (iZ s)), some (.int (iZ (grow (J 44 s.toNat) (eE J s)))), some (.int (iZ c))] [] (KF Kd, zi J1, zj P1, RF Rd, n, s0) Q0 := by
        intro m24
        induction m24 using Nat.strongRecOn with
        | ind m24 ih24 =>
          intro c rest1 J1 P1 hm24 hc hK hS1 hPa hq hpp
          refine z_aload_n dX9_children_24 rfl rfl ?_
          refine z_callv (N := MX9_nextChild) (ci := 9) (nas := 0) (as := []) dX9_children_25 w_1122 w_1119 w_1121 ws_43 w_8 (by decide +kernel) rfl rfl rfl (by decide) (Nat.le_of_ble_eq_true rfl) (by decide) (by decide) (ZC.mono (cMX9_nextChild hS1 hPa) ?_)
          rintro _ _ ⟨J3, P3, b25, rfl, rfl, hb25, hO3, hPo3⟩
          refine c_if_eq (tgt := 37) dX9_children_28 (by decide) (by omega) (fun h28 => ?_) (fun h28 => ?_)
          · have g25 := (hb25.resolve_left (fun z => by have := z.1; omega)).2
            clear hb25
            refine z_iload_n dX9_children_37 rfl rfl ?_
            refine c_ireturn dX9_children_38 rfl ?_
            subst hQ0; refine ⟨_, _, rfl, ?_, pq_trans hq (pq_offK hO3), pp_trans hpp (pp_offP hPo3)⟩; unfold aChildren; rw [cif_pos (by omega), if_pos hg0, hK, g25, List.length_nil]; simp
          · have g25 := (hb25.resolve_right (fun z => by have := z.1; omega)).2
            clear hb25
            obtain ⟨x, rest2, hk2, hS2, hN2⟩ := g25
            rw [hk2, List.length_cons] at hK
            refine c_iinc dX9_children_31 rfl (by decide) rfl ?_
            refine z_goto (tgt := 24) dX9_children_34 (by decide) ?_
            exact Z.fg2 (ih24 _ (by rw [hk2, List.length_cons] at hm24; omega) _ rest2 _ _ rfl (by omega) (by omega) hS2 (Par_off hPa hO3) (pq_trans hq (pq_offK hO3)) (pp_trans hpp (pp_offP hPo3))) (zs1 rfl (zs1 rfl (zs1 rfl (zs1 rfl zs0))))
      exact Z.fg2 (L24 _ _ (rAll (bndC (J 44 s.toNat) (eE J s) (truF (J 44 s.toNat) (eE J s)) 0) (bndC (J 44 s.toNat) (eE J s) (truF (J 44 s.toNat) (eE J s)) 1) (bndC (J 44 s.toNat) (eE J s) (truF (J 44 s.toNat) (eE J s)) 2)) _ _ rfl (by omega) (by rw [Int.zero_add]; rfl) hst1.1 hst1.2 hq2 hpq2) (zs1 rfl (zs1 rfl (zs1 rfl (zs1 rfl zs0))))
    · refine z_iload_n dX9_children_20 rfl rfl ?_
      refine c_ireturn dX9_children_21 rfl ?_
      subst hQ0; refine ⟨_, _, rfl, ?_, hq2, hpq2⟩; unfold aChildren; rw [cif_pos (by omega), if_neg (by omega)]
  · have g2 := (hb2.resolve_left (fun z => by have := z.1; omega)).2
    clear hb2
    refine c_iconst dX9_children_8 ?_
    refine c_ireturn dX9_children_9 rfl ?_
    subst hQ0; refine ⟨_, _, rfl, ?_⟩; unfold aChildren; rw [cif_neg (by omega)]; exact ⟨rfl, pq_refl _, pp_refl _⟩
set_option maxHeartbeats 4000000 in
set_option maxRecDepth 100000 in
theorem cMX9_child {s k t : Int} (hs : rI s) (hk : rI k) (ht : rI t) (hL : okJ J) : ZC g l MX9_child [.ref 42, .int (iZ s), .int (iZ k), .int (iZ t)] (KF Kd, zi J, zj P, RF Rd, n, s0) (fun rr hh => ∃ J' P', hh = (KF Kd, zi J', zj P', RF Rd, n, s0) ∧ rr = some (.int (iZ (aChild J s k t).1)) ∧ pq (aChild J s k t).2 J' ∧ pp P P') := by
  refine ZC.of (by decide) (Nat.le_of_ble_eq_true rfl) ?_
  generalize hQ0 : (fun rr hh => ∃ J' P', hh = (KF Kd, zi J', zj P', RF Rd, n, s0) ∧ rr = some (.int (iZ (aChild J s k t).1)) ∧ pq (aChild J s k t).2 J' ∧ pp P P' : Option Value → ZH → Prop) = Q0
  show Z g l MX9_child 0 [some (.ref 42), some (.int (iZ s)), some (.int (iZ k)), some (.int (iZ t)), none] [] (KF Kd, zi J, zj P, RF Rd, n, s0) Q0
  refine z_aload_n dX9_child_0 rfl rfl ?_
  refine z_iload_n dX9_child_1 rfl rfl ?_
  refine z_callv (N := MX9_hasForm) (ci := 9) (nas := 1) (as := [_]) dX9_child_2 w_948 w_945 w_947 ws_28 w_8 (by decide +kernel) rfl rfl rfl (by decide) (Nat.le_of_ble_eq_true rfl) (by decide) (by decide) (ZC.mono (b_hasForm (by omega) hL) ?_)
  rintro _ _ ⟨b2, rfl, rfl, hb2⟩
  refine c_if_eq (tgt := 15) dX9_child_5 (by decide) (by omega) (fun h5 => ?_) (fun h5 => ?_)
  · have g2 := (hb2.resolve_left (fun z => by have := z.1; omega)).2
    clear hb2
    refine c_iconst dX9_child_15 ?_
    refine c_ireturn dX9_child_16 rfl ?_
    subst hQ0; refine ⟨_, _, rfl, ?_⟩; unfold aChild; rw [cif_neg (by omega)]; exact ⟨rfl, pq_refl _, pp_refl _⟩
  · have g2 := (hb2.resolve_right (fun z => by have := z.1; omega)).2
    clear hb2
    refine z_iload_n dX9_child_8 rfl rfl ?_
    refine z_calls (N := MX9_isSlot) (nas := 1) (as := [_]) dX9_child_9 w_885 w_883 w_884 w_8 (by decide +kernel) rfl rfl (Nat.le_of_ble_eq_true rfl) (by decide) (by decide) (ZC.mono (b_isSlot (by omega)) ?_)
    rintro _ _ ⟨b9, rfl, rfl, hb9⟩
    refine c_if_ne (tgt := 17) dX9_child_12 (by decide) (by omega) (fun h12 => ?_) (fun h12 => ?_)
    · have g9 := (hb9.resolve_right (fun z => by have := z.1; omega)).2
      clear hb9
      have hp19 : 0 ≤ s ∧ s < 72 := by omega
      have h119 : 1 ≤ J 44 (s).toNat := by omega
      have hF19 := okJ_form hL (s := s) (by omega) (by omega)
      have hgb : grow (J 44 (s).toNat) (eE J (s)) = 0 ∨ grow (J 44 (s).toNat) (eE J (s)) = -3 ∨ grow (J 44 (s).toNat) (eE J (s)) = -4 := by unfold grow; split; simp; split <;> simp
      refine z_aload_n dX9_child_17 rfl rfl ?_
      refine z_iload_n dX9_child_18 rfl rfl ?_
      refine z_callv (N := MX9_beginChildren) (ci := 9) (nas := 1) (as := [_]) dX9_child_19 w_1118 w_1115 w_1117 ws_42 w_8 (by decide +kernel) rfl rfl rfl (by decide) (Nat.le_of_ble_eq_true rfl) (by decide) (by decide) (ZC.mono (cMX9_beginChildren hp19 h119 hF19) ?_)
      rintro _ _ ⟨J2, P2, rfl, rfl, hq2, hpq2, hst⟩
      refine z_istore dX9_child_22 (by decide) rfl ?_
      refine z_iload dX9_child_24 rfl ?_
      refine c_if_eq (tgt := 32) dX9_child_26 (by decide) (by omega) (fun h26 => ?_) (fun h26 => ?_)
      · have hg0 : grow (J 44 s.toNat) (eE J s) = 0 := by omega
        have hst1 := hst hg0
        have hkl := kids_len (J 44 s.toNat) (eE J s)
        have hlen : ((kidF (J 44 s.toNat) (eE J s) (truF (J 44 s.toNat) (eE J s)) (rAll (bndC (J 44 s.toNat) (eE J s) (truF (J 44 s.toNat) (eE J s)) 0) (bndC (J 44 s.toNat) (eE J s) (truF (J 44 s.toNat) (eE J s)) 1) (bndC (J 44 s.toNat) (eE J s) (truF (J 44 s.toNat) (eE J s)) 2))).length : Int) ≤ 7880599 := by have : (kidF (J 44 s.toNat) (eE J s) (truF (J 44 s.toNat) (eE J s)) (rAll (bndC (J 44 s.toNat) (eE J s) (truF (J 44 s.toNat) (eE J s)) 0) (bndC (J 44 s.toNat) (eE J s) (truF (J 44 s.toNat) (eE J s)) 1) (bndC (J 44 s.toNat) (eE J s) (truF (J 44 s.toNat) (eE J s)) 2))).length ≤ 7880599 := hkl; omega
        have h13 := hst1.2.2.2.2.1
        refine z_aload_n dX9_child_32 rfl rfl ?_
        refine z_iload_n dX9_child_33 rfl rfl ?_
        refine z_callv (N := MX9_isChild) (ci := 9) (nas := 1) (as := [_]) dX9_child_34 w_1134 w_1131 w_1133 ws_45 w_8 (by decide +kernel) rfl rfl rfl (by decide) (Nat.le_of_ble_eq_true rfl) (by decide) (by decide) (ZC.mono (cMX9_isChild hst1.1 hst1.2 (by omega) hlen) ?_)
        rintro _ _ ⟨J3, P3, b34, rfl, rfl, hb34, hO3, hPo3⟩
        refine c_if_ne (tgt := 43) dX9_child_37 (by decide) (by omega) (fun h37 => ?_) (fun h37 => ?_)
        · have g34 := (hb34.resolve_right (fun z => by have := z.1; omega)).2
          clear hb34
          obtain ⟨hk0, x, rest2, hx, hdr, hS2, hN2⟩ := g34
          have hkx : kidE (J 44 s.toNat) (eE J s) k = chE ((J 44 s.toNat)).toNat (eE J s) (truF (J 44 s.toNat) (eE J s)) x := by unfold kidE; rw [show (kids (J 44 s.toNat) (eE J s))[k.toNat]? = some x from hx]; rfl
          have hkk : k < (((kids (J 44 s.toNat) (eE J s))).length : Int) := by have := (List.getElem?_eq_some_iff.mp (show ((kids (J 44 s.toNat) (eE J s)))[k.toNat]? = some x from hx)).1; omega
          have eJ : jput J3 72 ((J 44 s.toNat) + 1) (chE ((J 44 s.toNat)).toNat (eE J s) (truF (J 44 s.toNat) (eE J s)) x) = J3 := jput_self hN2.1 (fun q hq => hN2.2.1 q hq)
          have hR45 := lawS_rng hN2.2.2
          rw [← eJ]
          refine z_aload_n dX9_child_43 rfl rfl ?_
          refine z_iload_n dX9_child_44 rfl rfl ?_
          refine z_callv (N := MX9_comes) (ci := 9) (nas := 1) (as := [_]) dX9_child_45 w_910 w_907 w_909 ws_22 w_8 (by decide +kernel) rfl rfl rfl (by decide) (Nat.le_of_ble_eq_true rfl) (by decide) (by decide) (ZC.mono (cMX9_comes (by omega) (by omega) hR45) ?_)
          rintro _ _ ⟨J45, P45, r45, rfl, rfl, hr45, hpp45⟩
          refine c_ireturn dX9_child_48 rfl ?_
          subst hQ0; refine ⟨_, _, rfl, ?_⟩; unfold aChild; rw [cif_pos (by omega), cif_pos hg0, cif_pos ⟨hk0, hkk⟩]
          rcases hr45 with ⟨z1, z2, z3⟩ | ⟨z1, z2, z3⟩
          · subst z2 z3; refine ⟨by rw [hkx], ?_, pp_trans (pp_trans hpq2 (pp_offP hPo3)) hpp45⟩; rw [hkx]; exact pq_jput (pq_trans (pq_trans hq2 (pq_offK hO3)) pq_new)
          · exact absurd hN2.2.2 z1
        · have g34 := (hb34.resolve_left (fun z => by have := z.1; omega)).2
          clear hb34
          refine c_bipush dX9_child_40 (by decide) ?_
          refine c_ireturn dX9_child_42 rfl ?_
          subst hQ0; refine ⟨_, _, rfl, ?_⟩; unfold aChild; rw [cif_pos (by omega), cif_pos hg0, cif_neg (show ¬ (0 ≤ k ∧ k < (((kids (J 44 s.toNat) (eE J s))).length : Int)) from g34)]; exact ⟨rfl, pq_trans hq2 (pq_offK hO3), pp_trans hpq2 (pp_offP hPo3)⟩
      · refine z_iload dX9_child_29 rfl ?_
        refine c_ireturn dX9_child_31 rfl ?_
        subst hQ0; refine ⟨_, _, rfl, ?_⟩; unfold aChild; rw [cif_pos (by omega), cif_neg (by omega)]; exact ⟨rfl, hq2, hpq2⟩
    · have g9 := (hb9.resolve_left (fun z => by have := z.1; omega)).2
      clear hb9
      refine c_iconst dX9_child_15 ?_
      refine c_ireturn dX9_child_16 rfl ?_
      subst hQ0; refine ⟨_, _, rfl, ?_⟩; unfold aChild; rw [cif_neg (by omega)]; exact ⟨rfl, pq_refl _, pp_refl _⟩
set_option maxHeartbeats 4000000 in
set_option maxRecDepth 100000 in
theorem cMX9_branch {x k : Int} (hx : rI x) (hk : rI k) (hL : okJ J) (hT : okT J) : ZC g l MX9_branch [.ref 42, .int (iZ x), .int (iZ k)] (KF Kd, zi J, zj P, RF Rd, n, s0) (fun rr hh => ∃ J' P', hh = (KF Kd, zi J', zj P', RF Rd, n, s0) ∧ rr = some (.int (iZ (aBranch J x k).1)) ∧ pq (aBranch J x k).2 J' ∧ pp P P') := by
  refine ZC.of (by decide) (Nat.le_of_ble_eq_true rfl) ?_
  generalize hQ0 : (fun rr hh => ∃ J' P', hh = (KF Kd, zi J', zj P', RF Rd, n, s0) ∧ rr = some (.int (iZ (aBranch J x k).1)) ∧ pq (aBranch J x k).2 J' ∧ pp P P' : Option Value → ZH → Prop) = Q0
  show Z g l MX9_branch 0 [some (.ref 42), some (.int (iZ x)), some (.int (iZ k)), none] [] (KF Kd, zi J, zj P, RF Rd, n, s0) Q0
  have hn30 := hT.1.1
  have hn31 := hT.1.2.1
  refine z_aload_n dX9_branch_0 rfl rfl ?_
  refine z_iload_n dX9_branch_1 rfl rfl ?_
  refine z_callv (N := MX9_isNode) (ci := 9) (nas := 1) (as := [_]) dX9_branch_2 w_1154 w_1151 w_1153 ws_47 w_8 (by decide +kernel) rfl rfl rfl (by decide) (Nat.le_of_ble_eq_true rfl) (by decide) (by decide) (ZC.mono (cMX9_isNode (by omega) (by omega)) ?_)
  rintro _ _ ⟨b2, rfl, rfl, hb2⟩
  refine c_if_ne (tgt := 10) dX9_branch_5 (by decide) (by omega) (fun h5 => ?_) (fun h5 => ?_)
  · have g2 := (hb2.resolve_right (fun z => by have := z.1; omega)).2
    clear hb2
    have hk44 : 0 < J 44 (6 + x).toNat := by have := hT.2.2.2.1 x.toNat (by omega); rw [show (6 + x).toNat = 6 + x.toNat by omega]; exact this
    have hp15 : 0 ≤ (6 + x) ∧ (6 + x) < 72 := by omega
    have h115 : 1 ≤ J 44 (6 + x).toNat := by omega
    have hF15 := okJ_form hL (s := (6 + x)) (by omega) (by omega)
    have hgb : grow (J 44 (6 + x).toNat) (eE J (6 + x)) = 0 ∨ grow (J 44 (6 + x).toNat) (eE J (6 + x)) = -3 ∨ grow (J 44 (6 + x).toNat) (eE J (6 + x)) = -4 := by unfold grow; split; simp; split <;> simp
    refine z_aload_n dX9_branch_10 rfl rfl ?_
    refine c_bipush dX9_branch_11 (by decide) ?_
    refine z_iload_n dX9_branch_13 rfl rfl ?_
    refine c_iadd dX9_branch_14 ?_
    refine z_callv (N := MX9_beginChildren) (ci := 9) (nas := 1) (as := [_]) dX9_branch_15 w_1118 w_1115 w_1117 ws_42 w_8 (by decide +kernel) rfl rfl rfl (by decide) (Nat.le_of_ble_eq_true rfl) (by decide) (by decide) (ZC.mono (cMX9_beginChildren hp15 h115 hF15) ?_)
    rintro _ _ ⟨J2, P2, rfl, rfl, hq2, hpq2, hst⟩
    refine z_istore_n dX9_branch_18 rfl (by decide) rfl ?_
    refine z_iload_n dX9_branch_19 rfl rfl ?_
    refine c_if_eq (tgt := 25) dX9_branch_20 (by decide) (by omega) (fun h20 => ?_) (fun h20 => ?_)
    · have hg0 : grow (J 44 (6 + x).toNat) (eE J (6 + x)) = 0 := by omega
      have hst1 := hst hg0
      have hkl := kids_len (J 44 (6 + x).toNat) (eE J (6 + x))
      have hlen : ((kidF (J 44 (6 + x).toNat) (eE J (6 + x)) (truF (J 44 (6 + x).toNat) (eE J (6 + x))) (rAll (bndC (J 44 (6 + x).toNat) (eE J (6 + x)) (truF (J 44 (6 + x).toNat) (eE J (6 + x))) 0) (bndC (J 44 (6 + x).toNat) (eE J (6 + x)) (truF (J 44 (6 + x).toNat) (eE J (6 + x))) 1) (bndC (J 44 (6 + x).toNat) (eE J (6 + x)) (truF (J 44 (6 + x).toNat) (eE J (6 + x))) 2))).length : Int) ≤ 7880599 := by have : (kidF (J 44 (6 + x).toNat) (eE J (6 + x)) (truF (J 44 (6 + x).toNat) (eE J (6 + x))) (rAll (bndC (J 44 (6 + x).toNat) (eE J (6 + x)) (truF (J 44 (6 + x).toNat) (eE J (6 + x))) 0) (bndC (J 44 (6 + x).toNat) (eE J (6 + x)) (truF (J 44 (6 + x).toNat) (eE J (6 + x))) 1) (bndC (J 44 (6 + x).toNat) (eE J (6 + x)) (truF (J 44 (6 + x).toNat) (eE J (6 + x))) 2))).length ≤ 7880599 := hkl; omega
      have h13 := hst1.2.2.2.2.1
      have e42 : J2 42 2 = J 42 2 := hq2.2.2.2.1
      refine z_aload_n dX9_branch_25 rfl rfl ?_
      refine c_getI (ci := 9) (kf := 2) dX9_branch_26 rfl (by decide) (by decide) rfl w_778 ?_
      refine c_bipush dX9_branch_29 (by decide) ?_
      rw [e42]
      refine c_icmp_ne (tgt := 37) dX9_branch_31 (by decide) (by omega) (by omega) (fun h31 => ?_) (fun h31 => ?_)
      · refine z_aload_n dX9_branch_37 rfl rfl ?_
        refine z_iload_n dX9_branch_38 rfl rfl ?_
        refine z_callv (N := MX9_isChild) (ci := 9) (nas := 1) (as := [_]) dX9_branch_39 w_1134 w_1131 w_1133 ws_45 w_8 (by decide +kernel) rfl rfl rfl (by decide) (Nat.le_of_ble_eq_true rfl) (by decide) (by decide) (ZC.mono (cMX9_isChild hst1.1 hst1.2 (by omega) hlen) ?_)
        rintro _ _ ⟨J3, P3, b39, rfl, rfl, hb39, hO3, hPo3⟩
        refine c_if_ne (tgt := 48) dX9_branch_42 (by decide) (by omega) (fun h42 => ?_) (fun h42 => ?_)
        · have g39 := (hb39.resolve_right (fun z => by have := z.1; omega)).2
          clear hb39
          obtain ⟨hk0, y, rest2, hy, hdr, hS2, hN2⟩ := g39
          have hkx : kidE (J 44 (6 + x).toNat) (eE J (6 + x)) k = chE ((J 44 (6 + x).toNat)).toNat (eE J (6 + x)) (truF (J 44 (6 + x).toNat) (eE J (6 + x))) y := by unfold kidE; rw [show (kids (J 44 (6 + x).toNat) (eE J (6 + x)))[k.toNat]? = some y from hy]; rfl
          have hkk : k < (((kids (J 44 (6 + x).toNat) (eE J (6 + x)))).length : Int) := by have := (List.getElem?_eq_some_iff.mp (show ((kids (J 44 (6 + x).toNat) (eE J (6 + x))))[k.toNat]? = some y from hy)).1; omega
          have e42b : J3 42 2 = J 42 2 := (hO3.2.2.2 2 (by decide) (by decide) (by decide) (by decide)).trans e42
          refine z_aload_n dX9_branch_48 rfl rfl ?_
          refine c_bipush dX9_branch_49 (by decide) ?_
          refine c_bipush dX9_branch_51 (by decide) ?_
          refine z_aload_n dX9_branch_53 rfl rfl ?_
          refine c_getI (ci := 9) (kf := 2) dX9_branch_54 rfl (by decide) (by decide) rfl w_778 ?_
          rw [e42b]
          refine c_iadd dX9_branch_57 ?_
          refine z_callv (N := MX9_copyTo) (ci := 9) (nas := 2) (as := [_, _]) dX9_branch_58 w_940 w_937 w_939 ws_27 w_8 (by decide +kernel) rfl rfl rfl (by decide) (Nat.le_of_ble_eq_true rfl) (by decide) (by decide) (ZC.mono (j_copyTo (by omega) (by omega)) ?_)
          rintro _ _ ⟨rfl, rfl⟩
          rw [show J3 44 (72 : Int).toNat = (J 44 (6 + x).toNat) + 1 from hN2.1, jput_ext (E := eE J3 72) (F := kidE (J 44 (6 + x).toNat) (eE J (6 + x)) k) (fun q hq => by rw [hkx]; exact hN2.2.1 q hq)]
          have e42c : jput J3 (6 + J 42 2).toNat ((J 44 (6 + x).toNat) + 1) (kidE (J 44 (6 + x).toNat) (eE J (6 + x)) k) 42 2 = J 42 2 := by rw [jput_off (by decide) (by decide)]; exact e42b
          refine z_aload_n dX9_branch_61 rfl rfl ?_
          refine z_getR (ci := 9) (kf := 3) dX9_branch_62 rfl (by decide) (by decide) rfl w_779 rfl ?_
          refine z_aload_n dX9_branch_65 rfl rfl ?_
          refine c_getI (ci := 9) (kf := 2) dX9_branch_66 rfl (by decide) (by decide) rfl w_778 ?_
          rw [e42c]
          refine z_iload_n dX9_branch_69 rfl rfl ?_
          refine c_iast dX9_branch_70 rfl (by omega) (by decide) ?_
          refine z_aload_n dX9_branch_71 rfl rfl ?_
          refine z_getR (ci := 9) (kf := 4) dX9_branch_72 rfl (by decide) (by decide) rfl w_780 rfl ?_
          refine z_aload_n dX9_branch_75 rfl rfl ?_
          refine c_getI (ci := 9) (kf := 2) dX9_branch_76 rfl (by decide) (by decide) rfl w_778 ?_
          rw [zzr (by decide), e42c]
          refine z_iload_n dX9_branch_79 rfl rfl ?_
          refine c_iast dX9_branch_80 rfl (by omega) (by decide) ?_
          refine z_aload_n dX9_branch_81 rfl rfl ?_
          refine z_dup dX9_branch_82 rfl ?_
          refine c_getI (ci := 9) (kf := 2) dX9_branch_83 rfl (by decide) (by decide) rfl w_778 ?_
          rw [zzr (by decide), zzr (by decide), e42c]
          refine c_iconst dX9_branch_86 ?_
          refine c_iadd dX9_branch_87 ?_
          refine c_putI (ci := 9) (kf := 2) dX9_branch_88 rfl (by decide) (by decide) rfl (by decide) w_778 ?_
          refine z_aload_n dX9_branch_91 rfl rfl ?_
          refine c_getI (ci := 9) (kf := 2) dX9_branch_92 rfl (by decide) (by decide) rfl w_778 ?_
          rw [zz]
          refine c_iconst dX9_branch_95 ?_
          refine c_isub dX9_branch_96 ?_
          refine c_ireturn dX9_branch_97 rfl ?_
          subst hQ0; refine ⟨_, _, rfl, ?_⟩; unfold aBranch; rw [cif_pos (by omega), cif_pos hg0, cif_neg (by omega), cif_pos ⟨hk0, hkk⟩]; refine ⟨?_, pq_jbranch (pq_trans hq2 (pq_offK hO3)), pp_trans hpq2 (pp_offP hPo3)⟩; rw [show J 42 2 + 1 - 1 = J 42 2 by omega]
        · have g39 := (hb39.resolve_left (fun z => by have := z.1; omega)).2
          clear hb39
          refine c_bipush dX9_branch_45 (by decide) ?_
          refine c_ireturn dX9_branch_47 rfl ?_
          subst hQ0; refine ⟨_, _, rfl, ?_⟩; unfold aBranch; rw [cif_pos (by omega), cif_pos hg0, cif_neg (by omega), cif_neg (show ¬ (0 ≤ k ∧ k < (((kids (J 44 (6 + x).toNat) (eE J (6 + x)))).length : Int)) from g39)]; exact ⟨rfl, pq_trans hq2 (pq_offK hO3), pp_trans hpq2 (pp_offP hPo3)⟩
      · refine c_bipush dX9_branch_34 (by decide) ?_
        refine c_ireturn dX9_branch_36 rfl ?_
        subst hQ0; refine ⟨_, _, rfl, ?_⟩; unfold aBranch; rw [cif_pos (by omega), cif_pos hg0, cif_pos (by omega)]; exact ⟨rfl, hq2, hpq2⟩
    · refine z_iload_n dX9_branch_23 rfl rfl ?_
      refine c_ireturn dX9_branch_24 rfl ?_
      subst hQ0; refine ⟨_, _, rfl, ?_⟩; unfold aBranch; rw [cif_pos (by omega), cif_neg (by omega)]; exact ⟨rfl, hq2, hpq2⟩
  · have g2 := (hb2.resolve_left (fun z => by have := z.1; omega)).2
    clear hb2
    refine c_iconst dX9_branch_8 ?_
    refine c_ireturn dX9_branch_9 rfl ?_
    subst hQ0; refine ⟨_, _, rfl, ?_⟩; unfold aBranch; rw [cif_neg (by omega)]; exact ⟨rfl, pq_refl _, pp_refl _⟩
set_option maxHeartbeats 4000000 in
set_option maxRecDepth 100000 in
theorem cMX9_next {s k w : Int} (hs : rI s) (hk : rI k) (hw : rI w) (hL : okJ J) (hR : okR J) : ZC g l MX9_next [.ref 42, .int (iZ s), .int (iZ k), .int (iZ w)] (KF Kd, zi J, zj P, RF Rd, n, s0) (fun rr hh => ∃ J' P', hh = (KF Kd, zi J', zj P', RF Rd, n, s0) ∧ rr = some (.int (iZ (aNext J s k w))) ∧ pq J J' ∧ pp P P') := by
  refine ZC.of (by decide) (Nat.le_of_ble_eq_true rfl) ?_
  generalize hQ0 : (fun rr hh => ∃ J' P', hh = (KF Kd, zi J', zj P', RF Rd, n, s0) ∧ rr = some (.int (iZ (aNext J s k w))) ∧ pq J J' ∧ pp P P' : Option Value → ZH → Prop) = Q0
  show Z g l MX9_next 0 [some (.ref 42), some (.int (iZ s)), some (.int (iZ k)), some (.int (iZ w)), none, none, none, none, none, none, none] [] (KF Kd, zi J, zj P, RF Rd, n, s0) Q0
  refine z_aload_n dX9_next_0 rfl rfl ?_
  refine z_iload_n dX9_next_1 rfl rfl ?_
  refine z_callv (N := MX9_hasForm) (ci := 9) (nas := 1) (as := [_]) dX9_next_2 w_948 w_945 w_947 ws_28 w_8 (by decide +kernel) rfl rfl rfl (by decide) (Nat.le_of_ble_eq_true rfl) (by decide) (by decide) (ZC.mono (b_hasForm (by omega) hL) ?_)
  rintro _ _ ⟨b2, rfl, rfl, hb2⟩
  refine c_if_eq (tgt := 24) dX9_next_5 (by decide) (by omega) (fun h5 => ?_) (fun h5 => ?_)
  · have g2 := (hb2.resolve_left (fun z => by have := z.1; omega)).2
    clear hb2
    refine c_iconst dX9_next_24 ?_
    refine c_ireturn dX9_next_25 rfl ?_
    subst hQ0; refine ⟨_, _, rfl, ?_⟩; unfold aNext; rw [cif_neg (by omega)]; exact ⟨rfl, pq_refl _, pp_refl _⟩
  · have g2 := (hb2.resolve_right (fun z => by have := z.1; omega)).2
    clear hb2
    refine z_iload_n dX9_next_8 rfl rfl ?_
    refine c_if_lt (tgt := 24) dX9_next_9 (by decide) (by omega) (fun h9 => ?_) (fun h9 => ?_)
    · refine c_iconst dX9_next_24 ?_
      refine c_ireturn dX9_next_25 rfl ?_
      subst hQ0; refine ⟨_, _, rfl, ?_⟩; unfold aNext; rw [cif_neg (by omega)]; exact ⟨rfl, pq_refl _, pp_refl _⟩
    · refine z_iload_n dX9_next_12 rfl rfl ?_
      refine c_i2l dX9_next_13 (by omega) ?_
      refine c_lconst0 dX9_next_14 ?_
      refine c_ldc2 (z := 3) dX9_next_15 w_974 (by decide) ?_
      refine z_calls (N := MX9_in) (nas := 3) (as := [_, _, _]) dX9_next_18 w_889 w_887 w_888 w_8 (by decide +kernel) rfl rfl (Nat.le_of_ble_eq_true rfl) (by decide) (by decide) (ZC.mono (b_in (by omega) (by omega) (by omega)) ?_)
      rintro _ _ ⟨b18, rfl, rfl, hb18⟩
      refine c_if_ne (tgt := 26) dX9_next_21 (by decide) (by omega) (fun h21 => ?_) (fun h21 => ?_)
      · have g18 := (hb18.resolve_right (fun z => by have := z.1; omega)).2
        clear hb18
        have hp28 : 0 ≤ s ∧ s < 72 := by omega
        have h128 : 1 ≤ J 44 (s).toNat := by omega
        have hF28 := okJ_form hL (s := s) (by omega) (by omega)
        have hgb : grow (J 44 (s).toNat) (eE J (s)) = 0 ∨ grow (J 44 (s).toNat) (eE J (s)) = -3 ∨ grow (J 44 (s).toNat) (eE J (s)) = -4 := by unfold grow; split; simp; split <;> simp
        refine z_aload_n dX9_next_26 rfl rfl ?_
        refine z_iload_n dX9_next_27 rfl rfl ?_
        refine z_callv (N := MX9_beginChildren) (ci := 9) (nas := 1) (as := [_]) dX9_next_28 w_1118 w_1115 w_1117 ws_42 w_8 (by decide +kernel) rfl rfl rfl (by decide) (Nat.le_of_ble_eq_true rfl) (by decide) (by decide) (ZC.mono (cMX9_beginChildren hp28 h128 hF28) ?_)
        rintro _ _ ⟨J2, P2, rfl, rfl, hq2, hpq2, hst⟩
        refine z_istore dX9_next_31 (by decide) rfl ?_
        refine z_iload dX9_next_33 rfl ?_
        refine c_if_eq (tgt := 41) dX9_next_35 (by decide) (by omega) (fun h35 => ?_) (fun h35 => ?_)
        · have hg0 : grow (J 44 s.toNat) (eE J s) = 0 := by omega
          have hst1 := hst hg0
          have hkl := kids_len (J 44 s.toNat) (eE J s)
          have hlen : ((kidF (J 44 s.toNat) (eE J s) (truF (J 44 s.toNat) (eE J s)) (rAll (bndC (J 44 s.toNat) (eE J s) (truF (J 44 s.toNat) (eE J s)) 0) (bndC (J 44 s.toNat) (eE J s) (truF (J 44 s.toNat) (eE J s)) 1) (bndC (J 44 s.toNat) (eE J s) (truF (J 44 s.toNat) (eE J s)) 2))).length : Int) ≤ 7880599 := by have h9 : (kidF (J 44 s.toNat) (eE J s) (truF (J 44 s.toNat) (eE J s)) (rAll (bndC (J 44 s.toNat) (eE J s) (truF (J 44 s.toNat) (eE J s)) 0) (bndC (J 44 s.toNat) (eE J s) (truF (J 44 s.toNat) (eE J s)) 1) (bndC (J 44 s.toNat) (eE J s) (truF (J 44 s.toNat) (eE J s)) 2))).length ≤ 7880599 := hkl; omega
          have h13 := hst1.2.2.2.2.1
          refine c_iconst dX9_next_41 ?_
          refine z_istore dX9_next_42 (by decide) rfl ?_
          refine c_iconst dX9_next_44 ?_
          refine z_istore dX9_next_45 (by decide) rfl ?_
          refine c_iconst dX9_next_47 ?_
          refine z_istore dX9_next_48 (by decide) rfl ?_
          refine c_bipush dX9_next_50 (by decide) ?_
          refine z_istore dX9_next_52 (by decide) rfl ?_
          refine z_iload_n dX9_next_54 rfl rfl ?_
          refine c_if_eq (tgt := 68) dX9_next_55 (by decide) (by omega) (fun h55 => ?_) (fun h55 => ?_)
          · refine c_iconst dX9_next_68 ?_
            refine z_goto (tgt := 73) dX9_next_69 (by decide) ?_
            refine z_istore dX9_next_73 (by decide) rfl ?_
            have L75 : ∀ (m75 : Nat), ∀ (m c gr f b : Int) (S : List V4) (J1 P1 : Nat → Nat → Int), (64 - m).toNat = m75 → (0 ≤ m ∧ m ≤ 64 ∧ 0 ≤ c ∧ c ≤ m ∧ 0 ≤ gr ∧ gr ≤ 73 ∧ -2 ≤ f ∧ f ≤ 7880663) → ((b = 1 ∧ ∃ rest1, S = (kidF (J 44 s.toNat) (eE J s) (truF (J 44 s.toNat) (eE J s)) rest1).take (64 - m).toNat ∧ RowSt J1 rest1 ∧ Par J1 s (J 44 s.toNat) (eE J s) (truF (J 44 s.toNat) (eE J s)) ∧ k ≤ 7880599) ∨ (b = 0 ∧ S = [])) → (((nxL (J 44 s.toNat) (eE J s) k).length : Int) = m + (S.length : Int)) → (0 < w → nxC (kidL (J 44 s.toNat) (eE J s)) (nxL (J 44 s.toNat) (eE J s) k) = c + nxC (kidL (J 44 s.toNat) (eE J s)) S) → (0 < w → nxG (kidL (J 44 s.toNat) (eE J s)) (nxL (J 44 s.toNat) (eE J s) k) 0 = nxG (kidL (J 44 s.toNat) (eE J s)) S gr) → (0 < w → nxF (kidL (J 44 s.toNat) (eE J s)) (nxL (J 44 s.toNat) (eE J s) k) k (-2) = nxF (kidL (J 44 s.toNat) (eE J s)) S (k + m) f) → (pq J J1) → (pp P P1) → Z g l MX9_next 75 [some (.ref 42), some (.int (iZ s)), some (.int (iZ k)), some (.int (iZ w)), some (.int (iZ (grow (J 44 s.toNat) (eE J s)))), some (.int (iZ m)), some (.int (iZ c)), some (.int (iZ gr)), some (.int (iZ f)), some (.int (iZ b)), none] [] (KF Kd, zi J1, zj P1, RF Rd, n, s0) Q0 := by
              intro m75
              induction m75 using Nat.strongRecOn with
              | ind m75 ih75 =>
                intro m c gr f b S J1 P1 hm75 hm hbS hM hC1 hG1 hF1 hq1 hpp
                refine z_iload dX9_next_75 rfl ?_
                refine c_if_eq (tgt := 168) dX9_next_77 (by decide) (by rcases hbS with h | h <;> (have := h.1; omega)) (fun h77 => ?_) (fun h77 => ?_)
                · refine z_iload_n dX9_next_168 rfl rfl ?_
                  refine c_if_ne (tgt := 177) dX9_next_169 (by decide) (by omega) (fun h169 => ?_) (fun h169 => ?_)
                  · refine z_iload_n dX9_next_177 rfl rfl ?_
                    refine c_iconst dX9_next_178 ?_
                    refine c_icmp_ne (tgt := 187) dX9_next_179 (by decide) (by omega) (by omega) (fun h179 => ?_) (fun h179 => ?_)
                    · refine z_iload_n dX9_next_187 rfl rfl ?_
                      refine c_iconst dX9_next_188 ?_
                      refine c_icmp_ne (tgt := 197) dX9_next_189 (by decide) (by omega) (by omega) (fun h189 => ?_) (fun h189 => ?_)
                      · refine z_iload dX9_next_197 rfl ?_
                        refine c_ireturn dX9_next_199 rfl ?_
                        subst hQ0
                        have hS0 : S = [] := by
                          first
                          | exact (hbS.resolve_left (fun z => by have := z.1; omega)).2
                          | (rcases hbS with ⟨_, r, h, _⟩ | ⟨_, h⟩
                             · rw [h, show (64 - m).toNat = 0 by omega]; exact List.take_zero
                             · exact h)
                          | (rw [hSe, g88]; exact List.take_nil)
                        rw [hS0] at hM hC1 hG1 hF1
                        rw [List.length_nil] at hM
                        refine ⟨_, _, rfl, ?_, (by first | exact pq_trans hq1 (pq_offK hO4) | exact hq1), (by first | exact pp_trans hpp (pp_offP hPo4) | exact hpp)⟩; unfold aNext; rw [cif_pos (by omega), if_pos hg0]
                        first
                        | (rw [if_pos (by omega), hM]; simp)
                        | (rw [if_neg (by omega), if_pos (by omega), hC1 (by omega), nxC]; simp)
                        | (rw [if_neg (by omega), if_neg (by omega), if_pos (by omega), hG1 (by omega), nxG])
                        | (rw [if_neg (by omega), if_neg (by omega), if_neg (by omega), hF1 (by omega), nxF])
                      · refine z_iload dX9_next_192 rfl ?_
                        refine z_goto (tgt := 199) dX9_next_194 (by decide) ?_
                        refine c_ireturn dX9_next_199 rfl ?_
                        subst hQ0
                        have hS0 : S = [] := by
                          first
                          | exact (hbS.resolve_left (fun z => by have := z.1; omega)).2
                          | (rcases hbS with ⟨_, r, h, _⟩ | ⟨_, h⟩
                             · rw [h, show (64 - m).toNat = 0 by omega]; exact List.take_zero
                             · exact h)
                          | (rw [hSe, g88]; exact List.take_nil)
                        rw [hS0] at hM hC1 hG1 hF1
                        rw [List.length_nil] at hM
                        refine ⟨_, _, rfl, ?_, (by first | exact pq_trans hq1 (pq_offK hO4) | exact hq1), (by first | exact pp_trans hpp (pp_offP hPo4) | exact hpp)⟩; unfold aNext; rw [cif_pos (by omega), if_pos hg0]
                        first
                        | (rw [if_pos (by omega), hM]; simp)
                        | (rw [if_neg (by omega), if_pos (by omega), hC1 (by omega), nxC]; simp)
                        | (rw [if_neg (by omega), if_neg (by omega), if_pos (by omega), hG1 (by omega), nxG])
                        | (rw [if_neg (by omega), if_neg (by omega), if_neg (by omega), hF1 (by omega), nxF])
                    · refine z_iload dX9_next_182 rfl ?_
                      refine z_goto (tgt := 199) dX9_next_184 (by decide) ?_
                      refine c_ireturn dX9_next_199 rfl ?_
                      subst hQ0
                      have hS0 : S = [] := by
                        first
                        | exact (hbS.resolve_left (fun z => by have := z.1; omega)).2
                        | (rcases hbS with ⟨_, r, h, _⟩ | ⟨_, h⟩
                           · rw [h, show (64 - m).toNat = 0 by omega]; exact List.take_zero
                           · exact h)
                        | (rw [hSe, g88]; exact List.take_nil)
                      rw [hS0] at hM hC1 hG1 hF1
                      rw [List.length_nil] at hM
                      refine ⟨_, _, rfl, ?_, (by first | exact pq_trans hq1 (pq_offK hO4) | exact hq1), (by first | exact pp_trans hpp (pp_offP hPo4) | exact hpp)⟩; unfold aNext; rw [cif_pos (by omega), if_pos hg0]
                      first
                      | (rw [if_pos (by omega), hM]; simp)
                      | (rw [if_neg (by omega), if_pos (by omega), hC1 (by omega), nxC]; simp)
                      | (rw [if_neg (by omega), if_neg (by omega), if_pos (by omega), hG1 (by omega), nxG])
                      | (rw [if_neg (by omega), if_neg (by omega), if_neg (by omega), hF1 (by omega), nxF])
                  · refine z_iload dX9_next_172 rfl ?_
                    refine z_goto (tgt := 199) dX9_next_174 (by decide) ?_
                    refine c_ireturn dX9_next_199 rfl ?_
                    subst hQ0
                    have hS0 : S = [] := by
                      first
                      | exact (hbS.resolve_left (fun z => by have := z.1; omega)).2
                      | (rcases hbS with ⟨_, r, h, _⟩ | ⟨_, h⟩
                         · rw [h, show (64 - m).toNat = 0 by omega]; exact List.take_zero
                         · exact h)
                      | (rw [hSe, g88]; exact List.take_nil)
                    rw [hS0] at hM hC1 hG1 hF1
                    rw [List.length_nil] at hM
                    refine ⟨_, _, rfl, ?_, (by first | exact pq_trans hq1 (pq_offK hO4) | exact hq1), (by first | exact pp_trans hpp (pp_offP hPo4) | exact hpp)⟩; unfold aNext; rw [cif_pos (by omega), if_pos hg0]
                    first
                    | (rw [if_pos (by omega), hM]; simp)
                    | (rw [if_neg (by omega), if_pos (by omega), hC1 (by omega), nxC]; simp)
                    | (rw [if_neg (by omega), if_neg (by omega), if_pos (by omega), hG1 (by omega), nxG])
                    | (rw [if_neg (by omega), if_neg (by omega), if_neg (by omega), hF1 (by omega), nxF])
                · obtain ⟨hb1, rest1, hSe, hS1, hPa, hk7⟩ := hbS.resolve_right (fun z => by have := z.1; omega)
                  refine z_iload dX9_next_80 rfl ?_
                  refine c_bipush dX9_next_82 (by decide) ?_
                  refine c_icmp_ge (tgt := 168) dX9_next_84 (by decide) (by omega) (by omega) (fun h84 => ?_) (fun h84 => ?_)
                  · refine z_iload_n dX9_next_168 rfl rfl ?_
                    refine c_if_ne (tgt := 177) dX9_next_169 (by decide) (by omega) (fun h169 => ?_) (fun h169 => ?_)
                    · refine z_iload_n dX9_next_177 rfl rfl ?_
                      refine c_iconst dX9_next_178 ?_
                      refine c_icmp_ne (tgt := 187) dX9_next_179 (by decide) (by omega) (by omega) (fun h179 => ?_) (fun h179 => ?_)
                      · refine z_iload_n dX9_next_187 rfl rfl ?_
                        refine c_iconst dX9_next_188 ?_
                        refine c_icmp_ne (tgt := 197) dX9_next_189 (by decide) (by omega) (by omega) (fun h189 => ?_) (fun h189 => ?_)
                        · refine z_iload dX9_next_197 rfl ?_
                          refine c_ireturn dX9_next_199 rfl ?_
                          subst hQ0
                          have hS0 : S = [] := by
                            first
                            | exact (hbS.resolve_left (fun z => by have := z.1; omega)).2
                            | (rcases hbS with ⟨_, r, h, _⟩ | ⟨_, h⟩
                               · rw [h, show (64 - m).toNat = 0 by omega]; exact List.take_zero
                               · exact h)
                            | (rw [hSe, g88]; exact List.take_nil)
                          rw [hS0] at hM hC1 hG1 hF1
                          rw [List.length_nil] at hM
                          refine ⟨_, _, rfl, ?_, (by first | exact pq_trans hq1 (pq_offK hO4) | exact hq1), (by first | exact pp_trans hpp (pp_offP hPo4) | exact hpp)⟩; unfold aNext; rw [cif_pos (by omega), if_pos hg0]
                          first
                          | (rw [if_pos (by omega), hM]; simp)
                          | (rw [if_neg (by omega), if_pos (by omega), hC1 (by omega), nxC]; simp)
                          | (rw [if_neg (by omega), if_neg (by omega), if_pos (by omega), hG1 (by omega), nxG])
                          | (rw [if_neg (by omega), if_neg (by omega), if_neg (by omega), hF1 (by omega), nxF])
                        · refine z_iload dX9_next_192 rfl ?_
                          refine z_goto (tgt := 199) dX9_next_194 (by decide) ?_
                          refine c_ireturn dX9_next_199 rfl ?_
                          subst hQ0
                          have hS0 : S = [] := by
                            first
                            | exact (hbS.resolve_left (fun z => by have := z.1; omega)).2
                            | (rcases hbS with ⟨_, r, h, _⟩ | ⟨_, h⟩
                               · rw [h, show (64 - m).toNat = 0 by omega]; exact List.take_zero
                               · exact h)
                            | (rw [hSe, g88]; exact List.take_nil)
                          rw [hS0] at hM hC1 hG1 hF1
                          rw [List.length_nil] at hM
                          refine ⟨_, _, rfl, ?_, (by first | exact pq_trans hq1 (pq_offK hO4) | exact hq1), (by first | exact pp_trans hpp (pp_offP hPo4) | exact hpp)⟩; unfold aNext; rw [cif_pos (by omega), if_pos hg0]
                          first
                          | (rw [if_pos (by omega), hM]; simp)
                          | (rw [if_neg (by omega), if_pos (by omega), hC1 (by omega), nxC]; simp)
                          | (rw [if_neg (by omega), if_neg (by omega), if_pos (by omega), hG1 (by omega), nxG])
                          | (rw [if_neg (by omega), if_neg (by omega), if_neg (by omega), hF1 (by omega), nxF])
                      · refine z_iload dX9_next_182 rfl ?_
                        refine z_goto (tgt := 199) dX9_next_184 (by decide) ?_
                        refine c_ireturn dX9_next_199 rfl ?_
                        subst hQ0
                        have hS0 : S = [] := by
                          first
                          | exact (hbS.resolve_left (fun z => by have := z.1; omega)).2
                          | (rcases hbS with ⟨_, r, h, _⟩ | ⟨_, h⟩
                             · rw [h, show (64 - m).toNat = 0 by omega]; exact List.take_zero
                             · exact h)
                          | (rw [hSe, g88]; exact List.take_nil)
                        rw [hS0] at hM hC1 hG1 hF1
                        rw [List.length_nil] at hM
                        refine ⟨_, _, rfl, ?_, (by first | exact pq_trans hq1 (pq_offK hO4) | exact hq1), (by first | exact pp_trans hpp (pp_offP hPo4) | exact hpp)⟩; unfold aNext; rw [cif_pos (by omega), if_pos hg0]
                        first
                        | (rw [if_pos (by omega), hM]; simp)
                        | (rw [if_neg (by omega), if_pos (by omega), hC1 (by omega), nxC]; simp)
                        | (rw [if_neg (by omega), if_neg (by omega), if_pos (by omega), hG1 (by omega), nxG])
                        | (rw [if_neg (by omega), if_neg (by omega), if_neg (by omega), hF1 (by omega), nxF])
                    · refine z_iload dX9_next_172 rfl ?_
                      refine z_goto (tgt := 199) dX9_next_174 (by decide) ?_
                      refine c_ireturn dX9_next_199 rfl ?_
                      subst hQ0
                      have hS0 : S = [] := by
                        first
                        | exact (hbS.resolve_left (fun z => by have := z.1; omega)).2
                        | (rcases hbS with ⟨_, r, h, _⟩ | ⟨_, h⟩
                           · rw [h, show (64 - m).toNat = 0 by omega]; exact List.take_zero
                           · exact h)
                        | (rw [hSe, g88]; exact List.take_nil)
                      rw [hS0] at hM hC1 hG1 hF1
                      rw [List.length_nil] at hM
                      refine ⟨_, _, rfl, ?_, (by first | exact pq_trans hq1 (pq_offK hO4) | exact hq1), (by first | exact pp_trans hpp (pp_offP hPo4) | exact hpp)⟩; unfold aNext; rw [cif_pos (by omega), if_pos hg0]
                      first
                      | (rw [if_pos (by omega), hM]; simp)
                      | (rw [if_neg (by omega), if_pos (by omega), hC1 (by omega), nxC]; simp)
                      | (rw [if_neg (by omega), if_neg (by omega), if_pos (by omega), hG1 (by omega), nxG])
                      | (rw [if_neg (by omega), if_neg (by omega), if_neg (by omega), hF1 (by omega), nxF])
                  · refine z_aload_n dX9_next_87 rfl rfl ?_
                    refine z_callv (N := MX9_nextChild) (ci := 9) (nas := 0) (as := []) dX9_next_88 w_1122 w_1119 w_1121 ws_43 w_8 (by decide +kernel) rfl rfl rfl (by decide) (Nat.le_of_ble_eq_true rfl) (by decide) (by decide) (ZC.mono (cMX9_nextChild hS1 hPa) ?_)
                    rintro _ _ ⟨J4, P4, b88, rfl, rfl, hb88, hO4, hPo4⟩
                    refine c_if_eq (tgt := 168) dX9_next_91 (by decide) (by omega) (fun h91 => ?_) (fun h91 => ?_)
                    · have g88 := (hb88.resolve_left (fun z => by have := z.1; omega)).2
                      clear hb88
                      refine z_iload_n dX9_next_168 rfl rfl ?_
                      refine c_if_ne (tgt := 177) dX9_next_169 (by decide) (by omega) (fun h169 => ?_) (fun h169 => ?_)
                      · refine z_iload_n dX9_next_177 rfl rfl ?_
                        refine c_iconst dX9_next_178 ?_
                        refine c_icmp_ne (tgt := 187) dX9_next_179 (by decide) (by omega) (by omega) (fun h179 => ?_) (fun h179 => ?_)
                        · refine z_iload_n dX9_next_187 rfl rfl ?_
                          refine c_iconst dX9_next_188 ?_
                          refine c_icmp_ne (tgt := 197) dX9_next_189 (by decide) (by omega) (by omega) (fun h189 => ?_) (fun h189 => ?_)
                          · refine z_iload dX9_next_197 rfl ?_
                            refine c_ireturn dX9_next_199 rfl ?_
                            subst hQ0
                            have hS0 : S = [] := by
                              first
                              | exact (hbS.resolve_left (fun z => by have := z.1; omega)).2
                              | (rcases hbS with ⟨_, r, h, _⟩ | ⟨_, h⟩
                                 · rw [h, show (64 - m).toNat = 0 by omega]; exact List.take_zero
                                 · exact h)
                              | (rw [hSe, g88]; exact List.take_nil)
                            rw [hS0] at hM hC1 hG1 hF1
                            rw [List.length_nil] at hM
                            refine ⟨_, _, rfl, ?_, (by first | exact pq_trans hq1 (pq_offK hO4) | exact hq1), (by first | exact pp_trans hpp (pp_offP hPo4) | exact hpp)⟩; unfold aNext; rw [cif_pos (by omega), if_pos hg0]
                            first
                            | (rw [if_pos (by omega), hM]; simp)
                            | (rw [if_neg (by omega), if_pos (by omega), hC1 (by omega), nxC]; simp)
                            | (rw [if_neg (by omega), if_neg (by omega), if_pos (by omega), hG1 (by omega), nxG])
                            | (rw [if_neg (by omega), if_neg (by omega), if_neg (by omega), hF1 (by omega), nxF])
                          · refine z_iload dX9_next_192 rfl ?_
                            refine z_goto (tgt := 199) dX9_next_194 (by decide) ?_
                            refine c_ireturn dX9_next_199 rfl ?_
                            subst hQ0
                            have hS0 : S = [] := by
                              first
                              | exact (hbS.resolve_left (fun z => by have := z.1; omega)).2
                              | (rcases hbS with ⟨_, r, h, _⟩ | ⟨_, h⟩
                                 · rw [h, show (64 - m).toNat = 0 by omega]; exact List.take_zero
                                 · exact h)
                              | (rw [hSe, g88]; exact List.take_nil)
                            rw [hS0] at hM hC1 hG1 hF1
                            rw [List.length_nil] at hM
                            refine ⟨_, _, rfl, ?_, (by first | exact pq_trans hq1 (pq_offK hO4) | exact hq1), (by first | exact pp_trans hpp (pp_offP hPo4) | exact hpp)⟩; unfold aNext; rw [cif_pos (by omega), if_pos hg0]
                            first
                            | (rw [if_pos (by omega), hM]; simp)
                            | (rw [if_neg (by omega), if_pos (by omega), hC1 (by omega), nxC]; simp)
                            | (rw [if_neg (by omega), if_neg (by omega), if_pos (by omega), hG1 (by omega), nxG])
                            | (rw [if_neg (by omega), if_neg (by omega), if_neg (by omega), hF1 (by omega), nxF])
                        · refine z_iload dX9_next_182 rfl ?_
                          refine z_goto (tgt := 199) dX9_next_184 (by decide) ?_
                          refine c_ireturn dX9_next_199 rfl ?_
                          subst hQ0
                          have hS0 : S = [] := by
                            first
                            | exact (hbS.resolve_left (fun z => by have := z.1; omega)).2
                            | (rcases hbS with ⟨_, r, h, _⟩ | ⟨_, h⟩
                               · rw [h, show (64 - m).toNat = 0 by omega]; exact List.take_zero
                               · exact h)
                            | (rw [hSe, g88]; exact List.take_nil)
                          rw [hS0] at hM hC1 hG1 hF1
                          rw [List.length_nil] at hM
                          refine ⟨_, _, rfl, ?_, (by first | exact pq_trans hq1 (pq_offK hO4) | exact hq1), (by first | exact pp_trans hpp (pp_offP hPo4) | exact hpp)⟩; unfold aNext; rw [cif_pos (by omega), if_pos hg0]
                          first
                          | (rw [if_pos (by omega), hM]; simp)
                          | (rw [if_neg (by omega), if_pos (by omega), hC1 (by omega), nxC]; simp)
                          | (rw [if_neg (by omega), if_neg (by omega), if_pos (by omega), hG1 (by omega), nxG])
                          | (rw [if_neg (by omega), if_neg (by omega), if_neg (by omega), hF1 (by omega), nxF])
                      · refine z_iload dX9_next_172 rfl ?_
                        refine z_goto (tgt := 199) dX9_next_174 (by decide) ?_
                        refine c_ireturn dX9_next_199 rfl ?_
                        subst hQ0
                        have hS0 : S = [] := by
                          first
                          | exact (hbS.resolve_left (fun z => by have := z.1; omega)).2
                          | (rcases hbS with ⟨_, r, h, _⟩ | ⟨_, h⟩
                             · rw [h, show (64 - m).toNat = 0 by omega]; exact List.take_zero
                             · exact h)
                          | (rw [hSe, g88]; exact List.take_nil)
                        rw [hS0] at hM hC1 hG1 hF1
                        rw [List.length_nil] at hM
                        refine ⟨_, _, rfl, ?_, (by first | exact pq_trans hq1 (pq_offK hO4) | exact hq1), (by first | exact pp_trans hpp (pp_offP hPo4) | exact hpp)⟩; unfold aNext; rw [cif_pos (by omega), if_pos hg0]
                        first
                        | (rw [if_pos (by omega), hM]; simp)
                        | (rw [if_neg (by omega), if_pos (by omega), hC1 (by omega), nxC]; simp)
                        | (rw [if_neg (by omega), if_neg (by omega), if_pos (by omega), hG1 (by omega), nxG])
                        | (rw [if_neg (by omega), if_neg (by omega), if_neg (by omega), hF1 (by omega), nxF])
                    · have g88 := (hb88.resolve_right (fun z => by have := z.1; omega)).2
                      clear hb88
                      obtain ⟨x, rest2, hk2, hS2, hN2⟩ := g88
                      have hSx : S = x :: (kidF (J 44 s.toNat) (eE J s) (truF (J 44 s.toNat) (eE J s)) rest2).take (64 - (m + 1)).toNat := by rw [hSe, hk2, show (64 - m).toNat = (64 - (m + 1)).toNat + 1 by omega, List.take_succ_cons]
                      have hlb := glD_bd (cF ((J 44 s.toNat) + 1) (chE ((J 44 s.toNat)).toNat (eE J s) (truF (J 44 s.toNat) (eE J s)) x)) 9 (by omega)
                      have hlx : (kidL (J 44 s.toNat) (eE J s)) x = glD (cF ((J 44 s.toNat) + 1) (chE ((J 44 s.toNat)).toNat (eE J s) (truF (J 44 s.toNat) (eE J s)) x)) 9 := rfl
                      have hPa4 := Par_off hPa hO4
                      rw [hSx, List.length_cons] at hM
                      refine z_iload_n dX9_next_94 rfl rfl ?_
                      refine c_if_le (tgt := 162) dX9_next_95 (by decide) (by omega) (fun h95 => ?_) (fun h95 => ?_)
                      · refine c_iinc dX9_next_162 rfl (by decide) rfl ?_
                        refine z_goto (tgt := 75) dX9_next_165 (by decide) ?_
                        exact Z.fg2 (ih75 _ (by omega) _ _ _ _ _ ((kidF (J 44 s.toNat) (eE J s) (truF (J 44 s.toNat) (eE J s)) rest2).take (64 - (m + 1)).toNat) _ _ rfl (by omega) (by first | exact Or.inl ⟨hb1, rest2, rfl, RowSt_C hS2 hO5, Par_off hPa4 (offK_C hO5), hk7⟩ | exact Or.inl ⟨hb1, rest2, rfl, hS2, hPa4, hk7⟩) (by omega) (by first | exact fun hw0 => absurd hw0 (by omega) | (intro _; rw [hC2]; first | (exfalso; omega) | (rw [if_pos (by omega)]; omega) | (rw [if_neg (by omega)]; omega))) (by first | exact fun hw0 => absurd hw0 (by omega) | (intro _; rw [hG2]; first | (exfalso; omega) | rw [if_pos (by omega)] | rw [if_neg (by omega)])) (by first | exact fun hw0 => absurd hw0 (by omega) | (intro _; rw [hF2, ← Int.add_assoc]; first | (exfalso; omega) | rw [if_pos (by omega)] | rw [if_neg (by omega)])) (by first | exact pq_trans hq1 (pq_trans (pq_offK hO4) (pq_offC hO5)) | exact pq_trans hq1 (pq_offK hO4)) (by first | exact pp_trans hpp (pp_trans (pp_offP hPo4) (pp_offP hPo5)) | exact pp_trans hpp (pp_offP hPo4))) (zs1 rfl (zs1 rfl (zs1 rfl (zs1 rfl (zs1 rfl (zs1 rfl (zs1 rfl (zs1 rfl (zs1 rfl (zs1 rfl (zsn zs0)))))))))))
                      · have h1n : 1 ≤ J4 44 (72 : Int).toNat := by have h9 : J4 44 72 = _ := hN2.1; show 1 ≤ J4 44 72; omega
                        have hcg : ∀ q, q < 16 → (chE ((J 44 s.toNat)).toNat (eE J s) (truF (J 44 s.toNat) (eE J s)) x) q = eE J4 72 q := fun q hq => (hN2.2.1 q hq).symm
                        have hFn : okF (J4 44 (72 : Int).toNat) (eE J4 72) := by rw [show J4 44 (72 : Int).toNat = (J 44 s.toNat) + 1 from hN2.1]; exact okF_congr hcg (chE_ok h13 hF28 hN2.2.2)
                        have hRq : okR J1 := fun q hq => by rw [hq1.2.2.1 56 (by decide)]; exact hR q hq
                        refine z_aload_n dX9_next_98 rfl rfl ?_
                        refine c_bipush dX9_next_99 (by decide) ?_
                        refine z_callv (N := MX9_layCounts) (ci := 9) (nas := 1) (as := [_]) dX9_next_101 w_1023 w_1020 w_1022 ws_32 w_8 (by decide +kernel) rfl rfl rfl (by decide) (Nat.le_of_ble_eq_true rfl) (by decide) (by decide) (ZC.mono (cLay (p := 72) (by omega) h1n hFn) ?_)
                        rintro _ _ ⟨rfl, J5, P5, rfl, hC, hO5, hPo5⟩
                        have hC5 : CN ((J 44 s.toNat) + 1) (chE ((J 44 s.toNat)).toNat (eE J s) (truF (J 44 s.toNat) (eE J s)) x) J5 := by rw [show J4 44 (72 : Int).toNat = (J 44 s.toNat) + 1 from hN2.1] at hC; exact CN_congr (by omega) (fun q hq => (hcg q hq).symm) hC
                        have hR5 : okR J5 := fun q hq => by rw [hO5.1 56 (by decide) (by decide) (by decide), hO4.1 56 (by decide) (by decide) (by decide) (by decide) (by decide) (by decide)]; exact hRq q hq
                        rw [hSx] at hC1 hG1 hF1
                        have hC2 := hC1 (by omega)
                        have hG2 := hG1 (by omega)
                        have hF2 := hF1 (by omega)
                        rw [nxC] at hC2
                        rw [nxG] at hG2
                        rw [nxF] at hF2
                        clear hC1 hG1 hF1
                        refine z_aload_n dX9_next_104 rfl rfl ?_
                        refine z_callv (N := MX9_greatestLack) (ci := 9) (nas := 0) (as := []) dX9_next_105 w_1142 w_1139 w_1141 ws_46 w_8 (by decide +kernel) rfl rfl rfl (by decide) (Nat.le_of_ble_eq_true rfl) (by decide) (by decide) (ZC.mono (cMX9_greatestLack hC5 hR5) ?_)
                        rintro _ _ ⟨rfl, rfl⟩
                        rw [← hlx]
                        refine z_istore dX9_next_108 (by decide) rfl ?_
                        refine z_iload dX9_next_110 rfl ?_
                        refine z_iload dX9_next_112 rfl ?_
                        refine c_icmp_le (tgt := 122) dX9_next_114 (by decide) (by omega) (by omega) (fun h114 => ?_) (fun h114 => ?_)
                        · refine z_iload dX9_next_122 rfl ?_
                          refine z_istore dX9_next_124 (by decide) rfl ?_
                          refine z_iload dX9_next_126 rfl ?_
                          refine z_iload dX9_next_128 rfl ?_
                          refine c_if_ne (tgt := 137) dX9_next_130 (by decide) (by omega) (fun h130 => ?_) (fun h130 => ?_)
                          · refine c_iconst dX9_next_137 ?_
                            refine c_iadd dX9_next_138 ?_
                            refine z_istore dX9_next_139 (by decide) rfl ?_
                            refine z_iload dX9_next_141 rfl ?_
                            refine c_if_ne (tgt := 158) dX9_next_143 (by decide) (by omega) (fun h143 => ?_) (fun h143 => ?_)
                            · refine z_iload dX9_next_158 rfl ?_
                              refine z_istore dX9_next_160 (by decide) rfl ?_
                              refine c_iinc dX9_next_162 rfl (by decide) rfl ?_
                              refine z_goto (tgt := 75) dX9_next_165 (by decide) ?_
                              exact Z.fg2 (ih75 _ (by omega) _ _ _ _ _ ((kidF (J 44 s.toNat) (eE J s) (truF (J 44 s.toNat) (eE J s)) rest2).take (64 - (m + 1)).toNat) _ _ rfl (by omega) (by first | exact Or.inl ⟨hb1, rest2, rfl, RowSt_C hS2 hO5, Par_off hPa4 (offK_C hO5), hk7⟩ | exact Or.inl ⟨hb1, rest2, rfl, hS2, hPa4, hk7⟩) (by omega) (by first | exact fun hw0 => absurd hw0 (by omega) | (intro _; rw [hC2]; first | (exfalso; omega) | (rw [if_pos (by omega)]; omega) | (rw [if_neg (by omega)]; omega))) (by first | exact fun hw0 => absurd hw0 (by omega) | (intro _; rw [hG2]; first | (exfalso; omega) | rw [if_pos (by omega)] | rw [if_neg (by omega)])) (by first | exact fun hw0 => absurd hw0 (by omega) | (intro _; rw [hF2, ← Int.add_assoc]; first | (exfalso; omega) | rw [if_pos (by omega)] | rw [if_neg (by omega)])) (by first | exact pq_trans hq1 (pq_trans (pq_offK hO4) (pq_offC hO5)) | exact pq_trans hq1 (pq_offK hO4)) (by first | exact pp_trans hpp (pp_trans (pp_offP hPo4) (pp_offP hPo5)) | exact pp_trans hpp (pp_offP hPo4))) (zs1 rfl (zs1 rfl (zs1 rfl (zs1 rfl (zs1 rfl (zs1 rfl (zs1 rfl (zs1 rfl (zs1 rfl (zs1 rfl (zsn zs0)))))))))))
                            · refine z_iload dX9_next_146 rfl ?_
                              refine c_if_ge (tgt := 158) dX9_next_148 (by decide) (by omega) (fun h148 => ?_) (fun h148 => ?_)
                              · refine z_iload dX9_next_158 rfl ?_
                                refine z_istore dX9_next_160 (by decide) rfl ?_
                                refine c_iinc dX9_next_162 rfl (by decide) rfl ?_
                                refine z_goto (tgt := 75) dX9_next_165 (by decide) ?_
                                exact Z.fg2 (ih75 _ (by omega) _ _ _ _ _ ((kidF (J 44 s.toNat) (eE J s) (truF (J 44 s.toNat) (eE J s)) rest2).take (64 - (m + 1)).toNat) _ _ rfl (by omega) (by first | exact Or.inl ⟨hb1, rest2, rfl, RowSt_C hS2 hO5, Par_off hPa4 (offK_C hO5), hk7⟩ | exact Or.inl ⟨hb1, rest2, rfl, hS2, hPa4, hk7⟩) (by omega) (by first | exact fun hw0 => absurd hw0 (by omega) | (intro _; rw [hC2]; first | (exfalso; omega) | (rw [if_pos (by omega)]; omega) | (rw [if_neg (by omega)]; omega))) (by first | exact fun hw0 => absurd hw0 (by omega) | (intro _; rw [hG2]; first | (exfalso; omega) | rw [if_pos (by omega)] | rw [if_neg (by omega)])) (by first | exact fun hw0 => absurd hw0 (by omega) | (intro _; rw [hF2, ← Int.add_assoc]; first | (exfalso; omega) | rw [if_pos (by omega)] | rw [if_neg (by omega)])) (by first | exact pq_trans hq1 (pq_trans (pq_offK hO4) (pq_offC hO5)) | exact pq_trans hq1 (pq_offK hO4)) (by first | exact pp_trans hpp (pp_trans (pp_offP hPo4) (pp_offP hPo5)) | exact pp_trans hpp (pp_offP hPo4))) (zs1 rfl (zs1 rfl (zs1 rfl (zs1 rfl (zs1 rfl (zs1 rfl (zs1 rfl (zs1 rfl (zs1 rfl (zs1 rfl (zsn zs0)))))))))))
                              · refine z_iload_n dX9_next_151 rfl rfl ?_
                                refine z_iload dX9_next_152 rfl ?_
                                refine c_iadd dX9_next_154 ?_
                                refine z_goto (tgt := 160) dX9_next_155 (by decide) ?_
                                refine z_istore dX9_next_160 (by decide) rfl ?_
                                refine c_iinc dX9_next_162 rfl (by decide) rfl ?_
                                refine z_goto (tgt := 75) dX9_next_165 (by decide) ?_
                                exact Z.fg2 (ih75 _ (by omega) _ _ _ _ _ ((kidF (J 44 s.toNat) (eE J s) (truF (J 44 s.toNat) (eE J s)) rest2).take (64 - (m + 1)).toNat) _ _ rfl (by omega) (by first | exact Or.inl ⟨hb1, rest2, rfl, RowSt_C hS2 hO5, Par_off hPa4 (offK_C hO5), hk7⟩ | exact Or.inl ⟨hb1, rest2, rfl, hS2, hPa4, hk7⟩) (by omega) (by first | exact fun hw0 => absurd hw0 (by omega) | (intro _; rw [hC2]; first | (exfalso; omega) | (rw [if_pos (by omega)]; omega) | (rw [if_neg (by omega)]; omega))) (by first | exact fun hw0 => absurd hw0 (by omega) | (intro _; rw [hG2]; first | (exfalso; omega) | rw [if_pos (by omega)] | rw [if_neg (by omega)])) (by first | exact fun hw0 => absurd hw0 (by omega) | (intro _; rw [hF2, ← Int.add_assoc]; first | (exfalso; omega) | rw [if_pos (by omega)] | rw [if_neg (by omega)])) (by first | exact pq_trans hq1 (pq_trans (pq_offK hO4) (pq_offC hO5)) | exact pq_trans hq1 (pq_offK hO4)) (by first | exact pp_trans hpp (pp_trans (pp_offP hPo4) (pp_offP hPo5)) | exact pp_trans hpp (pp_offP hPo4))) (zs1 rfl (zs1 rfl (zs1 rfl (zs1 rfl (zs1 rfl (zs1 rfl (zs1 rfl (zs1 rfl (zs1 rfl (zs1 rfl (zsn zs0)))))))))))
                          · refine c_iconst dX9_next_133 ?_
                            refine z_goto (tgt := 138) dX9_next_134 (by decide) ?_
                            refine c_iadd dX9_next_138 ?_
                            refine z_istore dX9_next_139 (by decide) rfl ?_
                            refine z_iload dX9_next_141 rfl ?_
                            refine c_if_ne (tgt := 158) dX9_next_143 (by decide) (by omega) (fun h143 => ?_) (fun h143 => ?_)
                            · refine z_iload dX9_next_158 rfl ?_
                              refine z_istore dX9_next_160 (by decide) rfl ?_
                              refine c_iinc dX9_next_162 rfl (by decide) rfl ?_
                              refine z_goto (tgt := 75) dX9_next_165 (by decide) ?_
                              exact Z.fg2 (ih75 _ (by omega) _ _ _ _ _ ((kidF (J 44 s.toNat) (eE J s) (truF (J 44 s.toNat) (eE J s)) rest2).take (64 - (m + 1)).toNat) _ _ rfl (by omega) (by first | exact Or.inl ⟨hb1, rest2, rfl, RowSt_C hS2 hO5, Par_off hPa4 (offK_C hO5), hk7⟩ | exact Or.inl ⟨hb1, rest2, rfl, hS2, hPa4, hk7⟩) (by omega) (by first | exact fun hw0 => absurd hw0 (by omega) | (intro _; rw [hC2]; first | (exfalso; omega) | (rw [if_pos (by omega)]; omega) | (rw [if_neg (by omega)]; omega))) (by first | exact fun hw0 => absurd hw0 (by omega) | (intro _; rw [hG2]; first | (exfalso; omega) | rw [if_pos (by omega)] | rw [if_neg (by omega)])) (by first | exact fun hw0 => absurd hw0 (by omega) | (intro _; rw [hF2, ← Int.add_assoc]; first | (exfalso; omega) | rw [if_pos (by omega)] | rw [if_neg (by omega)])) (by first | exact pq_trans hq1 (pq_trans (pq_offK hO4) (pq_offC hO5)) | exact pq_trans hq1 (pq_offK hO4)) (by first | exact pp_trans hpp (pp_trans (pp_offP hPo4) (pp_offP hPo5)) | exact pp_trans hpp (pp_offP hPo4))) (zs1 rfl (zs1 rfl (zs1 rfl (zs1 rfl (zs1 rfl (zs1 rfl (zs1 rfl (zs1 rfl (zs1 rfl (zs1 rfl (zsn zs0)))))))))))
                            · refine z_iload dX9_next_146 rfl ?_
                              refine c_if_ge (tgt := 158) dX9_next_148 (by decide) (by omega) (fun h148 => ?_) (fun h148 => ?_)
                              · refine z_iload dX9_next_158 rfl ?_
                                refine z_istore dX9_next_160 (by decide) rfl ?_
                                refine c_iinc dX9_next_162 rfl (by decide) rfl ?_
                                refine z_goto (tgt := 75) dX9_next_165 (by decide) ?_
                                exact Z.fg2 (ih75 _ (by omega) _ _ _ _ _ ((kidF (J 44 s.toNat) (eE J s) (truF (J 44 s.toNat) (eE J s)) rest2).take (64 - (m + 1)).toNat) _ _ rfl (by omega) (by first | exact Or.inl ⟨hb1, rest2, rfl, RowSt_C hS2 hO5, Par_off hPa4 (offK_C hO5), hk7⟩ | exact Or.inl ⟨hb1, rest2, rfl, hS2, hPa4, hk7⟩) (by omega) (by first | exact fun hw0 => absurd hw0 (by omega) | (intro _; rw [hC2]; first | (exfalso; omega) | (rw [if_pos (by omega)]; omega) | (rw [if_neg (by omega)]; omega))) (by first | exact fun hw0 => absurd hw0 (by omega) | (intro _; rw [hG2]; first | (exfalso; omega) | rw [if_pos (by omega)] | rw [if_neg (by omega)])) (by first | exact fun hw0 => absurd hw0 (by omega) | (intro _; rw [hF2, ← Int.add_assoc]; first | (exfalso; omega) | rw [if_pos (by omega)] | rw [if_neg (by omega)])) (by first | exact pq_trans hq1 (pq_trans (pq_offK hO4) (pq_offC hO5)) | exact pq_trans hq1 (pq_offK hO4)) (by first | exact pp_trans hpp (pp_trans (pp_offP hPo4) (pp_offP hPo5)) | exact pp_trans hpp (pp_offP hPo4))) (zs1 rfl (zs1 rfl (zs1 rfl (zs1 rfl (zs1 rfl (zs1 rfl (zs1 rfl (zs1 rfl (zs1 rfl (zs1 rfl (zsn zs0)))))))))))
                              · refine z_iload_n dX9_next_151 rfl rfl ?_
                                refine z_iload dX9_next_152 rfl ?_
                                refine c_iadd dX9_next_154 ?_
                                refine z_goto (tgt := 160) dX9_next_155 (by decide) ?_
                                refine z_istore dX9_next_160 (by decide) rfl ?_
                                refine c_iinc dX9_next_162 rfl (by decide) rfl ?_
                                refine z_goto (tgt := 75) dX9_next_165 (by decide) ?_
                                exact Z.fg2 (ih75 _ (by omega) _ _ _ _ _ ((kidF (J 44 s.toNat) (eE J s) (truF (J 44 s.toNat) (eE J s)) rest2).take (64 - (m + 1)).toNat) _ _ rfl (by omega) (by first | exact Or.inl ⟨hb1, rest2, rfl, RowSt_C hS2 hO5, Par_off hPa4 (offK_C hO5), hk7⟩ | exact Or.inl ⟨hb1, rest2, rfl, hS2, hPa4, hk7⟩) (by omega) (by first | exact fun hw0 => absurd hw0 (by omega) | (intro _; rw [hC2]; first | (exfalso; omega) | (rw [if_pos (by omega)]; omega) | (rw [if_neg (by omega)]; omega))) (by first | exact fun hw0 => absurd hw0 (by omega) | (intro _; rw [hG2]; first | (exfalso; omega) | rw [if_pos (by omega)] | rw [if_neg (by omega)])) (by first | exact fun hw0 => absurd hw0 (by omega) | (intro _; rw [hF2, ← Int.add_assoc]; first | (exfalso; omega) | rw [if_pos (by omega)] | rw [if_neg (by omega)])) (by first | exact pq_trans hq1 (pq_trans (pq_offK hO4) (pq_offC hO5)) | exact pq_trans hq1 (pq_offK hO4)) (by first | exact pp_trans hpp (pp_trans (pp_offP hPo4) (pp_offP hPo5)) | exact pp_trans hpp (pp_offP hPo4))) (zs1 rfl (zs1 rfl (zs1 rfl (zs1 rfl (zs1 rfl (zs1 rfl (zs1 rfl (zs1 rfl (zs1 rfl (zs1 rfl (zsn zs0)))))))))))
                        · refine z_iload dX9_next_117 rfl ?_
                          refine z_goto (tgt := 124) dX9_next_119 (by decide) ?_
                          refine z_istore dX9_next_124 (by decide) rfl ?_
                          refine z_iload dX9_next_126 rfl ?_
                          refine z_iload dX9_next_128 rfl ?_
                          refine c_if_ne (tgt := 137) dX9_next_130 (by decide) (by omega) (fun h130 => ?_) (fun h130 => ?_)
                          · refine c_iconst dX9_next_137 ?_
                            refine c_iadd dX9_next_138 ?_
                            refine z_istore dX9_next_139 (by decide) rfl ?_
                            refine z_iload dX9_next_141 rfl ?_
                            refine c_if_ne (tgt := 158) dX9_next_143 (by decide) (by omega) (fun h143 => ?_) (fun h143 => ?_)
                            · refine z_iload dX9_next_158 rfl ?_
                              refine z_istore dX9_next_160 (by decide) rfl ?_
                              refine c_iinc dX9_next_162 rfl (by decide) rfl ?_
                              refine z_goto (tgt := 75) dX9_next_165 (by decide) ?_
                              exact Z.fg2 (ih75 _ (by omega) _ _ _ _ _ ((kidF (J 44 s.toNat) (eE J s) (truF (J 44 s.toNat) (eE J s)) rest2).take (64 - (m + 1)).toNat) _ _ rfl (by omega) (by first | exact Or.inl ⟨hb1, rest2, rfl, RowSt_C hS2 hO5, Par_off hPa4 (offK_C hO5), hk7⟩ | exact Or.inl ⟨hb1, rest2, rfl, hS2, hPa4, hk7⟩) (by omega) (by first | exact fun hw0 => absurd hw0 (by omega) | (intro _; rw [hC2]; first | (exfalso; omega) | (rw [if_pos (by omega)]; omega) | (rw [if_neg (by omega)]; omega))) (by first | exact fun hw0 => absurd hw0 (by omega) | (intro _; rw [hG2]; first | (exfalso; omega) | rw [if_pos (by omega)] | rw [if_neg (by omega)])) (by first | exact fun hw0 => absurd hw0 (by omega) | (intro _; rw [hF2, ← Int.add_assoc]; first | (exfalso; omega) | rw [if_pos (by omega)] | rw [if_neg (by omega)])) (by first | exact pq_trans hq1 (pq_trans (pq_offK hO4) (pq_offC hO5)) | exact pq_trans hq1 (pq_offK hO4)) (by first | exact pp_trans hpp (pp_trans (pp_offP hPo4) (pp_offP hPo5)) | exact pp_trans hpp (pp_offP hPo4))) (zs1 rfl (zs1 rfl (zs1 rfl (zs1 rfl (zs1 rfl (zs1 rfl (zs1 rfl (zs1 rfl (zs1 rfl (zs1 rfl (zsn zs0)))))))))))
                            · refine z_iload dX9_next_146 rfl ?_
                              refine c_if_ge (tgt := 158) dX9_next_148 (by decide) (by omega) (fun h148 => ?_) (fun h148 => ?_)
                              · refine z_iload dX9_next_158 rfl ?_
                                refine z_istore dX9_next_160 (by decide) rfl ?_
                                refine c_iinc dX9_next_162 rfl (by decide) rfl ?_
                                refine z_goto (tgt := 75) dX9_next_165 (by decide) ?_
                                exact Z.fg2 (ih75 _ (by omega) _ _ _ _ _ ((kidF (J 44 s.toNat) (eE J s) (truF (J 44 s.toNat) (eE J s)) rest2).take (64 - (m + 1)).toNat) _ _ rfl (by omega) (by first | exact Or.inl ⟨hb1, rest2, rfl, RowSt_C hS2 hO5, Par_off hPa4 (offK_C hO5), hk7⟩ | exact Or.inl ⟨hb1, rest2, rfl, hS2, hPa4, hk7⟩) (by omega) (by first | exact fun hw0 => absurd hw0 (by omega) | (intro _; rw [hC2]; first | (exfalso; omega) | (rw [if_pos (by omega)]; omega) | (rw [if_neg (by omega)]; omega))) (by first | exact fun hw0 => absurd hw0 (by omega) | (intro _; rw [hG2]; first | (exfalso; omega) | rw [if_pos (by omega)] | rw [if_neg (by omega)])) (by first | exact fun hw0 => absurd hw0 (by omega) | (intro _; rw [hF2, ← Int.add_assoc]; first | (exfalso; omega) | rw [if_pos (by omega)] | rw [if_neg (by omega)])) (by first | exact pq_trans hq1 (pq_trans (pq_offK hO4) (pq_offC hO5)) | exact pq_trans hq1 (pq_offK hO4)) (by first | exact pp_trans hpp (pp_trans (pp_offP hPo4) (pp_offP hPo5)) | exact pp_trans hpp (pp_offP hPo4))) (zs1 rfl (zs1 rfl (zs1 rfl (zs1 rfl (zs1 rfl (zs1 rfl (zs1 rfl (zs1 rfl (zs1 rfl (zs1 rfl (zsn zs0)))))))))))
                              · refine z_iload_n dX9_next_151 rfl rfl ?_
                                refine z_iload dX9_next_152 rfl ?_
                                refine c_iadd dX9_next_154 ?_
                                refine z_goto (tgt := 160) dX9_next_155 (by decide) ?_
                                refine z_istore dX9_next_160 (by decide) rfl ?_
                                refine c_iinc dX9_next_162 rfl (by decide) rfl ?_
                                refine z_goto (tgt := 75) dX9_next_165 (by decide) ?_
                                exact Z.fg2 (ih75 _ (by omega) _ _ _ _ _ ((kidF (J 44 s.toNat) (eE J s) (truF (J 44 s.toNat) (eE J s)) rest2).take (64 - (m + 1)).toNat) _ _ rfl (by omega) (by first | exact Or.inl ⟨hb1, rest2, rfl, RowSt_C hS2 hO5, Par_off hPa4 (offK_C hO5), hk7⟩ | exact Or.inl ⟨hb1, rest2, rfl, hS2, hPa4, hk7⟩) (by omega) (by first | exact fun hw0 => absurd hw0 (by omega) | (intro _; rw [hC2]; first | (exfalso; omega) | (rw [if_pos (by omega)]; omega) | (rw [if_neg (by omega)]; omega))) (by first | exact fun hw0 => absurd hw0 (by omega) | (intro _; rw [hG2]; first | (exfalso; omega) | rw [if_pos (by omega)] | rw [if_neg (by omega)])) (by first | exact fun hw0 => absurd hw0 (by omega) | (intro _; rw [hF2, ← Int.add_assoc]; first | (exfalso; omega) | rw [if_pos (by omega)] | rw [if_neg (by omega)])) (by first | exact pq_trans hq1 (pq_trans (pq_offK hO4) (pq_offC hO5)) | exact pq_trans hq1 (pq_offK hO4)) (by first | exact pp_trans hpp (pp_trans (pp_offP hPo4) (pp_offP hPo5)) | exact pp_trans hpp (pp_offP hPo4))) (zs1 rfl (zs1 rfl (zs1 rfl (zs1 rfl (zs1 rfl (zs1 rfl (zs1 rfl (zs1 rfl (zs1 rfl (zs1 rfl (zsn zs0)))))))))))
                          · refine c_iconst dX9_next_133 ?_
                            refine z_goto (tgt := 138) dX9_next_134 (by decide) ?_
                            refine c_iadd dX9_next_138 ?_
                            refine z_istore dX9_next_139 (by decide) rfl ?_
                            refine z_iload dX9_next_141 rfl ?_
                            refine c_if_ne (tgt := 158) dX9_next_143 (by decide) (by omega) (fun h143 => ?_) (fun h143 => ?_)
                            · refine z_iload dX9_next_158 rfl ?_
                              refine z_istore dX9_next_160 (by decide) rfl ?_
                              refine c_iinc dX9_next_162 rfl (by decide) rfl ?_
                              refine z_goto (tgt := 75) dX9_next_165 (by decide) ?_
                              exact Z.fg2 (ih75 _ (by omega) _ _ _ _ _ ((kidF (J 44 s.toNat) (eE J s) (truF (J 44 s.toNat) (eE J s)) rest2).take (64 - (m + 1)).toNat) _ _ rfl (by omega) (by first | exact Or.inl ⟨hb1, rest2, rfl, RowSt_C hS2 hO5, Par_off hPa4 (offK_C hO5), hk7⟩ | exact Or.inl ⟨hb1, rest2, rfl, hS2, hPa4, hk7⟩) (by omega) (by first | exact fun hw0 => absurd hw0 (by omega) | (intro _; rw [hC2]; first | (exfalso; omega) | (rw [if_pos (by omega)]; omega) | (rw [if_neg (by omega)]; omega))) (by first | exact fun hw0 => absurd hw0 (by omega) | (intro _; rw [hG2]; first | (exfalso; omega) | rw [if_pos (by omega)] | rw [if_neg (by omega)])) (by first | exact fun hw0 => absurd hw0 (by omega) | (intro _; rw [hF2, ← Int.add_assoc]; first | (exfalso; omega) | rw [if_pos (by omega)] | rw [if_neg (by omega)])) (by first | exact pq_trans hq1 (pq_trans (pq_offK hO4) (pq_offC hO5)) | exact pq_trans hq1 (pq_offK hO4)) (by first | exact pp_trans hpp (pp_trans (pp_offP hPo4) (pp_offP hPo5)) | exact pp_trans hpp (pp_offP hPo4))) (zs1 rfl (zs1 rfl (zs1 rfl (zs1 rfl (zs1 rfl (zs1 rfl (zs1 rfl (zs1 rfl (zs1 rfl (zs1 rfl (zsn zs0)))))))))))
                            · refine z_iload dX9_next_146 rfl ?_
                              refine c_if_ge (tgt := 158) dX9_next_148 (by decide) (by omega) (fun h148 => ?_) (fun h148 => ?_)
                              · refine z_iload dX9_next_158 rfl ?_
                                refine z_istore dX9_next_160 (by decide) rfl ?_
                                refine c_iinc dX9_next_162 rfl (by decide) rfl ?_
                                refine z_goto (tgt := 75) dX9_next_165 (by decide) ?_
                                exact Z.fg2 (ih75 _ (by omega) _ _ _ _ _ ((kidF (J 44 s.toNat) (eE J s) (truF (J 44 s.toNat) (eE J s)) rest2).take (64 - (m + 1)).toNat) _ _ rfl (by omega) (by first | exact Or.inl ⟨hb1, rest2, rfl, RowSt_C hS2 hO5, Par_off hPa4 (offK_C hO5), hk7⟩ | exact Or.inl ⟨hb1, rest2, rfl, hS2, hPa4, hk7⟩) (by omega) (by first | exact fun hw0 => absurd hw0 (by omega) | (intro _; rw [hC2]; first | (exfalso; omega) | (rw [if_pos (by omega)]; omega) | (rw [if_neg (by omega)]; omega))) (by first | exact fun hw0 => absurd hw0 (by omega) | (intro _; rw [hG2]; first | (exfalso; omega) | rw [if_pos (by omega)] | rw [if_neg (by omega)])) (by first | exact fun hw0 => absurd hw0 (by omega) | (intro _; rw [hF2, ← Int.add_assoc]; first | (exfalso; omega) | rw [if_pos (by omega)] | rw [if_neg (by omega)])) (by first | exact pq_trans hq1 (pq_trans (pq_offK hO4) (pq_offC hO5)) | exact pq_trans hq1 (pq_offK hO4)) (by first | exact pp_trans hpp (pp_trans (pp_offP hPo4) (pp_offP hPo5)) | exact pp_trans hpp (pp_offP hPo4))) (zs1 rfl (zs1 rfl (zs1 rfl (zs1 rfl (zs1 rfl (zs1 rfl (zs1 rfl (zs1 rfl (zs1 rfl (zs1 rfl (zsn zs0)))))))))))
                              · refine z_iload_n dX9_next_151 rfl rfl ?_
                                refine z_iload dX9_next_152 rfl ?_
                                refine c_iadd dX9_next_154 ?_
                                refine z_goto (tgt := 160) dX9_next_155 (by decide) ?_
                                refine z_istore dX9_next_160 (by decide) rfl ?_
                                refine c_iinc dX9_next_162 rfl (by decide) rfl ?_
                                refine z_goto (tgt := 75) dX9_next_165 (by decide) ?_
                                exact Z.fg2 (ih75 _ (by omega) _ _ _ _ _ ((kidF (J 44 s.toNat) (eE J s) (truF (J 44 s.toNat) (eE J s)) rest2).take (64 - (m + 1)).toNat) _ _ rfl (by omega) (by first | exact Or.inl ⟨hb1, rest2, rfl, RowSt_C hS2 hO5, Par_off hPa4 (offK_C hO5), hk7⟩ | exact Or.inl ⟨hb1, rest2, rfl, hS2, hPa4, hk7⟩) (by omega) (by first | exact fun hw0 => absurd hw0 (by omega) | (intro _; rw [hC2]; first | (exfalso; omega) | (rw [if_pos (by omega)]; omega) | (rw [if_neg (by omega)]; omega))) (by first | exact fun hw0 => absurd hw0 (by omega) | (intro _; rw [hG2]; first | (exfalso; omega) | rw [if_pos (by omega)] | rw [if_neg (by omega)])) (by first | exact fun hw0 => absurd hw0 (by omega) | (intro _; rw [hF2, ← Int.add_assoc]; first | (exfalso; omega) | rw [if_pos (by omega)] | rw [if_neg (by omega)])) (by first | exact pq_trans hq1 (pq_trans (pq_offK hO4) (pq_offC hO5)) | exact pq_trans hq1 (pq_offK hO4)) (by first | exact pp_trans hpp (pp_trans (pp_offP hPo4) (pp_offP hPo5)) | exact pp_trans hpp (pp_offP hPo4))) (zs1 rfl (zs1 rfl (zs1 rfl (zs1 rfl (zs1 rfl (zs1 rfl (zs1 rfl (zs1 rfl (zs1 rfl (zs1 rfl (zsn zs0)))))))))))
            exact Z.fg2 (L75 _ _ _ _ _ _ (nxL (J 44 s.toNat) (eE J s) k) _ _ rfl (by omega) (by first | exact nx_a (by omega) hst1 | exact nx_b hk g62 (Par_off hst1.2 hO3) | exact nx_c (by omega) g62) (by rw [Int.zero_add]) (fun _ => by rw [Int.zero_add]) (fun _ => rfl) (fun _ => by rw [Int.add_zero]) (by first | exact hq2 | exact pq_trans hq2 (pq_offK hO3)) (by first | exact hpq2 | exact pp_trans hpq2 (pp_offP hPo3))) (zs1 rfl (zs1 rfl (zs1 rfl (zs1 rfl (zs1 rfl (zs1 rfl (zs1 rfl (zs1 rfl (zs1 rfl (zs1 rfl (zsn zs0)))))))))))
          · refine z_aload_n dX9_next_58 rfl rfl ?_
            refine z_iload_n dX9_next_59 rfl rfl ?_
            refine c_iconst dX9_next_60 ?_
            refine c_isub dX9_next_61 ?_
            refine z_callv (N := MX9_isChild) (ci := 9) (nas := 1) (as := [_]) dX9_next_62 w_1134 w_1131 w_1133 ws_45 w_8 (by decide +kernel) rfl rfl rfl (by decide) (Nat.le_of_ble_eq_true rfl) (by decide) (by decide) (ZC.mono (cMX9_isChild hst1.1 hst1.2 (by omega) hlen) ?_)
            rintro _ _ ⟨J3, P3, b62, rfl, rfl, hb62, hO3, hPo3⟩
            refine c_if_eq (tgt := 72) dX9_next_65 (by decide) (by omega) (fun h65 => ?_) (fun h65 => ?_)
            · have g62 := (hb62.resolve_left (fun z => by have := z.1; omega)).2
              clear hb62
              refine c_iconst dX9_next_72 ?_
              refine z_istore dX9_next_73 (by decide) rfl ?_
              have L75 : ∀ (m75 : Nat), ∀ (m c gr f b : Int) (S : List V4) (J1 P1 : Nat → Nat → Int), (64 - m).toNat = m75 → (0 ≤ m ∧ m ≤ 64 ∧ 0 ≤ c ∧ c ≤ m ∧ 0 ≤ gr ∧ gr ≤ 73 ∧ -2 ≤ f ∧ f ≤ 7880663) → ((b = 1 ∧ ∃ rest1, S = (kidF (J 44 s.toNat) (eE J s) (truF (J 44 s.toNat) (eE J s)) rest1).take (64 - m).toNat ∧ RowSt J1 rest1 ∧ Par J1 s (J 44 s.toNat) (eE J s) (truF (J 44 s.toNat) (eE J s)) ∧ k ≤ 7880599) ∨ (b = 0 ∧ S = [])) → (((nxL (J 44 s.toNat) (eE J s) k).length : Int) = m + (S.length : Int)) → (0 < w → nxC (kidL (J 44 s.toNat) (eE J s)) (nxL (J 44 s.toNat) (eE J s) k) = c + nxC (kidL (J 44 s.toNat) (eE J s)) S) → (0 < w → nxG (kidL (J 44 s.toNat) (eE J s)) (nxL (J 44 s.toNat) (eE J s) k) 0 = nxG (kidL (J 44 s.toNat) (eE J s)) S gr) → (0 < w → nxF (kidL (J 44 s.toNat) (eE J s)) (nxL (J 44 s.toNat) (eE J s) k) k (-2) = nxF (kidL (J 44 s.toNat) (eE J s)) S (k + m) f) → (pq J J1) → (pp P P1) → Z g l MX9_next 75 [some (.ref 42), some (.int (iZ s)), some (.int (iZ k)), some (.int (iZ w)), some (.int (iZ (grow (J 44 s.toNat) (eE J s)))), some (.int (iZ m)), some (.int (iZ c)), some (.int (iZ gr)), some (.int (iZ f)), some (.int (iZ b)), none] [] (KF Kd, zi J1, zj P1, RF Rd, n, s0) Q0 := by
                intro m75
                induction m75 using Nat.strongRecOn with
                | ind m75 ih75 =>
                  intro m c gr f b S J1 P1 hm75 hm hbS hM hC1 hG1 hF1 hq1 hpp
                  refine z_iload dX9_next_75 rfl ?_
                  refine c_if_eq (tgt := 168) dX9_next_77 (by decide) (by rcases hbS with h | h <;> (have := h.1; omega)) (fun h77 => ?_) (fun h77 => ?_)
                  · refine z_iload_n dX9_next_168 rfl rfl ?_
                    refine c_if_ne (tgt := 177) dX9_next_169 (by decide) (by omega) (fun h169 => ?_) (fun h169 => ?_)
                    · refine z_iload_n dX9_next_177 rfl rfl ?_
                      refine c_iconst dX9_next_178 ?_
                      refine c_icmp_ne (tgt := 187) dX9_next_179 (by decide) (by omega) (by omega) (fun h179 => ?_) (fun h179 => ?_)
                      · refine z_iload_n dX9_next_187 rfl rfl ?_
                        refine c_iconst dX9_next_188 ?_
                        refine c_icmp_ne (tgt := 197) dX9_next_189 (by decide) (by omega) (by omega) (fun h189 => ?_) (fun h189 => ?_)
                        · refine z_iload dX9_next_197 rfl ?_
                          refine c_ireturn dX9_next_199 rfl ?_
                          subst hQ0
                          have hS0 : S = [] := by
                            first
                            | exact (hbS.resolve_left (fun z => by have := z.1; omega)).2
                            | (rcases hbS with ⟨_, r, h, _⟩ | ⟨_, h⟩
                               · rw [h, show (64 - m).toNat = 0 by omega]; exact List.take_zero
                               · exact h)
                            | (rw [hSe, g88]; exact List.take_nil)
                          rw [hS0] at hM hC1 hG1 hF1
                          rw [List.length_nil] at hM
                          refine ⟨_, _, rfl, ?_, (by first | exact pq_trans hq1 (pq_offK hO4) | exact hq1), (by first | exact pp_trans hpp (pp_offP hPo4) | exact hpp)⟩; unfold aNext; rw [cif_pos (by omega), if_pos hg0]
                          first
                          | (rw [if_pos (by omega), hM]; simp)
                          | (rw [if_neg (by omega), if_pos (by omega), hC1 (by omega), nxC]; simp)
                          | (rw [if_neg (by omega), if_neg (by omega), if_pos (by omega), hG1 (by omega), nxG])
                          | (rw [if_neg (by omega), if_neg (by omega), if_neg (by omega), hF1 (by omega), nxF])
                        · refine z_iload dX9_next_192 rfl ?_
                          refine z_goto (tgt := 199) dX9_next_194 (by decide) ?_
                          refine c_ireturn dX9_next_199 rfl ?_
                          subst hQ0
                          have hS0 : S = [] := by
                            first
                            | exact (hbS.resolve_left (fun z => by have := z.1; omega)).2
                            | (rcases hbS with ⟨_, r, h, _⟩ | ⟨_, h⟩
                               · rw [h, show (64 - m).toNat = 0 by omega]; exact List.take_zero
                               · exact h)
                            | (rw [hSe, g88]; exact List.take_nil)
                          rw [hS0] at hM hC1 hG1 hF1
                          rw [List.length_nil] at hM
                          refine ⟨_, _, rfl, ?_, (by first | exact pq_trans hq1 (pq_offK hO4) | exact hq1), (by first | exact pp_trans hpp (pp_offP hPo4) | exact hpp)⟩; unfold aNext; rw [cif_pos (by omega), if_pos hg0]
                          first
                          | (rw [if_pos (by omega), hM]; simp)
                          | (rw [if_neg (by omega), if_pos (by omega), hC1 (by omega), nxC]; simp)
                          | (rw [if_neg (by omega), if_neg (by omega), if_pos (by omega), hG1 (by omega), nxG])
                          | (rw [if_neg (by omega), if_neg (by omega), if_neg (by omega), hF1 (by omega), nxF])
                      · refine z_iload dX9_next_182 rfl ?_
                        refine z_goto (tgt := 199) dX9_next_184 (by decide) ?_
                        refine c_ireturn dX9_next_199 rfl ?_
                        subst hQ0
                        have hS0 : S = [] := by
                          first
                          | exact (hbS.resolve_left (fun z => by have := z.1; omega)).2
                          | (rcases hbS with ⟨_, r, h, _⟩ | ⟨_, h⟩
                             · rw [h, show (64 - m).toNat = 0 by omega]; exact List.take_zero
                             · exact h)
                          | (rw [hSe, g88]; exact List.take_nil)
                        rw [hS0] at hM hC1 hG1 hF1
                        rw [List.length_nil] at hM
                        refine ⟨_, _, rfl, ?_, (by first | exact pq_trans hq1 (pq_offK hO4) | exact hq1), (by first | exact pp_trans hpp (pp_offP hPo4) | exact hpp)⟩; unfold aNext; rw [cif_pos (by omega), if_pos hg0]
                        first
                        | (rw [if_pos (by omega), hM]; simp)
                        | (rw [if_neg (by omega), if_pos (by omega), hC1 (by omega), nxC]; simp)
                        | (rw [if_neg (by omega), if_neg (by omega), if_pos (by omega), hG1 (by omega), nxG])
                        | (rw [if_neg (by omega), if_neg (by omega), if_neg (by omega), hF1 (by omega), nxF])
                    · refine z_iload dX9_next_172 rfl ?_
                      refine z_goto (tgt := 199) dX9_next_174 (by decide) ?_
                      refine c_ireturn dX9_next_199 rfl ?_
                      subst hQ0
                      have hS0 : S = [] := by
                        first
                        | exact (hbS.resolve_left (fun z => by have := z.1; omega)).2
                        | (rcases hbS with ⟨_, r, h, _⟩ | ⟨_, h⟩
                           · rw [h, show (64 - m).toNat = 0 by omega]; exact List.take_zero
                           · exact h)
                        | (rw [hSe, g88]; exact List.take_nil)
                      rw [hS0] at hM hC1 hG1 hF1
                      rw [List.length_nil] at hM
                      refine ⟨_, _, rfl, ?_, (by first | exact pq_trans hq1 (pq_offK hO4) | exact hq1), (by first | exact pp_trans hpp (pp_offP hPo4) | exact hpp)⟩; unfold aNext; rw [cif_pos (by omega), if_pos hg0]
                      first
                      | (rw [if_pos (by omega), hM]; simp)
                      | (rw [if_neg (by omega), if_pos (by omega), hC1 (by omega), nxC]; simp)
                      | (rw [if_neg (by omega), if_neg (by omega), if_pos (by omega), hG1 (by omega), nxG])
                      | (rw [if_neg (by omega), if_neg (by omega), if_neg (by omega), hF1 (by omega), nxF])
                  · obtain ⟨hb1, rest1, hSe, hS1, hPa, hk7⟩ := hbS.resolve_right (fun z => by have := z.1; omega)
                    refine z_iload dX9_next_80 rfl ?_
                    refine c_bipush dX9_next_82 (by decide) ?_
                    refine c_icmp_ge (tgt := 168) dX9_next_84 (by decide) (by omega) (by omega) (fun h84 => ?_) (fun h84 => ?_)
                    · refine z_iload_n dX9_next_168 rfl rfl ?_
                      refine c_if_ne (tgt := 177) dX9_next_169 (by decide) (by omega) (fun h169 => ?_) (fun h169 => ?_)
                      · refine z_iload_n dX9_next_177 rfl rfl ?_
                        refine c_iconst dX9_next_178 ?_
                        refine c_icmp_ne (tgt := 187) dX9_next_179 (by decide) (by omega) (by omega) (fun h179 => ?_) (fun h179 => ?_)
                        · refine z_iload_n dX9_next_187 rfl rfl ?_
                          refine c_iconst dX9_next_188 ?_
                          refine c_icmp_ne (tgt := 197) dX9_next_189 (by decide) (by omega) (by omega) (fun h189 => ?_) (fun h189 => ?_)
                          · refine z_iload dX9_next_197 rfl ?_
                            refine c_ireturn dX9_next_199 rfl ?_
                            subst hQ0
                            have hS0 : S = [] := by
                              first
                              | exact (hbS.resolve_left (fun z => by have := z.1; omega)).2
                              | (rcases hbS with ⟨_, r, h, _⟩ | ⟨_, h⟩
                                 · rw [h, show (64 - m).toNat = 0 by omega]; exact List.take_zero
                                 · exact h)
                              | (rw [hSe, g88]; exact List.take_nil)
                            rw [hS0] at hM hC1 hG1 hF1
                            rw [List.length_nil] at hM
                            refine ⟨_, _, rfl, ?_, (by first | exact pq_trans hq1 (pq_offK hO4) | exact hq1), (by first | exact pp_trans hpp (pp_offP hPo4) | exact hpp)⟩; unfold aNext; rw [cif_pos (by omega), if_pos hg0]
                            first
                            | (rw [if_pos (by omega), hM]; simp)
                            | (rw [if_neg (by omega), if_pos (by omega), hC1 (by omega), nxC]; simp)
                            | (rw [if_neg (by omega), if_neg (by omega), if_pos (by omega), hG1 (by omega), nxG])
                            | (rw [if_neg (by omega), if_neg (by omega), if_neg (by omega), hF1 (by omega), nxF])
                          · refine z_iload dX9_next_192 rfl ?_
                            refine z_goto (tgt := 199) dX9_next_194 (by decide) ?_
                            refine c_ireturn dX9_next_199 rfl ?_
                            subst hQ0
                            have hS0 : S = [] := by
                              first
                              | exact (hbS.resolve_left (fun z => by have := z.1; omega)).2
                              | (rcases hbS with ⟨_, r, h, _⟩ | ⟨_, h⟩
                                 · rw [h, show (64 - m).toNat = 0 by omega]; exact List.take_zero
                                 · exact h)
                              | (rw [hSe, g88]; exact List.take_nil)
                            rw [hS0] at hM hC1 hG1 hF1
                            rw [List.length_nil] at hM
                            refine ⟨_, _, rfl, ?_, (by first | exact pq_trans hq1 (pq_offK hO4) | exact hq1), (by first | exact pp_trans hpp (pp_offP hPo4) | exact hpp)⟩; unfold aNext; rw [cif_pos (by omega), if_pos hg0]
                            first
                            | (rw [if_pos (by omega), hM]; simp)
                            | (rw [if_neg (by omega), if_pos (by omega), hC1 (by omega), nxC]; simp)
                            | (rw [if_neg (by omega), if_neg (by omega), if_pos (by omega), hG1 (by omega), nxG])
                            | (rw [if_neg (by omega), if_neg (by omega), if_neg (by omega), hF1 (by omega), nxF])
                        · refine z_iload dX9_next_182 rfl ?_
                          refine z_goto (tgt := 199) dX9_next_184 (by decide) ?_
                          refine c_ireturn dX9_next_199 rfl ?_
                          subst hQ0
                          have hS0 : S = [] := by
                            first
                            | exact (hbS.resolve_left (fun z => by have := z.1; omega)).2
                            | (rcases hbS with ⟨_, r, h, _⟩ | ⟨_, h⟩
                               · rw [h, show (64 - m).toNat = 0 by omega]; exact List.take_zero
                               · exact h)
                            | (rw [hSe, g88]; exact List.take_nil)
                          rw [hS0] at hM hC1 hG1 hF1
                          rw [List.length_nil] at hM
                          refine ⟨_, _, rfl, ?_, (by first | exact pq_trans hq1 (pq_offK hO4) | exact hq1), (by first | exact pp_trans hpp (pp_offP hPo4) | exact hpp)⟩; unfold aNext; rw [cif_pos (by omega), if_pos hg0]
                          first
                          | (rw [if_pos (by omega), hM]; simp)
                          | (rw [if_neg (by omega), if_pos (by omega), hC1 (by omega), nxC]; simp)
                          | (rw [if_neg (by omega), if_neg (by omega), if_pos (by omega), hG1 (by omega), nxG])
                          | (rw [if_neg (by omega), if_neg (by omega), if_neg (by omega), hF1 (by omega), nxF])
                      · refine z_iload dX9_next_172 rfl ?_
                        refine z_goto (tgt := 199) dX9_next_174 (by decide) ?_
                        refine c_ireturn dX9_next_199 rfl ?_
                        subst hQ0
                        have hS0 : S = [] := by
                          first
                          | exact (hbS.resolve_left (fun z => by have := z.1; omega)).2
                          | (rcases hbS with ⟨_, r, h, _⟩ | ⟨_, h⟩
                             · rw [h, show (64 - m).toNat = 0 by omega]; exact List.take_zero
                             · exact h)
                          | (rw [hSe, g88]; exact List.take_nil)
                        rw [hS0] at hM hC1 hG1 hF1
                        rw [List.length_nil] at hM
                        refine ⟨_, _, rfl, ?_, (by first | exact pq_trans hq1 (pq_offK hO4) | exact hq1), (by first | exact pp_trans hpp (pp_offP hPo4) | exact hpp)⟩; unfold aNext; rw [cif_pos (by omega), if_pos hg0]
                        first
                        | (rw [if_pos (by omega), hM]; simp)
                        | (rw [if_neg (by omega), if_pos (by omega), hC1 (by omega), nxC]; simp)
                        | (rw [if_neg (by omega), if_neg (by omega), if_pos (by omega), hG1 (by omega), nxG])
                        | (rw [if_neg (by omega), if_neg (by omega), if_neg (by omega), hF1 (by omega), nxF])
                    · refine z_aload_n dX9_next_87 rfl rfl ?_
                      refine z_callv (N := MX9_nextChild) (ci := 9) (nas := 0) (as := []) dX9_next_88 w_1122 w_1119 w_1121 ws_43 w_8 (by decide +kernel) rfl rfl rfl (by decide) (Nat.le_of_ble_eq_true rfl) (by decide) (by decide) (ZC.mono (cMX9_nextChild hS1 hPa) ?_)
                      rintro _ _ ⟨J4, P4, b88, rfl, rfl, hb88, hO4, hPo4⟩
                      refine c_if_eq (tgt := 168) dX9_next_91 (by decide) (by omega) (fun h91 => ?_) (fun h91 => ?_)
                      · have g88 := (hb88.resolve_left (fun z => by have := z.1; omega)).2
                        clear hb88
                        refine z_iload_n dX9_next_168 rfl rfl ?_
                        refine c_if_ne (tgt := 177) dX9_next_169 (by decide) (by omega) (fun h169 => ?_) (fun h169 => ?_)
                        · refine z_iload_n dX9_next_177 rfl rfl ?_
                          refine c_iconst dX9_next_178 ?_
                          refine c_icmp_ne (tgt := 187) dX9_next_179 (by decide) (by omega) (by omega) (fun h179 => ?_) (fun h179 => ?_)
                          · refine z_iload_n dX9_next_187 rfl rfl ?_
                            refine c_iconst dX9_next_188 ?_
                            refine c_icmp_ne (tgt := 197) dX9_next_189 (by decide) (by omega) (by omega) (fun h189 => ?_) (fun h189 => ?_)
                            · refine z_iload dX9_next_197 rfl ?_
                              refine c_ireturn dX9_next_199 rfl ?_
                              subst hQ0
                              have hS0 : S = [] := by
                                first
                                | exact (hbS.resolve_left (fun z => by have := z.1; omega)).2
                                | (rcases hbS with ⟨_, r, h, _⟩ | ⟨_, h⟩
                                   · rw [h, show (64 - m).toNat = 0 by omega]; exact List.take_zero
                                   · exact h)
                                | (rw [hSe, g88]; exact List.take_nil)
                              rw [hS0] at hM hC1 hG1 hF1
                              rw [List.length_nil] at hM
                              refine ⟨_, _, rfl, ?_, (by first | exact pq_trans hq1 (pq_offK hO4) | exact hq1), (by first | exact pp_trans hpp (pp_offP hPo4) | exact hpp)⟩; unfold aNext; rw [cif_pos (by omega), if_pos hg0]
                              first
                              | (rw [if_pos (by omega), hM]; simp)
                              | (rw [if_neg (by omega), if_pos (by omega), hC1 (by omega), nxC]; simp)
                              | (rw [if_neg (by omega), if_neg (by omega), if_pos (by omega), hG1 (by omega), nxG])
                              | (rw [if_neg (by omega), if_neg (by omega), if_neg (by omega), hF1 (by omega), nxF])
                            · refine z_iload dX9_next_192 rfl ?_
                              refine z_goto (tgt := 199) dX9_next_194 (by decide) ?_
                              refine c_ireturn dX9_next_199 rfl ?_
                              subst hQ0
                              have hS0 : S = [] := by
                                first
                                | exact (hbS.resolve_left (fun z => by have := z.1; omega)).2
                                | (rcases hbS with ⟨_, r, h, _⟩ | ⟨_, h⟩
                                   · rw [h, show (64 - m).toNat = 0 by omega]; exact List.take_zero
                                   · exact h)
                                | (rw [hSe, g88]; exact List.take_nil)
                              rw [hS0] at hM hC1 hG1 hF1
                              rw [List.length_nil] at hM
                              refine ⟨_, _, rfl, ?_, (by first | exact pq_trans hq1 (pq_offK hO4) | exact hq1), (by first | exact pp_trans hpp (pp_offP hPo4) | exact hpp)⟩; unfold aNext; rw [cif_pos (by omega), if_pos hg0]
                              first
                              | (rw [if_pos (by omega), hM]; simp)
                              | (rw [if_neg (by omega), if_pos (by omega), hC1 (by omega), nxC]; simp)
                              | (rw [if_neg (by omega), if_neg (by omega), if_pos (by omega), hG1 (by omega), nxG])
                              | (rw [if_neg (by omega), if_neg (by omega), if_neg (by omega), hF1 (by omega), nxF])
                          · refine z_iload dX9_next_182 rfl ?_
                            refine z_goto (tgt := 199) dX9_next_184 (by decide) ?_
                            refine c_ireturn dX9_next_199 rfl ?_
                            subst hQ0
                            have hS0 : S = [] := by
                              first
                              | exact (hbS.resolve_left (fun z => by have := z.1; omega)).2
                              | (rcases hbS with ⟨_, r, h, _⟩ | ⟨_, h⟩
                                 · rw [h, show (64 - m).toNat = 0 by omega]; exact List.take_zero
                                 · exact h)
                              | (rw [hSe, g88]; exact List.take_nil)
                            rw [hS0] at hM hC1 hG1 hF1
                            rw [List.length_nil] at hM
                            refine ⟨_, _, rfl, ?_, (by first | exact pq_trans hq1 (pq_offK hO4) | exact hq1), (by first | exact pp_trans hpp (pp_offP hPo4) | exact hpp)⟩; unfold aNext; rw [cif_pos (by omega), if_pos hg0]
                            first
                            | (rw [if_pos (by omega), hM]; simp)
                            | (rw [if_neg (by omega), if_pos (by omega), hC1 (by omega), nxC]; simp)
                            | (rw [if_neg (by omega), if_neg (by omega), if_pos (by omega), hG1 (by omega), nxG])
                            | (rw [if_neg (by omega), if_neg (by omega), if_neg (by omega), hF1 (by omega), nxF])
                        · refine z_iload dX9_next_172 rfl ?_
                          refine z_goto (tgt := 199) dX9_next_174 (by decide) ?_
                          refine c_ireturn dX9_next_199 rfl ?_
                          subst hQ0
                          have hS0 : S = [] := by
                            first
                            | exact (hbS.resolve_left (fun z => by have := z.1; omega)).2
                            | (rcases hbS with ⟨_, r, h, _⟩ | ⟨_, h⟩
                               · rw [h, show (64 - m).toNat = 0 by omega]; exact List.take_zero
                               · exact h)
                            | (rw [hSe, g88]; exact List.take_nil)
                          rw [hS0] at hM hC1 hG1 hF1
                          rw [List.length_nil] at hM
                          refine ⟨_, _, rfl, ?_, (by first | exact pq_trans hq1 (pq_offK hO4) | exact hq1), (by first | exact pp_trans hpp (pp_offP hPo4) | exact hpp)⟩; unfold aNext; rw [cif_pos (by omega), if_pos hg0]
                          first
                          | (rw [if_pos (by omega), hM]; simp)
                          | (rw [if_neg (by omega), if_pos (by omega), hC1 (by omega), nxC]; simp)
                          | (rw [if_neg (by omega), if_neg (by omega), if_pos (by omega), hG1 (by omega), nxG])
                          | (rw [if_neg (by omega), if_neg (by omega), if_neg (by omega), hF1 (by omega), nxF])
                      · have g88 := (hb88.resolve_right (fun z => by have := z.1; omega)).2
                        clear hb88
                        obtain ⟨x, rest2, hk2, hS2, hN2⟩ := g88
                        have hSx : S = x :: (kidF (J 44 s.toNat) (eE J s) (truF (J 44 s.toNat) (eE J s)) rest2).take (64 - (m + 1)).toNat := by rw [hSe, hk2, show (64 - m).toNat = (64 - (m + 1)).toNat + 1 by omega, List.take_succ_cons]
                        have hlb := glD_bd (cF ((J 44 s.toNat) + 1) (chE ((J 44 s.toNat)).toNat (eE J s) (truF (J 44 s.toNat) (eE J s)) x)) 9 (by omega)
                        have hlx : (kidL (J 44 s.toNat) (eE J s)) x = glD (cF ((J 44 s.toNat) + 1) (chE ((J 44 s.toNat)).toNat (eE J s) (truF (J 44 s.toNat) (eE J s)) x)) 9 := rfl
                        have hPa4 := Par_off hPa hO4
                        rw [hSx, List.length_cons] at hM
                        refine z_iload_n dX9_next_94 rfl rfl ?_
                        refine c_if_le (tgt := 162) dX9_next_95 (by decide) (by omega) (fun h95 => ?_) (fun h95 => ?_)
                        · refine c_iinc dX9_next_162 rfl (by decide) rfl ?_
                          refine z_goto (tgt := 75) dX9_next_165 (by decide) ?_
                          exact Z.fg2 (ih75 _ (by omega) _ _ _ _ _ ((kidF (J 44 s.toNat) (eE J s) (truF (J 44 s.toNat) (eE J s)) rest2).take (64 - (m + 1)).toNat) _ _ rfl (by omega) (by first | exact Or.inl ⟨hb1, rest2, rfl, RowSt_C hS2 hO5, Par_off hPa4 (offK_C hO5), hk7⟩ | exact Or.inl ⟨hb1, rest2, rfl, hS2, hPa4, hk7⟩) (by omega) (by first | exact fun hw0 => absurd hw0 (by omega) | (intro _; rw [hC2]; first | (exfalso; omega) | (rw [if_pos (by omega)]; omega) | (rw [if_neg (by omega)]; omega))) (by first | exact fun hw0 => absurd hw0 (by omega) | (intro _; rw [hG2]; first | (exfalso; omega) | rw [if_pos (by omega)] | rw [if_neg (by omega)])) (by first | exact fun hw0 => absurd hw0 (by omega) | (intro _; rw [hF2, ← Int.add_assoc]; first | (exfalso; omega) | rw [if_pos (by omega)] | rw [if_neg (by omega)])) (by first | exact pq_trans hq1 (pq_trans (pq_offK hO4) (pq_offC hO5)) | exact pq_trans hq1 (pq_offK hO4)) (by first | exact pp_trans hpp (pp_trans (pp_offP hPo4) (pp_offP hPo5)) | exact pp_trans hpp (pp_offP hPo4))) (zs1 rfl (zs1 rfl (zs1 rfl (zs1 rfl (zs1 rfl (zs1 rfl (zs1 rfl (zs1 rfl (zs1 rfl (zs1 rfl (zsn zs0)))))))))))
                        · have h1n : 1 ≤ J4 44 (72 : Int).toNat := by have h9 : J4 44 72 = _ := hN2.1; show 1 ≤ J4 44 72; omega
                          have hcg : ∀ q, q < 16 → (chE ((J 44 s.toNat)).toNat (eE J s) (truF (J 44 s.toNat) (eE J s)) x) q = eE J4 72 q := fun q hq => (hN2.2.1 q hq).symm
                          have hFn : okF (J4 44 (72 : Int).toNat) (eE J4 72) := by rw [show J4 44 (72 : Int).toNat = (J 44 s.toNat) + 1 from hN2.1]; exact okF_congr hcg (chE_ok h13 hF28 hN2.2.2)
                          have hRq : okR J1 := fun q hq => by rw [hq1.2.2.1 56 (by decide)]; exact hR q hq
                          refine z_aload_n dX9_next_98 rfl rfl ?_
                          refine c_bipush dX9_next_99 (by decide) ?_
                          refine z_callv (N := MX9_layCounts) (ci := 9) (nas := 1) (as := [_]) dX9_next_101 w_1023 w_1020 w_1022 ws_32 w_8 (by decide +kernel) rfl rfl rfl (by decide) (Nat.le_of_ble_eq_true rfl) (by decide) (by decide) (ZC.mono (cLay (p := 72) (by omega) h1n hFn) ?_)
                          rintro _ _ ⟨rfl, J5, P5, rfl, hC, hO5, hPo5⟩
                          have hC5 : CN ((J 44 s.toNat) + 1) (chE ((J 44 s.toNat)).toNat (eE J s) (truF (J 44 s.toNat) (eE J s)) x) J5 := by rw [show J4 44 (72 : Int).toNat = (J 44 s.toNat) + 1 from hN2.1] at hC; exact CN_congr (by omega) (fun q hq => (hcg q hq).symm) hC
                          have hR5 : okR J5 := fun q hq => by rw [hO5.1 56 (by decide) (by decide) (by decide), hO4.1 56 (by decide) (by decide) (by decide) (by decide) (by decide) (by decide)]; exact hRq q hq
                          rw [hSx] at hC1 hG1 hF1
                          have hC2 := hC1 (by omega)
                          have hG2 := hG1 (by omega)
                          have hF2 := hF1 (by omega)
                          rw [nxC] at hC2
                          rw [nxG] at hG2
                          rw [nxF] at hF2
                          clear hC1 hG1 hF1
                          refine z_aload_n dX9_next_104 rfl rfl ?_
                          refine z_callv (N := MX9_greatestLack) (ci := 9) (nas := 0) (as := []) dX9_next_105 w_1142 w_1139 w_1141 ws_46 w_8 (by decide +kernel) rfl rfl rfl (by decide) (Nat.le_of_ble_eq_true rfl) (by decide) (by decide) (ZC.mono (cMX9_greatestLack hC5 hR5) ?_)
                          rintro _ _ ⟨rfl, rfl⟩
                          rw [← hlx]
                          refine z_istore dX9_next_108 (by decide) rfl ?_
                          refine z_iload dX9_next_110 rfl ?_
                          refine z_iload dX9_next_112 rfl ?_
                          refine c_icmp_le (tgt := 122) dX9_next_114 (by decide) (by omega) (by omega) (fun h114 => ?_) (fun h114 => ?_)
                          · refine z_iload dX9_next_122 rfl ?_
                            refine z_istore dX9_next_124 (by decide) rfl ?_
                            refine z_iload dX9_next_126 rfl ?_
                            refine z_iload dX9_next_128 rfl ?_
                            refine c_if_ne (tgt := 137) dX9_next_130 (by decide) (by omega) (fun h130 => ?_) (fun h130 => ?_)
                            · refine c_iconst dX9_next_137 ?_
                              refine c_iadd dX9_next_138 ?_
                              refine z_istore dX9_next_139 (by decide) rfl ?_
                              refine z_iload dX9_next_141 rfl ?_
                              refine c_if_ne (tgt := 158) dX9_next_143 (by decide) (by omega) (fun h143 => ?_) (fun h143 => ?_)
                              · refine z_iload dX9_next_158 rfl ?_
                                refine z_istore dX9_next_160 (by decide) rfl ?_
                                refine c_iinc dX9_next_162 rfl (by decide) rfl ?_
                                refine z_goto (tgt := 75) dX9_next_165 (by decide) ?_
                                exact Z.fg2 (ih75 _ (by omega) _ _ _ _ _ ((kidF (J 44 s.toNat) (eE J s) (truF (J 44 s.toNat) (eE J s)) rest2).take (64 - (m + 1)).toNat) _ _ rfl (by omega) (by first | exact Or.inl ⟨hb1, rest2, rfl, RowSt_C hS2 hO5, Par_off hPa4 (offK_C hO5), hk7⟩ | exact Or.inl ⟨hb1, rest2, rfl, hS2, hPa4, hk7⟩) (by omega) (by first | exact fun hw0 => absurd hw0 (by omega) | (intro _; rw [hC2]; first | (exfalso; omega) | (rw [if_pos (by omega)]; omega) | (rw [if_neg (by omega)]; omega))) (by first | exact fun hw0 => absurd hw0 (by omega) | (intro _; rw [hG2]; first | (exfalso; omega) | rw [if_pos (by omega)] | rw [if_neg (by omega)])) (by first | exact fun hw0 => absurd hw0 (by omega) | (intro _; rw [hF2, ← Int.add_assoc]; first | (exfalso; omega) | rw [if_pos (by omega)] | rw [if_neg (by omega)])) (by first | exact pq_trans hq1 (pq_trans (pq_offK hO4) (pq_offC hO5)) | exact pq_trans hq1 (pq_offK hO4)) (by first | exact pp_trans hpp (pp_trans (pp_offP hPo4) (pp_offP hPo5)) | exact pp_trans hpp (pp_offP hPo4))) (zs1 rfl (zs1 rfl (zs1 rfl (zs1 rfl (zs1 rfl (zs1 rfl (zs1 rfl (zs1 rfl (zs1 rfl (zs1 rfl (zsn zs0)))))))))))
                              · refine z_iload dX9_next_146 rfl ?_
                                refine c_if_ge (tgt := 158) dX9_next_148 (by decide) (by omega) (fun h148 => ?_) (fun h148 => ?_)
                                · refine z_iload dX9_next_158 rfl ?_
                                  refine z_istore dX9_next_160 (by decide) rfl ?_
                                  refine c_iinc dX9_next_162 rfl (by decide) rfl ?_
                                  refine z_goto (tgt := 75) dX9_next_165 (by decide) ?_
                                  exact Z.fg2 (ih75 _ (by omega) _ _ _ _ _ ((kidF (J 44 s.toNat) (eE J s) (truF (J 44 s.toNat) (eE J s)) rest2).take (64 - (m + 1)).toNat) _ _ rfl (by omega) (by first | exact Or.inl ⟨hb1, rest2, rfl, RowSt_C hS2 hO5, Par_off hPa4 (offK_C hO5), hk7⟩ | exact Or.inl ⟨hb1, rest2, rfl, hS2, hPa4, hk7⟩) (by omega) (by first | exact fun hw0 => absurd hw0 (by omega) | (intro _; rw [hC2]; first | (exfalso; omega) | (rw [if_pos (by omega)]; omega) | (rw [if_neg (by omega)]; omega))) (by first | exact fun hw0 => absurd hw0 (by omega) | (intro _; rw [hG2]; first | (exfalso; omega) | rw [if_pos (by omega)] | rw [if_neg (by omega)])) (by first | exact fun hw0 => absurd hw0 (by omega) | (intro _; rw [hF2, ← Int.add_assoc]; first | (exfalso; omega) | rw [if_pos (by omega)] | rw [if_neg (by omega)])) (by first | exact pq_trans hq1 (pq_trans (pq_offK hO4) (pq_offC hO5)) | exact pq_trans hq1 (pq_offK hO4)) (by first | exact pp_trans hpp (pp_trans (pp_offP hPo4) (pp_offP hPo5)) | exact pp_trans hpp (pp_offP hPo4))) (zs1 rfl (zs1 rfl (zs1 rfl (zs1 rfl (zs1 rfl (zs1 rfl (zs1 rfl (zs1 rfl (zs1 rfl (zs1 rfl (zsn zs0)))))))))))
                                · refine z_iload_n dX9_next_151 rfl rfl ?_
                                  refine z_iload dX9_next_152 rfl ?_
                                  refine c_iadd dX9_next_154 ?_
                                  refine z_goto (tgt := 160) dX9_next_155 (by decide) ?_
                                  refine z_istore dX9_next_160 (by decide) rfl ?_
                                  refine c_iinc dX9_next_162 rfl (by decide) rfl ?_
                                  refine z_goto (tgt := 75) dX9_next_165 (by decide) ?_
                                  exact Z.fg2 (ih75 _ (by omega) _ _ _ _ _ ((kidF (J 44 s.toNat) (eE J s) (truF (J 44 s.toNat) (eE J s)) rest2).take (64 - (m + 1)).toNat) _ _ rfl (by omega) (by first | exact Or.inl ⟨hb1, rest2, rfl, RowSt_C hS2 hO5, Par_off hPa4 (offK_C hO5), hk7⟩ | exact Or.inl ⟨hb1, rest2, rfl, hS2, hPa4, hk7⟩) (by omega) (by first | exact fun hw0 => absurd hw0 (by omega) | (intro _; rw [hC2]; first | (exfalso; omega) | (rw [if_pos (by omega)]; omega) | (rw [if_neg (by omega)]; omega))) (by first | exact fun hw0 => absurd hw0 (by omega) | (intro _; rw [hG2]; first | (exfalso; omega) | rw [if_pos (by omega)] | rw [if_neg (by omega)])) (by first | exact fun hw0 => absurd hw0 (by omega) | (intro _; rw [hF2, ← Int.add_assoc]; first | (exfalso; omega) | rw [if_pos (by omega)] | rw [if_neg (by omega)])) (by first | exact pq_trans hq1 (pq_trans (pq_offK hO4) (pq_offC hO5)) | exact pq_trans hq1 (pq_offK hO4)) (by first | exact pp_trans hpp (pp_trans (pp_offP hPo4) (pp_offP hPo5)) | exact pp_trans hpp (pp_offP hPo4))) (zs1 rfl (zs1 rfl (zs1 rfl (zs1 rfl (zs1 rfl (zs1 rfl (zs1 rfl (zs1 rfl (zs1 rfl (zs1 rfl (zsn zs0)))))))))))
                            · refine c_iconst dX9_next_133 ?_
                              refine z_goto (tgt := 138) dX9_next_134 (by decide) ?_
                              refine c_iadd dX9_next_138 ?_
                              refine z_istore dX9_next_139 (by decide) rfl ?_
                              refine z_iload dX9_next_141 rfl ?_
                              refine c_if_ne (tgt := 158) dX9_next_143 (by decide) (by omega) (fun h143 => ?_) (fun h143 => ?_)
                              · refine z_iload dX9_next_158 rfl ?_
                                refine z_istore dX9_next_160 (by decide) rfl ?_
                                refine c_iinc dX9_next_162 rfl (by decide) rfl ?_
                                refine z_goto (tgt := 75) dX9_next_165 (by decide) ?_
                                exact Z.fg2 (ih75 _ (by omega) _ _ _ _ _ ((kidF (J 44 s.toNat) (eE J s) (truF (J 44 s.toNat) (eE J s)) rest2).take (64 - (m + 1)).toNat) _ _ rfl (by omega) (by first | exact Or.inl ⟨hb1, rest2, rfl, RowSt_C hS2 hO5, Par_off hPa4 (offK_C hO5), hk7⟩ | exact Or.inl ⟨hb1, rest2, rfl, hS2, hPa4, hk7⟩) (by omega) (by first | exact fun hw0 => absurd hw0 (by omega) | (intro _; rw [hC2]; first | (exfalso; omega) | (rw [if_pos (by omega)]; omega) | (rw [if_neg (by omega)]; omega))) (by first | exact fun hw0 => absurd hw0 (by omega) | (intro _; rw [hG2]; first | (exfalso; omega) | rw [if_pos (by omega)] | rw [if_neg (by omega)])) (by first | exact fun hw0 => absurd hw0 (by omega) | (intro _; rw [hF2, ← Int.add_assoc]; first | (exfalso; omega) | rw [if_pos (by omega)] | rw [if_neg (by omega)])) (by first | exact pq_trans hq1 (pq_trans (pq_offK hO4) (pq_offC hO5)) | exact pq_trans hq1 (pq_offK hO4)) (by first | exact pp_trans hpp (pp_trans (pp_offP hPo4) (pp_offP hPo5)) | exact pp_trans hpp (pp_offP hPo4))) (zs1 rfl (zs1 rfl (zs1 rfl (zs1 rfl (zs1 rfl (zs1 rfl (zs1 rfl (zs1 rfl (zs1 rfl (zs1 rfl (zsn zs0)))))))))))
                              · refine z_iload dX9_next_146 rfl ?_
                                refine c_if_ge (tgt := 158) dX9_next_148 (by decide) (by omega) (fun h148 => ?_) (fun h148 => ?_)
                                · refine z_iload dX9_next_158 rfl ?_
                                  refine z_istore dX9_next_160 (by decide) rfl ?_
                                  refine c_iinc dX9_next_162 rfl (by decide) rfl ?_
                                  refine z_goto (tgt := 75) dX9_next_165 (by decide) ?_
                                  exact Z.fg2 (ih75 _ (by omega) _ _ _ _ _ ((kidF (J 44 s.toNat) (eE J s) (truF (J 44 s.toNat) (eE J s)) rest2).take (64 - (m + 1)).toNat) _ _ rfl (by omega) (by first | exact Or.inl ⟨hb1, rest2, rfl, RowSt_C hS2 hO5, Par_off hPa4 (offK_C hO5), hk7⟩ | exact Or.inl ⟨hb1, rest2, rfl, hS2, hPa4, hk7⟩) (by omega) (by first | exact fun hw0 => absurd hw0 (by omega) | (intro _; rw [hC2]; first | (exfalso; omega) | (rw [if_pos (by omega)]; omega) | (rw [if_neg (by omega)]; omega))) (by first | exact fun hw0 => absurd hw0 (by omega) | (intro _; rw [hG2]; first | (exfalso; omega) | rw [if_pos (by omega)] | rw [if_neg (by omega)])) (by first | exact fun hw0 => absurd hw0 (by omega) | (intro _; rw [hF2, ← Int.add_assoc]; first | (exfalso; omega) | rw [if_pos (by omega)] | rw [if_neg (by omega)])) (by first | exact pq_trans hq1 (pq_trans (pq_offK hO4) (pq_offC hO5)) | exact pq_trans hq1 (pq_offK hO4)) (by first | exact pp_trans hpp (pp_trans (pp_offP hPo4) (pp_offP hPo5)) | exact pp_trans hpp (pp_offP hPo4))) (zs1 rfl (zs1 rfl (zs1 rfl (zs1 rfl (zs1 rfl (zs1 rfl (zs1 rfl (zs1 rfl (zs1 rfl (zs1 rfl (zsn zs0)))))))))))
                                · refine z_iload_n dX9_next_151 rfl rfl ?_
                                  refine z_iload dX9_next_152 rfl ?_
                                  refine c_iadd dX9_next_154 ?_
                                  refine z_goto (tgt := 160) dX9_next_155 (by decide) ?_
                                  refine z_istore dX9_next_160 (by decide) rfl ?_
                                  refine c_iinc dX9_next_162 rfl (by decide) rfl ?_
                                  refine z_goto (tgt := 75) dX9_next_165 (by decide) ?_
                                  exact Z.fg2 (ih75 _ (by omega) _ _ _ _ _ ((kidF (J 44 s.toNat) (eE J s) (truF (J 44 s.toNat) (eE J s)) rest2).take (64 - (m + 1)).toNat) _ _ rfl (by omega) (by first | exact Or.inl ⟨hb1, rest2, rfl, RowSt_C hS2 hO5, Par_off hPa4 (offK_C hO5), hk7⟩ | exact Or.inl ⟨hb1, rest2, rfl, hS2, hPa4, hk7⟩) (by omega) (by first | exact fun hw0 => absurd hw0 (by omega) | (intro _; rw [hC2]; first | (exfalso; omega) | (rw [if_pos (by omega)]; omega) | (rw [if_neg (by omega)]; omega))) (by first | exact fun hw0 => absurd hw0 (by omega) | (intro _; rw [hG2]; first | (exfalso; omega) | rw [if_pos (by omega)] | rw [if_neg (by omega)])) (by first | exact fun hw0 => absurd hw0 (by omega) | (intro _; rw [hF2, ← Int.add_assoc]; first | (exfalso; omega) | rw [if_pos (by omega)] | rw [if_neg (by omega)])) (by first | exact pq_trans hq1 (pq_trans (pq_offK hO4) (pq_offC hO5)) | exact pq_trans hq1 (pq_offK hO4)) (by first | exact pp_trans hpp (pp_trans (pp_offP hPo4) (pp_offP hPo5)) | exact pp_trans hpp (pp_offP hPo4))) (zs1 rfl (zs1 rfl (zs1 rfl (zs1 rfl (zs1 rfl (zs1 rfl (zs1 rfl (zs1 rfl (zs1 rfl (zs1 rfl (zsn zs0)))))))))))
                          · refine z_iload dX9_next_117 rfl ?_
                            refine z_goto (tgt := 124) dX9_next_119 (by decide) ?_
                            refine z_istore dX9_next_124 (by decide) rfl ?_
                            refine z_iload dX9_next_126 rfl ?_
                            refine z_iload dX9_next_128 rfl ?_
                            refine c_if_ne (tgt := 137) dX9_next_130 (by decide) (by omega) (fun h130 => ?_) (fun h130 => ?_)
                            · refine c_iconst dX9_next_137 ?_
                              refine c_iadd dX9_next_138 ?_
                              refine z_istore dX9_next_139 (by decide) rfl ?_
                              refine z_iload dX9_next_141 rfl ?_
                              refine c_if_ne (tgt := 158) dX9_next_143 (by decide) (by omega) (fun h143 => ?_) (fun h143 => ?_)
                              · refine z_iload dX9_next_158 rfl ?_
                                refine z_istore dX9_next_160 (by decide) rfl ?_
                                refine c_iinc dX9_next_162 rfl (by decide) rfl ?_
                                refine z_goto (tgt := 75) dX9_next_165 (by decide) ?_
                                exact Z.fg2 (ih75 _ (by omega) _ _ _ _ _ ((kidF (J 44 s.toNat) (eE J s) (truF (J 44 s.toNat) (eE J s)) rest2).take (64 - (m + 1)).toNat) _ _ rfl (by omega) (by first | exact Or.inl ⟨hb1, rest2, rfl, RowSt_C hS2 hO5, Par_off hPa4 (offK_C hO5), hk7⟩ | exact Or.inl ⟨hb1, rest2, rfl, hS2, hPa4, hk7⟩) (by omega) (by first | exact fun hw0 => absurd hw0 (by omega) | (intro _; rw [hC2]; first | (exfalso; omega) | (rw [if_pos (by omega)]; omega) | (rw [if_neg (by omega)]; omega))) (by first | exact fun hw0 => absurd hw0 (by omega) | (intro _; rw [hG2]; first | (exfalso; omega) | rw [if_pos (by omega)] | rw [if_neg (by omega)])) (by first | exact fun hw0 => absurd hw0 (by omega) | (intro _; rw [hF2, ← Int.add_assoc]; first | (exfalso; omega) | rw [if_pos (by omega)] | rw [if_neg (by omega)])) (by first | exact pq_trans hq1 (pq_trans (pq_offK hO4) (pq_offC hO5)) | exact pq_trans hq1 (pq_offK hO4)) (by first | exact pp_trans hpp (pp_trans (pp_offP hPo4) (pp_offP hPo5)) | exact pp_trans hpp (pp_offP hPo4))) (zs1 rfl (zs1 rfl (zs1 rfl (zs1 rfl (zs1 rfl (zs1 rfl (zs1 rfl (zs1 rfl (zs1 rfl (zs1 rfl (zsn zs0)))))))))))
                              · refine z_iload dX9_next_146 rfl ?_
                                refine c_if_ge (tgt := 158) dX9_next_148 (by decide) (by omega) (fun h148 => ?_) (fun h148 => ?_)
                                · refine z_iload dX9_next_158 rfl ?_
                                  refine z_istore dX9_next_160 (by decide) rfl ?_
                                  refine c_iinc dX9_next_162 rfl (by decide) rfl ?_
                                  refine z_goto (tgt := 75) dX9_next_165 (by decide) ?_
                                  exact Z.fg2 (ih75 _ (by omega) _ _ _ _ _ ((kidF (J 44 s.toNat) (eE J s) (truF (J 44 s.toNat) (eE J s)) rest2).take (64 - (m + 1)).toNat) _ _ rfl (by omega) (by first | exact Or.inl ⟨hb1, rest2, rfl, RowSt_C hS2 hO5, Par_off hPa4 (offK_C hO5), hk7⟩ | exact Or.inl ⟨hb1, rest2, rfl, hS2, hPa4, hk7⟩) (by omega) (by first | exact fun hw0 => absurd hw0 (by omega) | (intro _; rw [hC2]; first | (exfalso; omega) | (rw [if_pos (by omega)]; omega) | (rw [if_neg (by omega)]; omega))) (by first | exact fun hw0 => absurd hw0 (by omega) | (intro _; rw [hG2]; first | (exfalso; omega) | rw [if_pos (by omega)] | rw [if_neg (by omega)])) (by first | exact fun hw0 => absurd hw0 (by omega) | (intro _; rw [hF2, ← Int.add_assoc]; first | (exfalso; omega) | rw [if_pos (by omega)] | rw [if_neg (by omega)])) (by first | exact pq_trans hq1 (pq_trans (pq_offK hO4) (pq_offC hO5)) | exact pq_trans hq1 (pq_offK hO4)) (by first | exact pp_trans hpp (pp_trans (pp_offP hPo4) (pp_offP hPo5)) | exact pp_trans hpp (pp_offP hPo4))) (zs1 rfl (zs1 rfl (zs1 rfl (zs1 rfl (zs1 rfl (zs1 rfl (zs1 rfl (zs1 rfl (zs1 rfl (zs1 rfl (zsn zs0)))))))))))
                                · refine z_iload_n dX9_next_151 rfl rfl ?_
                                  refine z_iload dX9_next_152 rfl ?_
                                  refine c_iadd dX9_next_154 ?_
                                  refine z_goto (tgt := 160) dX9_next_155 (by decide) ?_
                                  refine z_istore dX9_next_160 (by decide) rfl ?_
                                  refine c_iinc dX9_next_162 rfl (by decide) rfl ?_
                                  refine z_goto (tgt := 75) dX9_next_165 (by decide) ?_
                                  exact Z.fg2 (ih75 _ (by omega) _ _ _ _ _ ((kidF (J 44 s.toNat) (eE J s) (truF (J 44 s.toNat) (eE J s)) rest2).take (64 - (m + 1)).toNat) _ _ rfl (by omega) (by first | exact Or.inl ⟨hb1, rest2, rfl, RowSt_C hS2 hO5, Par_off hPa4 (offK_C hO5), hk7⟩ | exact Or.inl ⟨hb1, rest2, rfl, hS2, hPa4, hk7⟩) (by omega) (by first | exact fun hw0 => absurd hw0 (by omega) | (intro _; rw [hC2]; first | (exfalso; omega) | (rw [if_pos (by omega)]; omega) | (rw [if_neg (by omega)]; omega))) (by first | exact fun hw0 => absurd hw0 (by omega) | (intro _; rw [hG2]; first | (exfalso; omega) | rw [if_pos (by omega)] | rw [if_neg (by omega)])) (by first | exact fun hw0 => absurd hw0 (by omega) | (intro _; rw [hF2, ← Int.add_assoc]; first | (exfalso; omega) | rw [if_pos (by omega)] | rw [if_neg (by omega)])) (by first | exact pq_trans hq1 (pq_trans (pq_offK hO4) (pq_offC hO5)) | exact pq_trans hq1 (pq_offK hO4)) (by first | exact pp_trans hpp (pp_trans (pp_offP hPo4) (pp_offP hPo5)) | exact pp_trans hpp (pp_offP hPo4))) (zs1 rfl (zs1 rfl (zs1 rfl (zs1 rfl (zs1 rfl (zs1 rfl (zs1 rfl (zs1 rfl (zs1 rfl (zs1 rfl (zsn zs0)))))))))))
                            · refine c_iconst dX9_next_133 ?_
                              refine z_goto (tgt := 138) dX9_next_134 (by decide) ?_
                              refine c_iadd dX9_next_138 ?_
                              refine z_istore dX9_next_139 (by decide) rfl ?_
                              refine z_iload dX9_next_141 rfl ?_
                              refine c_if_ne (tgt := 158) dX9_next_143 (by decide) (by omega) (fun h143 => ?_) (fun h143 => ?_)
                              · refine z_iload dX9_next_158 rfl ?_
                                refine z_istore dX9_next_160 (by decide) rfl ?_
                                refine c_iinc dX9_next_162 rfl (by decide) rfl ?_
                                refine z_goto (tgt := 75) dX9_next_165 (by decide) ?_
                                exact Z.fg2 (ih75 _ (by omega) _ _ _ _ _ ((kidF (J 44 s.toNat) (eE J s) (truF (J 44 s.toNat) (eE J s)) rest2).take (64 - (m + 1)).toNat) _ _ rfl (by omega) (by first | exact Or.inl ⟨hb1, rest2, rfl, RowSt_C hS2 hO5, Par_off hPa4 (offK_C hO5), hk7⟩ | exact Or.inl ⟨hb1, rest2, rfl, hS2, hPa4, hk7⟩) (by omega) (by first | exact fun hw0 => absurd hw0 (by omega) | (intro _; rw [hC2]; first | (exfalso; omega) | (rw [if_pos (by omega)]; omega) | (rw [if_neg (by omega)]; omega))) (by first | exact fun hw0 => absurd hw0 (by omega) | (intro _; rw [hG2]; first | (exfalso; omega) | rw [if_pos (by omega)] | rw [if_neg (by omega)])) (by first | exact fun hw0 => absurd hw0 (by omega) | (intro _; rw [hF2, ← Int.add_assoc]; first | (exfalso; omega) | rw [if_pos (by omega)] | rw [if_neg (by omega)])) (by first | exact pq_trans hq1 (pq_trans (pq_offK hO4) (pq_offC hO5)) | exact pq_trans hq1 (pq_offK hO4)) (by first | exact pp_trans hpp (pp_trans (pp_offP hPo4) (pp_offP hPo5)) | exact pp_trans hpp (pp_offP hPo4))) (zs1 rfl (zs1 rfl (zs1 rfl (zs1 rfl (zs1 rfl (zs1 rfl (zs1 rfl (zs1 rfl (zs1 rfl (zs1 rfl (zsn zs0)))))))))))
                              · refine z_iload dX9_next_146 rfl ?_
                                refine c_if_ge (tgt := 158) dX9_next_148 (by decide) (by omega) (fun h148 => ?_) (fun h148 => ?_)
                                · refine z_iload dX9_next_158 rfl ?_
                                  refine z_istore dX9_next_160 (by decide) rfl ?_
                                  refine c_iinc dX9_next_162 rfl (by decide) rfl ?_
                                  refine z_goto (tgt := 75) dX9_next_165 (by decide) ?_
                                  exact Z.fg2 (ih75 _ (by omega) _ _ _ _ _ ((kidF (J 44 s.toNat) (eE J s) (truF (J 44 s.toNat) (eE J s)) rest2).take (64 - (m + 1)).toNat) _ _ rfl (by omega) (by first | exact Or.inl ⟨hb1, rest2, rfl, RowSt_C hS2 hO5, Par_off hPa4 (offK_C hO5), hk7⟩ | exact Or.inl ⟨hb1, rest2, rfl, hS2, hPa4, hk7⟩) (by omega) (by first | exact fun hw0 => absurd hw0 (by omega) | (intro _; rw [hC2]; first | (exfalso; omega) | (rw [if_pos (by omega)]; omega) | (rw [if_neg (by omega)]; omega))) (by first | exact fun hw0 => absurd hw0 (by omega) | (intro _; rw [hG2]; first | (exfalso; omega) | rw [if_pos (by omega)] | rw [if_neg (by omega)])) (by first | exact fun hw0 => absurd hw0 (by omega) | (intro _; rw [hF2, ← Int.add_assoc]; first | (exfalso; omega) | rw [if_pos (by omega)] | rw [if_neg (by omega)])) (by first | exact pq_trans hq1 (pq_trans (pq_offK hO4) (pq_offC hO5)) | exact pq_trans hq1 (pq_offK hO4)) (by first | exact pp_trans hpp (pp_trans (pp_offP hPo4) (pp_offP hPo5)) | exact pp_trans hpp (pp_offP hPo4))) (zs1 rfl (zs1 rfl (zs1 rfl (zs1 rfl (zs1 rfl (zs1 rfl (zs1 rfl (zs1 rfl (zs1 rfl (zs1 rfl (zsn zs0)))))))))))
                                · refine z_iload_n dX9_next_151 rfl rfl ?_
                                  refine z_iload dX9_next_152 rfl ?_
                                  refine c_iadd dX9_next_154 ?_
                                  refine z_goto (tgt := 160) dX9_next_155 (by decide) ?_
                                  refine z_istore dX9_next_160 (by decide) rfl ?_
                                  refine c_iinc dX9_next_162 rfl (by decide) rfl ?_
                                  refine z_goto (tgt := 75) dX9_next_165 (by decide) ?_
                                  exact Z.fg2 (ih75 _ (by omega) _ _ _ _ _ ((kidF (J 44 s.toNat) (eE J s) (truF (J 44 s.toNat) (eE J s)) rest2).take (64 - (m + 1)).toNat) _ _ rfl (by omega) (by first | exact Or.inl ⟨hb1, rest2, rfl, RowSt_C hS2 hO5, Par_off hPa4 (offK_C hO5), hk7⟩ | exact Or.inl ⟨hb1, rest2, rfl, hS2, hPa4, hk7⟩) (by omega) (by first | exact fun hw0 => absurd hw0 (by omega) | (intro _; rw [hC2]; first | (exfalso; omega) | (rw [if_pos (by omega)]; omega) | (rw [if_neg (by omega)]; omega))) (by first | exact fun hw0 => absurd hw0 (by omega) | (intro _; rw [hG2]; first | (exfalso; omega) | rw [if_pos (by omega)] | rw [if_neg (by omega)])) (by first | exact fun hw0 => absurd hw0 (by omega) | (intro _; rw [hF2, ← Int.add_assoc]; first | (exfalso; omega) | rw [if_pos (by omega)] | rw [if_neg (by omega)])) (by first | exact pq_trans hq1 (pq_trans (pq_offK hO4) (pq_offC hO5)) | exact pq_trans hq1 (pq_offK hO4)) (by first | exact pp_trans hpp (pp_trans (pp_offP hPo4) (pp_offP hPo5)) | exact pp_trans hpp (pp_offP hPo4))) (zs1 rfl (zs1 rfl (zs1 rfl (zs1 rfl (zs1 rfl (zs1 rfl (zs1 rfl (zs1 rfl (zs1 rfl (zs1 rfl (zsn zs0)))))))))))
              exact Z.fg2 (L75 _ _ _ _ _ _ (nxL (J 44 s.toNat) (eE J s) k) _ _ rfl (by omega) (by first | exact nx_a (by omega) hst1 | exact nx_b hk g62 (Par_off hst1.2 hO3) | exact nx_c (by omega) g62) (by rw [Int.zero_add]) (fun _ => by rw [Int.zero_add]) (fun _ => rfl) (fun _ => by rw [Int.add_zero]) (by first | exact hq2 | exact pq_trans hq2 (pq_offK hO3)) (by first | exact hpq2 | exact pp_trans hpq2 (pp_offP hPo3))) (zs1 rfl (zs1 rfl (zs1 rfl (zs1 rfl (zs1 rfl (zs1 rfl (zs1 rfl (zs1 rfl (zs1 rfl (zs1 rfl (zsn zs0)))))))))))
            · have g62 := (hb62.resolve_right (fun z => by have := z.1; omega)).2
              clear hb62
              refine c_iconst dX9_next_68 ?_
              refine z_goto (tgt := 73) dX9_next_69 (by decide) ?_
              refine z_istore dX9_next_73 (by decide) rfl ?_
              have L75 : ∀ (m75 : Nat), ∀ (m c gr f b : Int) (S : List V4) (J1 P1 : Nat → Nat → Int), (64 - m).toNat = m75 → (0 ≤ m ∧ m ≤ 64 ∧ 0 ≤ c ∧ c ≤ m ∧ 0 ≤ gr ∧ gr ≤ 73 ∧ -2 ≤ f ∧ f ≤ 7880663) → ((b = 1 ∧ ∃ rest1, S = (kidF (J 44 s.toNat) (eE J s) (truF (J 44 s.toNat) (eE J s)) rest1).take (64 - m).toNat ∧ RowSt J1 rest1 ∧ Par J1 s (J 44 s.toNat) (eE J s) (truF (J 44 s.toNat) (eE J s)) ∧ k ≤ 7880599) ∨ (b = 0 ∧ S = [])) → (((nxL (J 44 s.toNat) (eE J s) k).length : Int) = m + (S.length : Int)) → (0 < w → nxC (kidL (J 44 s.toNat) (eE J s)) (nxL (J 44 s.toNat) (eE J s) k) = c + nxC (kidL (J 44 s.toNat) (eE J s)) S) → (0 < w → nxG (kidL (J 44 s.toNat) (eE J s)) (nxL (J 44 s.toNat) (eE J s) k) 0 = nxG (kidL (J 44 s.toNat) (eE J s)) S gr) → (0 < w → nxF (kidL (J 44 s.toNat) (eE J s)) (nxL (J 44 s.toNat) (eE J s) k) k (-2) = nxF (kidL (J 44 s.toNat) (eE J s)) S (k + m) f) → (pq J J1) → (pp P P1) → Z g l MX9_next 75 [some (.ref 42), some (.int (iZ s)), some (.int (iZ k)), some (.int (iZ w)), some (.int (iZ (grow (J 44 s.toNat) (eE J s)))), some (.int (iZ m)), some (.int (iZ c)), some (.int (iZ gr)), some (.int (iZ f)), some (.int (iZ b)), none] [] (KF Kd, zi J1, zj P1, RF Rd, n, s0) Q0 := by
                intro m75
                induction m75 using Nat.strongRecOn with
                | ind m75 ih75 =>
                  intro m c gr f b S J1 P1 hm75 hm hbS hM hC1 hG1 hF1 hq1 hpp
                  refine z_iload dX9_next_75 rfl ?_
                  refine c_if_eq (tgt := 168) dX9_next_77 (by decide) (by rcases hbS with h | h <;> (have := h.1; omega)) (fun h77 => ?_) (fun h77 => ?_)
                  · refine z_iload_n dX9_next_168 rfl rfl ?_
                    refine c_if_ne (tgt := 177) dX9_next_169 (by decide) (by omega) (fun h169 => ?_) (fun h169 => ?_)
                    · refine z_iload_n dX9_next_177 rfl rfl ?_
                      refine c_iconst dX9_next_178 ?_
                      refine c_icmp_ne (tgt := 187) dX9_next_179 (by decide) (by omega) (by omega) (fun h179 => ?_) (fun h179 => ?_)
                      · refine z_iload_n dX9_next_187 rfl rfl ?_
                        refine c_iconst dX9_next_188 ?_
                        refine c_icmp_ne (tgt := 197) dX9_next_189 (by decide) (by omega) (by omega) (fun h189 => ?_) (fun h189 => ?_)
                        · refine z_iload dX9_next_197 rfl ?_
                          refine c_ireturn dX9_next_199 rfl ?_
                          subst hQ0
                          have hS0 : S = [] := by
                            first
                            | exact (hbS.resolve_left (fun z => by have := z.1; omega)).2
                            | (rcases hbS with ⟨_, r, h, _⟩ | ⟨_, h⟩
                               · rw [h, show (64 - m).toNat = 0 by omega]; exact List.take_zero
                               · exact h)
                            | (rw [hSe, g88]; exact List.take_nil)
                          rw [hS0] at hM hC1 hG1 hF1
                          rw [List.length_nil] at hM
                          refine ⟨_, _, rfl, ?_, (by first | exact pq_trans hq1 (pq_offK hO4) | exact hq1), (by first | exact pp_trans hpp (pp_offP hPo4) | exact hpp)⟩; unfold aNext; rw [cif_pos (by omega), if_pos hg0]
                          first
                          | (rw [if_pos (by omega), hM]; simp)
                          | (rw [if_neg (by omega), if_pos (by omega), hC1 (by omega), nxC]; simp)
                          | (rw [if_neg (by omega), if_neg (by omega), if_pos (by omega), hG1 (by omega), nxG])
                          | (rw [if_neg (by omega), if_neg (by omega), if_neg (by omega), hF1 (by omega), nxF])
                        · refine z_iload dX9_next_192 rfl ?_
                          refine z_goto (tgt := 199) dX9_next_194 (by decide) ?_
                          refine c_ireturn dX9_next_199 rfl ?_
                          subst hQ0
                          have hS0 : S = [] := by
                            first
                            | exact (hbS.resolve_left (fun z => by have := z.1; omega)).2
                            | (rcases hbS with ⟨_, r, h, _⟩ | ⟨_, h⟩
                               · rw [h, show (64 - m).toNat = 0 by omega]; exact List.take_zero
                               · exact h)
                            | (rw [hSe, g88]; exact List.take_nil)
                          rw [hS0] at hM hC1 hG1 hF1
                          rw [List.length_nil] at hM
                          refine ⟨_, _, rfl, ?_, (by first | exact pq_trans hq1 (pq_offK hO4) | exact hq1), (by first | exact pp_trans hpp (pp_offP hPo4) | exact hpp)⟩; unfold aNext; rw [cif_pos (by omega), if_pos hg0]
                          first
                          | (rw [if_pos (by omega), hM]; simp)
                          | (rw [if_neg (by omega), if_pos (by omega), hC1 (by omega), nxC]; simp)
                          | (rw [if_neg (by omega), if_neg (by omega), if_pos (by omega), hG1 (by omega), nxG])
                          | (rw [if_neg (by omega), if_neg (by omega), if_neg (by omega), hF1 (by omega), nxF])
                      · refine z_iload dX9_next_182 rfl ?_
                        refine z_goto (tgt := 199) dX9_next_184 (by decide) ?_
                        refine c_ireturn dX9_next_199 rfl ?_
                        subst hQ0
                        have hS0 : S = [] := by
                          first
                          | exact (hbS.resolve_left (fun z => by have := z.1; omega)).2
                          | (rcases hbS with ⟨_, r, h, _⟩ | ⟨_, h⟩
                             · rw [h, show (64 - m).toNat = 0 by omega]; exact List.take_zero
                             · exact h)
                          | (rw [hSe, g88]; exact List.take_nil)
                        rw [hS0] at hM hC1 hG1 hF1
                        rw [List.length_nil] at hM
                        refine ⟨_, _, rfl, ?_, (by first | exact pq_trans hq1 (pq_offK hO4) | exact hq1), (by first | exact pp_trans hpp (pp_offP hPo4) | exact hpp)⟩; unfold aNext; rw [cif_pos (by omega), if_pos hg0]
                        first
                        | (rw [if_pos (by omega), hM]; simp)
                        | (rw [if_neg (by omega), if_pos (by omega), hC1 (by omega), nxC]; simp)
                        | (rw [if_neg (by omega), if_neg (by omega), if_pos (by omega), hG1 (by omega), nxG])
                        | (rw [if_neg (by omega), if_neg (by omega), if_neg (by omega), hF1 (by omega), nxF])
                    · refine z_iload dX9_next_172 rfl ?_
                      refine z_goto (tgt := 199) dX9_next_174 (by decide) ?_
                      refine c_ireturn dX9_next_199 rfl ?_
                      subst hQ0
                      have hS0 : S = [] := by
                        first
                        | exact (hbS.resolve_left (fun z => by have := z.1; omega)).2
                        | (rcases hbS with ⟨_, r, h, _⟩ | ⟨_, h⟩
                           · rw [h, show (64 - m).toNat = 0 by omega]; exact List.take_zero
                           · exact h)
                        | (rw [hSe, g88]; exact List.take_nil)
                      rw [hS0] at hM hC1 hG1 hF1
                      rw [List.length_nil] at hM
                      refine ⟨_, _, rfl, ?_, (by first | exact pq_trans hq1 (pq_offK hO4) | exact hq1), (by first | exact pp_trans hpp (pp_offP hPo4) | exact hpp)⟩; unfold aNext; rw [cif_pos (by omega), if_pos hg0]
                      first
                      | (rw [if_pos (by omega), hM]; simp)
                      | (rw [if_neg (by omega), if_pos (by omega), hC1 (by omega), nxC]; simp)
                      | (rw [if_neg (by omega), if_neg (by omega), if_pos (by omega), hG1 (by omega), nxG])
                      | (rw [if_neg (by omega), if_neg (by omega), if_neg (by omega), hF1 (by omega), nxF])
                  · obtain ⟨hb1, rest1, hSe, hS1, hPa, hk7⟩ := hbS.resolve_right (fun z => by have := z.1; omega)
                    refine z_iload dX9_next_80 rfl ?_
                    refine c_bipush dX9_next_82 (by decide) ?_
                    refine c_icmp_ge (tgt := 168) dX9_next_84 (by decide) (by omega) (by omega) (fun h84 => ?_) (fun h84 => ?_)
                    · refine z_iload_n dX9_next_168 rfl rfl ?_
                      refine c_if_ne (tgt := 177) dX9_next_169 (by decide) (by omega) (fun h169 => ?_) (fun h169 => ?_)
                      · refine z_iload_n dX9_next_177 rfl rfl ?_
                        refine c_iconst dX9_next_178 ?_
                        refine c_icmp_ne (tgt := 187) dX9_next_179 (by decide) (by omega) (by omega) (fun h179 => ?_) (fun h179 => ?_)
                        · refine z_iload_n dX9_next_187 rfl rfl ?_
                          refine c_iconst dX9_next_188 ?_
                          refine c_icmp_ne (tgt := 197) dX9_next_189 (by decide) (by omega) (by omega) (fun h189 => ?_) (fun h189 => ?_)
                          · refine z_iload dX9_next_197 rfl ?_
                            refine c_ireturn dX9_next_199 rfl ?_
                            subst hQ0
                            have hS0 : S = [] := by
                              first
                              | exact (hbS.resolve_left (fun z => by have := z.1; omega)).2
                              | (rcases hbS with ⟨_, r, h, _⟩ | ⟨_, h⟩
                                 · rw [h, show (64 - m).toNat = 0 by omega]; exact List.take_zero
                                 · exact h)
                              | (rw [hSe, g88]; exact List.take_nil)
                            rw [hS0] at hM hC1 hG1 hF1
                            rw [List.length_nil] at hM
                            refine ⟨_, _, rfl, ?_, (by first | exact pq_trans hq1 (pq_offK hO4) | exact hq1), (by first | exact pp_trans hpp (pp_offP hPo4) | exact hpp)⟩; unfold aNext; rw [cif_pos (by omega), if_pos hg0]
                            first
                            | (rw [if_pos (by omega), hM]; simp)
                            | (rw [if_neg (by omega), if_pos (by omega), hC1 (by omega), nxC]; simp)
                            | (rw [if_neg (by omega), if_neg (by omega), if_pos (by omega), hG1 (by omega), nxG])
                            | (rw [if_neg (by omega), if_neg (by omega), if_neg (by omega), hF1 (by omega), nxF])
                          · refine z_iload dX9_next_192 rfl ?_
                            refine z_goto (tgt := 199) dX9_next_194 (by decide) ?_
                            refine c_ireturn dX9_next_199 rfl ?_
                            subst hQ0
                            have hS0 : S = [] := by
                              first
                              | exact (hbS.resolve_left (fun z => by have := z.1; omega)).2
                              | (rcases hbS with ⟨_, r, h, _⟩ | ⟨_, h⟩
                                 · rw [h, show (64 - m).toNat = 0 by omega]; exact List.take_zero
                                 · exact h)
                              | (rw [hSe, g88]; exact List.take_nil)
                            rw [hS0] at hM hC1 hG1 hF1
                            rw [List.length_nil] at hM
                            refine ⟨_, _, rfl, ?_, (by first | exact pq_trans hq1 (pq_offK hO4) | exact hq1), (by first | exact pp_trans hpp (pp_offP hPo4) | exact hpp)⟩; unfold aNext; rw [cif_pos (by omega), if_pos hg0]
                            first
                            | (rw [if_pos (by omega), hM]; simp)
                            | (rw [if_neg (by omega), if_pos (by omega), hC1 (by omega), nxC]; simp)
                            | (rw [if_neg (by omega), if_neg (by omega), if_pos (by omega), hG1 (by omega), nxG])
                            | (rw [if_neg (by omega), if_neg (by omega), if_neg (by omega), hF1 (by omega), nxF])
                        · refine z_iload dX9_next_182 rfl ?_
                          refine z_goto (tgt := 199) dX9_next_184 (by decide) ?_
                          refine c_ireturn dX9_next_199 rfl ?_
                          subst hQ0
                          have hS0 : S = [] := by
                            first
                            | exact (hbS.resolve_left (fun z => by have := z.1; omega)).2
                            | (rcases hbS with ⟨_, r, h, _⟩ | ⟨_, h⟩
                               · rw [h, show (64 - m).toNat = 0 by omega]; exact List.take_zero
                               · exact h)
                            | (rw [hSe, g88]; exact List.take_nil)
                          rw [hS0] at hM hC1 hG1 hF1
                          rw [List.length_nil] at hM
                          refine ⟨_, _, rfl, ?_, (by first | exact pq_trans hq1 (pq_offK hO4) | exact hq1), (by first | exact pp_trans hpp (pp_offP hPo4) | exact hpp)⟩; unfold aNext; rw [cif_pos (by omega), if_pos hg0]
                          first
                          | (rw [if_pos (by omega), hM]; simp)
                          | (rw [if_neg (by omega), if_pos (by omega), hC1 (by omega), nxC]; simp)
                          | (rw [if_neg (by omega), if_neg (by omega), if_pos (by omega), hG1 (by omega), nxG])
                          | (rw [if_neg (by omega), if_neg (by omega), if_neg (by omega), hF1 (by omega), nxF])
                      · refine z_iload dX9_next_172 rfl ?_
                        refine z_goto (tgt := 199) dX9_next_174 (by decide) ?_
                        refine c_ireturn dX9_next_199 rfl ?_
                        subst hQ0
                        have hS0 : S = [] := by
                          first
                          | exact (hbS.resolve_left (fun z => by have := z.1; omega)).2
                          | (rcases hbS with ⟨_, r, h, _⟩ | ⟨_, h⟩
                             · rw [h, show (64 - m).toNat = 0 by omega]; exact List.take_zero
                             · exact h)
                          | (rw [hSe, g88]; exact List.take_nil)
                        rw [hS0] at hM hC1 hG1 hF1
                        rw [List.length_nil] at hM
                        refine ⟨_, _, rfl, ?_, (by first | exact pq_trans hq1 (pq_offK hO4) | exact hq1), (by first | exact pp_trans hpp (pp_offP hPo4) | exact hpp)⟩; unfold aNext; rw [cif_pos (by omega), if_pos hg0]
                        first
                        | (rw [if_pos (by omega), hM]; simp)
                        | (rw [if_neg (by omega), if_pos (by omega), hC1 (by omega), nxC]; simp)
                        | (rw [if_neg (by omega), if_neg (by omega), if_pos (by omega), hG1 (by omega), nxG])
                        | (rw [if_neg (by omega), if_neg (by omega), if_neg (by omega), hF1 (by omega), nxF])
                    · refine z_aload_n dX9_next_87 rfl rfl ?_
                      refine z_callv (N := MX9_nextChild) (ci := 9) (nas := 0) (as := []) dX9_next_88 w_1122 w_1119 w_1121 ws_43 w_8 (by decide +kernel) rfl rfl rfl (by decide) (Nat.le_of_ble_eq_true rfl) (by decide) (by decide) (ZC.mono (cMX9_nextChild hS1 hPa) ?_)
                      rintro _ _ ⟨J4, P4, b88, rfl, rfl, hb88, hO4, hPo4⟩
                      refine c_if_eq (tgt := 168) dX9_next_91 (by decide) (by omega) (fun h91 => ?_) (fun h91 => ?_)
                      · have g88 := (hb88.resolve_left (fun z => by have := z.1; omega)).2
                        clear hb88
                        refine z_iload_n dX9_next_168 rfl rfl ?_
                        refine c_if_ne (tgt := 177) dX9_next_169 (by decide) (by omega) (fun h169 => ?_) (fun h169 => ?_)
                        · refine z_iload_n dX9_next_177 rfl rfl ?_
                          refine c_iconst dX9_next_178 ?_
                          refine c_icmp_ne (tgt := 187) dX9_next_179 (by decide) (by omega) (by omega) (fun h179 => ?_) (fun h179 => ?_)
                          · refine z_iload_n dX9_next_187 rfl rfl ?_
                            refine c_iconst dX9_next_188 ?_
                            refine c_icmp_ne (tgt := 197) dX9_next_189 (by decide) (by omega) (by omega) (fun h189 => ?_) (fun h189 => ?_)
                            · refine z_iload dX9_next_197 rfl ?_
                              refine c_ireturn dX9_next_199 rfl ?_
                              subst hQ0
                              have hS0 : S = [] := by
                                first
                                | exact (hbS.resolve_left (fun z => by have := z.1; omega)).2
                                | (rcases hbS with ⟨_, r, h, _⟩ | ⟨_, h⟩
                                   · rw [h, show (64 - m).toNat = 0 by omega]; exact List.take_zero
                                   · exact h)
                                | (rw [hSe, g88]; exact List.take_nil)
                              rw [hS0] at hM hC1 hG1 hF1
                              rw [List.length_nil] at hM
                              refine ⟨_, _, rfl, ?_, (by first | exact pq_trans hq1 (pq_offK hO4) | exact hq1), (by first | exact pp_trans hpp (pp_offP hPo4) | exact hpp)⟩; unfold aNext; rw [cif_pos (by omega), if_pos hg0]
                              first
                              | (rw [if_pos (by omega), hM]; simp)
                              | (rw [if_neg (by omega), if_pos (by omega), hC1 (by omega), nxC]; simp)
                              | (rw [if_neg (by omega), if_neg (by omega), if_pos (by omega), hG1 (by omega), nxG])
                              | (rw [if_neg (by omega), if_neg (by omega), if_neg (by omega), hF1 (by omega), nxF])
                            · refine z_iload dX9_next_192 rfl ?_
                              refine z_goto (tgt := 199) dX9_next_194 (by decide) ?_
                              refine c_ireturn dX9_next_199 rfl ?_
                              subst hQ0
                              have hS0 : S = [] := by
                                first
                                | exact (hbS.resolve_left (fun z => by have := z.1; omega)).2
                                | (rcases hbS with ⟨_, r, h, _⟩ | ⟨_, h⟩
                                   · rw [h, show (64 - m).toNat = 0 by omega]; exact List.take_zero
                                   · exact h)
                                | (rw [hSe, g88]; exact List.take_nil)
                              rw [hS0] at hM hC1 hG1 hF1
                              rw [List.length_nil] at hM
                              refine ⟨_, _, rfl, ?_, (by first | exact pq_trans hq1 (pq_offK hO4) | exact hq1), (by first | exact pp_trans hpp (pp_offP hPo4) | exact hpp)⟩; unfold aNext; rw [cif_pos (by omega), if_pos hg0]
                              first
                              | (rw [if_pos (by omega), hM]; simp)
                              | (rw [if_neg (by omega), if_pos (by omega), hC1 (by omega), nxC]; simp)
                              | (rw [if_neg (by omega), if_neg (by omega), if_pos (by omega), hG1 (by omega), nxG])
                              | (rw [if_neg (by omega), if_neg (by omega), if_neg (by omega), hF1 (by omega), nxF])
                          · refine z_iload dX9_next_182 rfl ?_
                            refine z_goto (tgt := 199) dX9_next_184 (by decide) ?_
                            refine c_ireturn dX9_next_199 rfl ?_
                            subst hQ0
                            have hS0 : S = [] := by
                              first
                              | exact (hbS.resolve_left (fun z => by have := z.1; omega)).2
                              | (rcases hbS with ⟨_, r, h, _⟩ | ⟨_, h⟩
                                 · rw [h, show (64 - m).toNat = 0 by omega]; exact List.take_zero
                                 · exact h)
                              | (rw [hSe, g88]; exact List.take_nil)
                            rw [hS0] at hM hC1 hG1 hF1
                            rw [List.length_nil] at hM
                            refine ⟨_, _, rfl, ?_, (by first | exact pq_trans hq1 (pq_offK hO4) | exact hq1), (by first | exact pp_trans hpp (pp_offP hPo4) | exact hpp)⟩; unfold aNext; rw [cif_pos (by omega), if_pos hg0]
                            first
                            | (rw [if_pos (by omega), hM]; simp)
                            | (rw [if_neg (by omega), if_pos (by omega), hC1 (by omega), nxC]; simp)
                            | (rw [if_neg (by omega), if_neg (by omega), if_pos (by omega), hG1 (by omega), nxG])
                            | (rw [if_neg (by omega), if_neg (by omega), if_neg (by omega), hF1 (by omega), nxF])
                        · refine z_iload dX9_next_172 rfl ?_
                          refine z_goto (tgt := 199) dX9_next_174 (by decide) ?_
                          refine c_ireturn dX9_next_199 rfl ?_
                          subst hQ0
                          have hS0 : S = [] := by
                            first
                            | exact (hbS.resolve_left (fun z => by have := z.1; omega)).2
                            | (rcases hbS with ⟨_, r, h, _⟩ | ⟨_, h⟩
                               · rw [h, show (64 - m).toNat = 0 by omega]; exact List.take_zero
                               · exact h)
                            | (rw [hSe, g88]; exact List.take_nil)
                          rw [hS0] at hM hC1 hG1 hF1
                          rw [List.length_nil] at hM
                          refine ⟨_, _, rfl, ?_, (by first | exact pq_trans hq1 (pq_offK hO4) | exact hq1), (by first | exact pp_trans hpp (pp_offP hPo4) | exact hpp)⟩; unfold aNext; rw [cif_pos (by omega), if_pos hg0]
                          first
                          | (rw [if_pos (by omega), hM]; simp)
                          | (rw [if_neg (by omega), if_pos (by omega), hC1 (by omega), nxC]; simp)
                          | (rw [if_neg (by omega), if_neg (by omega), if_pos (by omega), hG1 (by omega), nxG])
                          | (rw [if_neg (by omega), if_neg (by omega), if_neg (by omega), hF1 (by omega), nxF])
                      · have g88 := (hb88.resolve_right (fun z => by have := z.1; omega)).2
                        clear hb88
                        obtain ⟨x, rest2, hk2, hS2, hN2⟩ := g88
                        have hSx : S = x :: (kidF (J 44 s.toNat) (eE J s) (truF (J 44 s.toNat) (eE J s)) rest2).take (64 - (m + 1)).toNat := by rw [hSe, hk2, show (64 - m).toNat = (64 - (m + 1)).toNat + 1 by omega, List.take_succ_cons]
                        have hlb := glD_bd (cF ((J 44 s.toNat) + 1) (chE ((J 44 s.toNat)).toNat (eE J s) (truF (J 44 s.toNat) (eE J s)) x)) 9 (by omega)
                        have hlx : (kidL (J 44 s.toNat) (eE J s)) x = glD (cF ((J 44 s.toNat) + 1) (chE ((J 44 s.toNat)).toNat (eE J s) (truF (J 44 s.toNat) (eE J s)) x)) 9 := rfl
                        have hPa4 := Par_off hPa hO4
                        rw [hSx, List.length_cons] at hM
                        refine z_iload_n dX9_next_94 rfl rfl ?_
                        refine c_if_le (tgt := 162) dX9_next_95 (by decide) (by omega) (fun h95 => ?_) (fun h95 => ?_)
                        · refine c_iinc dX9_next_162 rfl (by decide) rfl ?_
                          refine z_goto (tgt := 75) dX9_next_165 (by decide) ?_
                          exact Z.fg2 (ih75 _ (by omega) _ _ _ _ _ ((kidF (J 44 s.toNat) (eE J s) (truF (J 44 s.toNat) (eE J s)) rest2).take (64 - (m + 1)).toNat) _ _ rfl (by omega) (by first | exact Or.inl ⟨hb1, rest2, rfl, RowSt_C hS2 hO5, Par_off hPa4 (offK_C hO5), hk7⟩ | exact Or.inl ⟨hb1, rest2, rfl, hS2, hPa4, hk7⟩) (by omega) (by first | exact fun hw0 => absurd hw0 (by omega) | (intro _; rw [hC2]; first | (exfalso; omega) | (rw [if_pos (by omega)]; omega) | (rw [if_neg (by omega)]; omega))) (by first | exact fun hw0 => absurd hw0 (by omega) | (intro _; rw [hG2]; first | (exfalso; omega) | rw [if_pos (by omega)] | rw [if_neg (by omega)])) (by first | exact fun hw0 => absurd hw0 (by omega) | (intro _; rw [hF2, ← Int.add_assoc]; first | (exfalso; omega) | rw [if_pos (by omega)] | rw [if_neg (by omega)])) (by first | exact pq_trans hq1 (pq_trans (pq_offK hO4) (pq_offC hO5)) | exact pq_trans hq1 (pq_offK hO4)) (by first | exact pp_trans hpp (pp_trans (pp_offP hPo4) (pp_offP hPo5)) | exact pp_trans hpp (pp_offP hPo4))) (zs1 rfl (zs1 rfl (zs1 rfl (zs1 rfl (zs1 rfl (zs1 rfl (zs1 rfl (zs1 rfl (zs1 rfl (zs1 rfl (zsn zs0)))))))))))
                        · have h1n : 1 ≤ J4 44 (72 : Int).toNat := by have h9 : J4 44 72 = _ := hN2.1; show 1 ≤ J4 44 72; omega
                          have hcg : ∀ q, q < 16 → (chE ((J 44 s.toNat)).toNat (eE J s) (truF (J 44 s.toNat) (eE J s)) x) q = eE J4 72 q := fun q hq => (hN2.2.1 q hq).symm
                          have hFn : okF (J4 44 (72 : Int).toNat) (eE J4 72) := by rw [show J4 44 (72 : Int).toNat = (J 44 s.toNat) + 1 from hN2.1]; exact okF_congr hcg (chE_ok h13 hF28 hN2.2.2)
                          have hRq : okR J1 := fun q hq => by rw [hq1.2.2.1 56 (by decide)]; exact hR q hq
                          refine z_aload_n dX9_next_98 rfl rfl ?_
                          refine c_bipush dX9_next_99 (by decide) ?_
                          refine z_callv (N := MX9_layCounts) (ci := 9) (nas := 1) (as := [_]) dX9_next_101 w_1023 w_1020 w_1022 ws_32 w_8 (by decide +kernel) rfl rfl rfl (by decide) (Nat.le_of_ble_eq_true rfl) (by decide) (by decide) (ZC.mono (cLay (p := 72) (by omega) h1n hFn) ?_)
                          rintro _ _ ⟨rfl, J5, P5, rfl, hC, hO5, hPo5⟩
                          have hC5 : CN ((J 44 s.toNat) + 1) (chE ((J 44 s.toNat)).toNat (eE J s) (truF (J 44 s.toNat) (eE J s)) x) J5 := by rw [show J4 44 (72 : Int).toNat = (J 44 s.toNat) + 1 from hN2.1] at hC; exact CN_congr (by omega) (fun q hq => (hcg q hq).symm) hC
                          have hR5 : okR J5 := fun q hq => by rw [hO5.1 56 (by decide) (by decide) (by decide), hO4.1 56 (by decide) (by decide) (by decide) (by decide) (by decide) (by decide)]; exact hRq q hq
                          rw [hSx] at hC1 hG1 hF1
                          have hC2 := hC1 (by omega)
                          have hG2 := hG1 (by omega)
                          have hF2 := hF1 (by omega)
                          rw [nxC] at hC2
                          rw [nxG] at hG2
                          rw [nxF] at hF2
                          clear hC1 hG1 hF1
                          refine z_aload_n dX9_next_104 rfl rfl ?_
                          refine z_callv (N := MX9_greatestLack) (ci := 9) (nas := 0) (as := []) dX9_next_105 w_1142 w_1139 w_1141 ws_46 w_8 (by decide +kernel) rfl rfl rfl (by decide) (Nat.le_of_ble_eq_true rfl) (by decide) (by decide) (ZC.mono (cMX9_greatestLack hC5 hR5) ?_)
                          rintro _ _ ⟨rfl, rfl⟩
                          rw [← hlx]
                          refine z_istore dX9_next_108 (by decide) rfl ?_
                          refine z_iload dX9_next_110 rfl ?_
                          refine z_iload dX9_next_112 rfl ?_
                          refine c_icmp_le (tgt := 122) dX9_next_114 (by decide) (by omega) (by omega) (fun h114 => ?_) (fun h114 => ?_)
                          · refine z_iload dX9_next_122 rfl ?_
                            refine z_istore dX9_next_124 (by decide) rfl ?_
                            refine z_iload dX9_next_126 rfl ?_
                            refine z_iload dX9_next_128 rfl ?_
                            refine c_if_ne (tgt := 137) dX9_next_130 (by decide) (by omega) (fun h130 => ?_) (fun h130 => ?_)
                            · refine c_iconst dX9_next_137 ?_
                              refine c_iadd dX9_next_138 ?_
                              refine z_istore dX9_next_139 (by decide) rfl ?_
                              refine z_iload dX9_next_141 rfl ?_
                              refine c_if_ne (tgt := 158) dX9_next_143 (by decide) (by omega) (fun h143 => ?_) (fun h143 => ?_)
                              · refine z_iload dX9_next_158 rfl ?_
                                refine z_istore dX9_next_160 (by decide) rfl ?_
                                refine c_iinc dX9_next_162 rfl (by decide) rfl ?_
                                refine z_goto (tgt := 75) dX9_next_165 (by decide) ?_
                                exact Z.fg2 (ih75 _ (by omega) _ _ _ _ _ ((kidF (J 44 s.toNat) (eE J s) (truF (J 44 s.toNat) (eE J s)) rest2).take (64 - (m + 1)).toNat) _ _ rfl (by omega) (by first | exact Or.inl ⟨hb1, rest2, rfl, RowSt_C hS2 hO5, Par_off hPa4 (offK_C hO5), hk7⟩ | exact Or.inl ⟨hb1, rest2, rfl, hS2, hPa4, hk7⟩) (by omega) (by first | exact fun hw0 => absurd hw0 (by omega) | (intro _; rw [hC2]; first | (exfalso; omega) | (rw [if_pos (by omega)]; omega) | (rw [if_neg (by omega)]; omega))) (by first | exact fun hw0 => absurd hw0 (by omega) | (intro _; rw [hG2]; first | (exfalso; omega) | rw [if_pos (by omega)] | rw [if_neg (by omega)])) (by first | exact fun hw0 => absurd hw0 (by omega) | (intro _; rw [hF2, ← Int.add_assoc]; first | (exfalso; omega) | rw [if_pos (by omega)] | rw [if_neg (by omega)])) (by first | exact pq_trans hq1 (pq_trans (pq_offK hO4) (pq_offC hO5)) | exact pq_trans hq1 (pq_offK hO4)) (by first | exact pp_trans hpp (pp_trans (pp_offP hPo4) (pp_offP hPo5)) | exact pp_trans hpp (pp_offP hPo4))) (zs1 rfl (zs1 rfl (zs1 rfl (zs1 rfl (zs1 rfl (zs1 rfl (zs1 rfl (zs1 rfl (zs1 rfl (zs1 rfl (zsn zs0)))))))))))
                              · refine z_iload dX9_next_146 rfl ?_
                                refine c_if_ge (tgt := 158) dX9_next_148 (by decide) (by omega) (fun h148 => ?_) (fun h148 => ?_)
                                · refine z_iload dX9_next_158 rfl ?_
                                  refine z_istore dX9_next_160 (by decide) rfl ?_
                                  refine c_iinc dX9_next_162 rfl (by decide) rfl ?_
                                  refine z_goto (tgt := 75) dX9_next_165 (by decide) ?_
                                  exact Z.fg2 (ih75 _ (by omega) _ _ _ _ _ ((kidF (J 44 s.toNat) (eE J s) (truF (J 44 s.toNat) (eE J s)) rest2).take (64 - (m + 1)).toNat) _ _ rfl (by omega) (by first | exact Or.inl ⟨hb1, rest2, rfl, RowSt_C hS2 hO5, Par_off hPa4 (offK_C hO5), hk7⟩ | exact Or.inl ⟨hb1, rest2, rfl, hS2, hPa4, hk7⟩) (by omega) (by first | exact fun hw0 => absurd hw0 (by omega) | (intro _; rw [hC2]; first | (exfalso; omega) | (rw [if_pos (by omega)]; omega) | (rw [if_neg (by omega)]; omega))) (by first | exact fun hw0 => absurd hw0 (by omega) | (intro _; rw [hG2]; first | (exfalso; omega) | rw [if_pos (by omega)] | rw [if_neg (by omega)])) (by first | exact fun hw0 => absurd hw0 (by omega) | (intro _; rw [hF2, ← Int.add_assoc]; first | (exfalso; omega) | rw [if_pos (by omega)] | rw [if_neg (by omega)])) (by first | exact pq_trans hq1 (pq_trans (pq_offK hO4) (pq_offC hO5)) | exact pq_trans hq1 (pq_offK hO4)) (by first | exact pp_trans hpp (pp_trans (pp_offP hPo4) (pp_offP hPo5)) | exact pp_trans hpp (pp_offP hPo4))) (zs1 rfl (zs1 rfl (zs1 rfl (zs1 rfl (zs1 rfl (zs1 rfl (zs1 rfl (zs1 rfl (zs1 rfl (zs1 rfl (zsn zs0)))))))))))
                                · refine z_iload_n dX9_next_151 rfl rfl ?_
                                  refine z_iload dX9_next_152 rfl ?_
                                  refine c_iadd dX9_next_154 ?_
                                  refine z_goto (tgt := 160) dX9_next_155 (by decide) ?_
                                  refine z_istore dX9_next_160 (by decide) rfl ?_
                                  refine c_iinc dX9_next_162 rfl (by decide) rfl ?_
                                  refine z_goto (tgt := 75) dX9_next_165 (by decide) ?_
                                  exact Z.fg2 (ih75 _ (by omega) _ _ _ _ _ ((kidF (J 44 s.toNat) (eE J s) (truF (J 44 s.toNat) (eE J s)) rest2).take (64 - (m + 1)).toNat) _ _ rfl (by omega) (by first | exact Or.inl ⟨hb1, rest2, rfl, RowSt_C hS2 hO5, Par_off hPa4 (offK_C hO5), hk7⟩ | exact Or.inl ⟨hb1, rest2, rfl, hS2, hPa4, hk7⟩) (by omega) (by first | exact fun hw0 => absurd hw0 (by omega) | (intro _; rw [hC2]; first | (exfalso; omega) | (rw [if_pos (by omega)]; omega) | (rw [if_neg (by omega)]; omega))) (by first | exact fun hw0 => absurd hw0 (by omega) | (intro _; rw [hG2]; first | (exfalso; omega) | rw [if_pos (by omega)] | rw [if_neg (by omega)])) (by first | exact fun hw0 => absurd hw0 (by omega) | (intro _; rw [hF2, ← Int.add_assoc]; first | (exfalso; omega) | rw [if_pos (by omega)] | rw [if_neg (by omega)])) (by first | exact pq_trans hq1 (pq_trans (pq_offK hO4) (pq_offC hO5)) | exact pq_trans hq1 (pq_offK hO4)) (by first | exact pp_trans hpp (pp_trans (pp_offP hPo4) (pp_offP hPo5)) | exact pp_trans hpp (pp_offP hPo4))) (zs1 rfl (zs1 rfl (zs1 rfl (zs1 rfl (zs1 rfl (zs1 rfl (zs1 rfl (zs1 rfl (zs1 rfl (zs1 rfl (zsn zs0)))))))))))
                            · refine c_iconst dX9_next_133 ?_
                              refine z_goto (tgt := 138) dX9_next_134 (by decide) ?_
                              refine c_iadd dX9_next_138 ?_
                              refine z_istore dX9_next_139 (by decide) rfl ?_
                              refine z_iload dX9_next_141 rfl ?_
                              refine c_if_ne (tgt := 158) dX9_next_143 (by decide) (by omega) (fun h143 => ?_) (fun h143 => ?_)
                              · refine z_iload dX9_next_158 rfl ?_
                                refine z_istore dX9_next_160 (by decide) rfl ?_
                                refine c_iinc dX9_next_162 rfl (by decide) rfl ?_
                                refine z_goto (tgt := 75) dX9_next_165 (by decide) ?_
                                exact Z.fg2 (ih75 _ (by omega) _ _ _ _ _ ((kidF (J 44 s.toNat) (eE J s) (truF (J 44 s.toNat) (eE J s)) rest2).take (64 - (m + 1)).toNat) _ _ rfl (by omega) (by first | exact Or.inl ⟨hb1, rest2, rfl, RowSt_C hS2 hO5, Par_off hPa4 (offK_C hO5), hk7⟩ | exact Or.inl ⟨hb1, rest2, rfl, hS2, hPa4, hk7⟩) (by omega) (by first | exact fun hw0 => absurd hw0 (by omega) | (intro _; rw [hC2]; first | (exfalso; omega) | (rw [if_pos (by omega)]; omega) | (rw [if_neg (by omega)]; omega))) (by first | exact fun hw0 => absurd hw0 (by omega) | (intro _; rw [hG2]; first | (exfalso; omega) | rw [if_pos (by omega)] | rw [if_neg (by omega)])) (by first | exact fun hw0 => absurd hw0 (by omega) | (intro _; rw [hF2, ← Int.add_assoc]; first | (exfalso; omega) | rw [if_pos (by omega)] | rw [if_neg (by omega)])) (by first | exact pq_trans hq1 (pq_trans (pq_offK hO4) (pq_offC hO5)) | exact pq_trans hq1 (pq_offK hO4)) (by first | exact pp_trans hpp (pp_trans (pp_offP hPo4) (pp_offP hPo5)) | exact pp_trans hpp (pp_offP hPo4))) (zs1 rfl (zs1 rfl (zs1 rfl (zs1 rfl (zs1 rfl (zs1 rfl (zs1 rfl (zs1 rfl (zs1 rfl (zs1 rfl (zsn zs0)))))))))))
                              · refine z_iload dX9_next_146 rfl ?_
                                refine c_if_ge (tgt := 158) dX9_next_148 (by decide) (by omega) (fun h148 => ?_) (fun h148 => ?_)
                                · refine z_iload dX9_next_158 rfl ?_
                                  refine z_istore dX9_next_160 (by decide) rfl ?_
                                  refine c_iinc dX9_next_162 rfl (by decide) rfl ?_
                                  refine z_goto (tgt := 75) dX9_next_165 (by decide) ?_
                                  exact Z.fg2 (ih75 _ (by omega) _ _ _ _ _ ((kidF (J 44 s.toNat) (eE J s) (truF (J 44 s.toNat) (eE J s)) rest2).take (64 - (m + 1)).toNat) _ _ rfl (by omega) (by first | exact Or.inl ⟨hb1, rest2, rfl, RowSt_C hS2 hO5, Par_off hPa4 (offK_C hO5), hk7⟩ | exact Or.inl ⟨hb1, rest2, rfl, hS2, hPa4, hk7⟩) (by omega) (by first | exact fun hw0 => absurd hw0 (by omega) | (intro _; rw [hC2]; first | (exfalso; omega) | (rw [if_pos (by omega)]; omega) | (rw [if_neg (by omega)]; omega))) (by first | exact fun hw0 => absurd hw0 (by omega) | (intro _; rw [hG2]; first | (exfalso; omega) | rw [if_pos (by omega)] | rw [if_neg (by omega)])) (by first | exact fun hw0 => absurd hw0 (by omega) | (intro _; rw [hF2, ← Int.add_assoc]; first | (exfalso; omega) | rw [if_pos (by omega)] | rw [if_neg (by omega)])) (by first | exact pq_trans hq1 (pq_trans (pq_offK hO4) (pq_offC hO5)) | exact pq_trans hq1 (pq_offK hO4)) (by first | exact pp_trans hpp (pp_trans (pp_offP hPo4) (pp_offP hPo5)) | exact pp_trans hpp (pp_offP hPo4))) (zs1 rfl (zs1 rfl (zs1 rfl (zs1 rfl (zs1 rfl (zs1 rfl (zs1 rfl (zs1 rfl (zs1 rfl (zs1 rfl (zsn zs0)))))))))))
                                · refine z_iload_n dX9_next_151 rfl rfl ?_
                                  refine z_iload dX9_next_152 rfl ?_
                                  refine c_iadd dX9_next_154 ?_
                                  refine z_goto (tgt := 160) dX9_next_155 (by decide) ?_
                                  refine z_istore dX9_next_160 (by decide) rfl ?_
                                  refine c_iinc dX9_next_162 rfl (by decide) rfl ?_
                                  refine z_goto (tgt := 75) dX9_next_165 (by decide) ?_
                                  exact Z.fg2 (ih75 _ (by omega) _ _ _ _ _ ((kidF (J 44 s.toNat) (eE J s) (truF (J 44 s.toNat) (eE J s)) rest2).take (64 - (m + 1)).toNat) _ _ rfl (by omega) (by first | exact Or.inl ⟨hb1, rest2, rfl, RowSt_C hS2 hO5, Par_off hPa4 (offK_C hO5), hk7⟩ | exact Or.inl ⟨hb1, rest2, rfl, hS2, hPa4, hk7⟩) (by omega) (by first | exact fun hw0 => absurd hw0 (by omega) | (intro _; rw [hC2]; first | (exfalso; omega) | (rw [if_pos (by omega)]; omega) | (rw [if_neg (by omega)]; omega))) (by first | exact fun hw0 => absurd hw0 (by omega) | (intro _; rw [hG2]; first | (exfalso; omega) | rw [if_pos (by omega)] | rw [if_neg (by omega)])) (by first | exact fun hw0 => absurd hw0 (by omega) | (intro _; rw [hF2, ← Int.add_assoc]; first | (exfalso; omega) | rw [if_pos (by omega)] | rw [if_neg (by omega)])) (by first | exact pq_trans hq1 (pq_trans (pq_offK hO4) (pq_offC hO5)) | exact pq_trans hq1 (pq_offK hO4)) (by first | exact pp_trans hpp (pp_trans (pp_offP hPo4) (pp_offP hPo5)) | exact pp_trans hpp (pp_offP hPo4))) (zs1 rfl (zs1 rfl (zs1 rfl (zs1 rfl (zs1 rfl (zs1 rfl (zs1 rfl (zs1 rfl (zs1 rfl (zs1 rfl (zsn zs0)))))))))))
                          · refine z_iload dX9_next_117 rfl ?_
                            refine z_goto (tgt := 124) dX9_next_119 (by decide) ?_
                            refine z_istore dX9_next_124 (by decide) rfl ?_
                            refine z_iload dX9_next_126 rfl ?_
                            refine z_iload dX9_next_128 rfl ?_
                            refine c_if_ne (tgt := 137) dX9_next_130 (by decide) (by omega) (fun h130 => ?_) (fun h130 => ?_)
                            · refine c_iconst dX9_next_137 ?_
                              refine c_iadd dX9_next_138 ?_
                              refine z_istore dX9_next_139 (by decide) rfl ?_
                              refine z_iload dX9_next_141 rfl ?_
                              refine c_if_ne (tgt := 158) dX9_next_143 (by decide) (by omega) (fun h143 => ?_) (fun h143 => ?_)
                              · refine z_iload dX9_next_158 rfl ?_
                                refine z_istore dX9_next_160 (by decide) rfl ?_
                                refine c_iinc dX9_next_162 rfl (by decide) rfl ?_
                                refine z_goto (tgt := 75) dX9_next_165 (by decide) ?_
                                exact Z.fg2 (ih75 _ (by omega) _ _ _ _ _ ((kidF (J 44 s.toNat) (eE J s) (truF (J 44 s.toNat) (eE J s)) rest2).take (64 - (m + 1)).toNat) _ _ rfl (by omega) (by first | exact Or.inl ⟨hb1, rest2, rfl, RowSt_C hS2 hO5, Par_off hPa4 (offK_C hO5), hk7⟩ | exact Or.inl ⟨hb1, rest2, rfl, hS2, hPa4, hk7⟩) (by omega) (by first | exact fun hw0 => absurd hw0 (by omega) | (intro _; rw [hC2]; first | (exfalso; omega) | (rw [if_pos (by omega)]; omega) | (rw [if_neg (by omega)]; omega))) (by first | exact fun hw0 => absurd hw0 (by omega) | (intro _; rw [hG2]; first | (exfalso; omega) | rw [if_pos (by omega)] | rw [if_neg (by omega)])) (by first | exact fun hw0 => absurd hw0 (by omega) | (intro _; rw [hF2, ← Int.add_assoc]; first | (exfalso; omega) | rw [if_pos (by omega)] | rw [if_neg (by omega)])) (by first | exact pq_trans hq1 (pq_trans (pq_offK hO4) (pq_offC hO5)) | exact pq_trans hq1 (pq_offK hO4)) (by first | exact pp_trans hpp (pp_trans (pp_offP hPo4) (pp_offP hPo5)) | exact pp_trans hpp (pp_offP hPo4))) (zs1 rfl (zs1 rfl (zs1 rfl (zs1 rfl (zs1 rfl (zs1 rfl (zs1 rfl (zs1 rfl (zs1 rfl (zs1 rfl (zsn zs0)))))))))))
                              · refine z_iload dX9_next_146 rfl ?_
                                refine c_if_ge (tgt := 158) dX9_next_148 (by decide) (by omega) (fun h148 => ?_) (fun h148 => ?_)
                                · refine z_iload dX9_next_158 rfl ?_
                                  refine z_istore dX9_next_160 (by decide) rfl ?_
                                  refine c_iinc dX9_next_162 rfl (by decide) rfl ?_
                                  refine z_goto (tgt := 75) dX9_next_165 (by decide) ?_
                                  exact Z.fg2 (ih75 _ (by omega) _ _ _ _ _ ((kidF (J 44 s.toNat) (eE J s) (truF (J 44 s.toNat) (eE J s)) rest2).take (64 - (m + 1)).toNat) _ _ rfl (by omega) (by first | exact Or.inl ⟨hb1, rest2, rfl, RowSt_C hS2 hO5, Par_off hPa4 (offK_C hO5), hk7⟩ | exact Or.inl ⟨hb1, rest2, rfl, hS2, hPa4, hk7⟩) (by omega) (by first | exact fun hw0 => absurd hw0 (by omega) | (intro _; rw [hC2]; first | (exfalso; omega) | (rw [if_pos (by omega)]; omega) | (rw [if_neg (by omega)]; omega))) (by first | exact fun hw0 => absurd hw0 (by omega) | (intro _; rw [hG2]; first | (exfalso; omega) | rw [if_pos (by omega)] | rw [if_neg (by omega)])) (by first | exact fun hw0 => absurd hw0 (by omega) | (intro _; rw [hF2, ← Int.add_assoc]; first | (exfalso; omega) | rw [if_pos (by omega)] | rw [if_neg (by omega)])) (by first | exact pq_trans hq1 (pq_trans (pq_offK hO4) (pq_offC hO5)) | exact pq_trans hq1 (pq_offK hO4)) (by first | exact pp_trans hpp (pp_trans (pp_offP hPo4) (pp_offP hPo5)) | exact pp_trans hpp (pp_offP hPo4))) (zs1 rfl (zs1 rfl (zs1 rfl (zs1 rfl (zs1 rfl (zs1 rfl (zs1 rfl (zs1 rfl (zs1 rfl (zs1 rfl (zsn zs0)))))))))))
                                · refine z_iload_n dX9_next_151 rfl rfl ?_
                                  refine z_iload dX9_next_152 rfl ?_
                                  refine c_iadd dX9_next_154 ?_
                                  refine z_goto (tgt := 160) dX9_next_155 (by decide) ?_
                                  refine z_istore dX9_next_160 (by decide) rfl ?_
                                  refine c_iinc dX9_next_162 rfl (by decide) rfl ?_
                                  refine z_goto (tgt := 75) dX9_next_165 (by decide) ?_
                                  exact Z.fg2 (ih75 _ (by omega) _ _ _ _ _ ((kidF (J 44 s.toNat) (eE J s) (truF (J 44 s.toNat) (eE J s)) rest2).take (64 - (m + 1)).toNat) _ _ rfl (by omega) (by first | exact Or.inl ⟨hb1, rest2, rfl, RowSt_C hS2 hO5, Par_off hPa4 (offK_C hO5), hk7⟩ | exact Or.inl ⟨hb1, rest2, rfl, hS2, hPa4, hk7⟩) (by omega) (by first | exact fun hw0 => absurd hw0 (by omega) | (intro _; rw [hC2]; first | (exfalso; omega) | (rw [if_pos (by omega)]; omega) | (rw [if_neg (by omega)]; omega))) (by first | exact fun hw0 => absurd hw0 (by omega) | (intro _; rw [hG2]; first | (exfalso; omega) | rw [if_pos (by omega)] | rw [if_neg (by omega)])) (by first | exact fun hw0 => absurd hw0 (by omega) | (intro _; rw [hF2, ← Int.add_assoc]; first | (exfalso; omega) | rw [if_pos (by omega)] | rw [if_neg (by omega)])) (by first | exact pq_trans hq1 (pq_trans (pq_offK hO4) (pq_offC hO5)) | exact pq_trans hq1 (pq_offK hO4)) (by first | exact pp_trans hpp (pp_trans (pp_offP hPo4) (pp_offP hPo5)) | exact pp_trans hpp (pp_offP hPo4))) (zs1 rfl (zs1 rfl (zs1 rfl (zs1 rfl (zs1 rfl (zs1 rfl (zs1 rfl (zs1 rfl (zs1 rfl (zs1 rfl (zsn zs0)))))))))))
                            · refine c_iconst dX9_next_133 ?_
                              refine z_goto (tgt := 138) dX9_next_134 (by decide) ?_
                              refine c_iadd dX9_next_138 ?_
                              refine z_istore dX9_next_139 (by decide) rfl ?_
                              refine z_iload dX9_next_141 rfl ?_
                              refine c_if_ne (tgt := 158) dX9_next_143 (by decide) (by omega) (fun h143 => ?_) (fun h143 => ?_)
                              · refine z_iload dX9_next_158 rfl ?_
                                refine z_istore dX9_next_160 (by decide) rfl ?_
                                refine c_iinc dX9_next_162 rfl (by decide) rfl ?_
                                refine z_goto (tgt := 75) dX9_next_165 (by decide) ?_
                                exact Z.fg2 (ih75 _ (by omega) _ _ _ _ _ ((kidF (J 44 s.toNat) (eE J s) (truF (J 44 s.toNat) (eE J s)) rest2).take (64 - (m + 1)).toNat) _ _ rfl (by omega) (by first | exact Or.inl ⟨hb1, rest2, rfl, RowSt_C hS2 hO5, Par_off hPa4 (offK_C hO5), hk7⟩ | exact Or.inl ⟨hb1, rest2, rfl, hS2, hPa4, hk7⟩) (by omega) (by first | exact fun hw0 => absurd hw0 (by omega) | (intro _; rw [hC2]; first | (exfalso; omega) | (rw [if_pos (by omega)]; omega) | (rw [if_neg (by omega)]; omega))) (by first | exact fun hw0 => absurd hw0 (by omega) | (intro _; rw [hG2]; first | (exfalso; omega) | rw [if_pos (by omega)] | rw [if_neg (by omega)])) (by first | exact fun hw0 => absurd hw0 (by omega) | (intro _; rw [hF2, ← Int.add_assoc]; first | (exfalso; omega) | rw [if_pos (by omega)] | rw [if_neg (by omega)])) (by first | exact pq_trans hq1 (pq_trans (pq_offK hO4) (pq_offC hO5)) | exact pq_trans hq1 (pq_offK hO4)) (by first | exact pp_trans hpp (pp_trans (pp_offP hPo4) (pp_offP hPo5)) | exact pp_trans hpp (pp_offP hPo4))) (zs1 rfl (zs1 rfl (zs1 rfl (zs1 rfl (zs1 rfl (zs1 rfl (zs1 rfl (zs1 rfl (zs1 rfl (zs1 rfl (zsn zs0)))))))))))
                              · refine z_iload dX9_next_146 rfl ?_
                                refine c_if_ge (tgt := 158) dX9_next_148 (by decide) (by omega) (fun h148 => ?_) (fun h148 => ?_)
                                · refine z_iload dX9_next_158 rfl ?_
                                  refine z_istore dX9_next_160 (by decide) rfl ?_
                                  refine c_iinc dX9_next_162 rfl (by decide) rfl ?_
                                  refine z_goto (tgt := 75) dX9_next_165 (by decide) ?_
                                  exact Z.fg2 (ih75 _ (by omega) _ _ _ _ _ ((kidF (J 44 s.toNat) (eE J s) (truF (J 44 s.toNat) (eE J s)) rest2).take (64 - (m + 1)).toNat) _ _ rfl (by omega) (by first | exact Or.inl ⟨hb1, rest2, rfl, RowSt_C hS2 hO5, Par_off hPa4 (offK_C hO5), hk7⟩ | exact Or.inl ⟨hb1, rest2, rfl, hS2, hPa4, hk7⟩) (by omega) (by first | exact fun hw0 => absurd hw0 (by omega) | (intro _; rw [hC2]; first | (exfalso; omega) | (rw [if_pos (by omega)]; omega) | (rw [if_neg (by omega)]; omega))) (by first | exact fun hw0 => absurd hw0 (by omega) | (intro _; rw [hG2]; first | (exfalso; omega) | rw [if_pos (by omega)] | rw [if_neg (by omega)])) (by first | exact fun hw0 => absurd hw0 (by omega) | (intro _; rw [hF2, ← Int.add_assoc]; first | (exfalso; omega) | rw [if_pos (by omega)] | rw [if_neg (by omega)])) (by first | exact pq_trans hq1 (pq_trans (pq_offK hO4) (pq_offC hO5)) | exact pq_trans hq1 (pq_offK hO4)) (by first | exact pp_trans hpp (pp_trans (pp_offP hPo4) (pp_offP hPo5)) | exact pp_trans hpp (pp_offP hPo4))) (zs1 rfl (zs1 rfl (zs1 rfl (zs1 rfl (zs1 rfl (zs1 rfl (zs1 rfl (zs1 rfl (zs1 rfl (zs1 rfl (zsn zs0)))))))))))
                                · refine z_iload_n dX9_next_151 rfl rfl ?_
                                  refine z_iload dX9_next_152 rfl ?_
                                  refine c_iadd dX9_next_154 ?_
                                  refine z_goto (tgt := 160) dX9_next_155 (by decide) ?_
                                  refine z_istore dX9_next_160 (by decide) rfl ?_
                                  refine c_iinc dX9_next_162 rfl (by decide) rfl ?_
                                  refine z_goto (tgt := 75) dX9_next_165 (by decide) ?_
                                  exact Z.fg2 (ih75 _ (by omega) _ _ _ _ _ ((kidF (J 44 s.toNat) (eE J s) (truF (J 44 s.toNat) (eE J s)) rest2).take (64 - (m + 1)).toNat) _ _ rfl (by omega) (by first | exact Or.inl ⟨hb1, rest2, rfl, RowSt_C hS2 hO5, Par_off hPa4 (offK_C hO5), hk7⟩ | exact Or.inl ⟨hb1, rest2, rfl, hS2, hPa4, hk7⟩) (by omega) (by first | exact fun hw0 => absurd hw0 (by omega) | (intro _; rw [hC2]; first | (exfalso; omega) | (rw [if_pos (by omega)]; omega) | (rw [if_neg (by omega)]; omega))) (by first | exact fun hw0 => absurd hw0 (by omega) | (intro _; rw [hG2]; first | (exfalso; omega) | rw [if_pos (by omega)] | rw [if_neg (by omega)])) (by first | exact fun hw0 => absurd hw0 (by omega) | (intro _; rw [hF2, ← Int.add_assoc]; first | (exfalso; omega) | rw [if_pos (by omega)] | rw [if_neg (by omega)])) (by first | exact pq_trans hq1 (pq_trans (pq_offK hO4) (pq_offC hO5)) | exact pq_trans hq1 (pq_offK hO4)) (by first | exact pp_trans hpp (pp_trans (pp_offP hPo4) (pp_offP hPo5)) | exact pp_trans hpp (pp_offP hPo4))) (zs1 rfl (zs1 rfl (zs1 rfl (zs1 rfl (zs1 rfl (zs1 rfl (zs1 rfl (zs1 rfl (zs1 rfl (zs1 rfl (zsn zs0)))))))))))
              exact Z.fg2 (L75 _ _ _ _ _ _ (nxL (J 44 s.toNat) (eE J s) k) _ _ rfl (by omega) (by first | exact nx_a (by omega) hst1 | exact nx_b hk g62 (Par_off hst1.2 hO3) | exact nx_c (by omega) g62) (by rw [Int.zero_add]) (fun _ => by rw [Int.zero_add]) (fun _ => rfl) (fun _ => by rw [Int.add_zero]) (by first | exact hq2 | exact pq_trans hq2 (pq_offK hO3)) (by first | exact hpq2 | exact pp_trans hpq2 (pp_offP hPo3))) (zs1 rfl (zs1 rfl (zs1 rfl (zs1 rfl (zs1 rfl (zs1 rfl (zs1 rfl (zs1 rfl (zs1 rfl (zs1 rfl (zsn zs0)))))))))))
        · refine z_iload dX9_next_38 rfl ?_
          refine c_ireturn dX9_next_40 rfl ?_
          subst hQ0; refine ⟨_, _, rfl, ?_, hq2, hpq2⟩; unfold aNext; rw [cif_pos (by omega), if_neg (by omega)]
      · have g18 := (hb18.resolve_left (fun z => by have := z.1; omega)).2
        clear hb18
        refine c_iconst dX9_next_24 ?_
        refine c_ireturn dX9_next_25 rfl ?_
        subst hQ0; refine ⟨_, _, rfl, ?_⟩; unfold aNext; rw [cif_neg (by omega)]; exact ⟨rfl, pq_refl _, pp_refl _⟩
end Ref22
