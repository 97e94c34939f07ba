section Ref6
variable {g : ZG} {l : Launch} {Kd : ZK} {Rd : ZR} {n s0 : Nat} {J P : Nat → Nat → Int}
set_option maxHeartbeats 4000000 in
set_option maxRecDepth 100000 in
theorem cMX9_single {s a : Int} (hs : rI s) (ha : rI a) : ZC g l MX9_single [.ref 42, .int (iZ s), .int (iZ a)] (KF Kd, zi J, zj P, RF Rd, n, s0) (fun rr hh => ∃ J' P', hh = (KF Kd, zi J', zj P', RF Rd, n, s0) ∧ rr = some (.int (iZ (aSingle J s a).1)) ∧ pq (aSingle J s a).2 J' ∧ pp P P') := by
  refine ZC.of (by decide) (Nat.le_of_ble_eq_true rfl) ?_
  generalize hQ0 : (fun rr hh => ∃ J' P', hh = (KF Kd, zi J', zj P', RF Rd, n, s0) ∧ rr = some (.int (iZ (aSingle J s a).1)) ∧ pq (aSingle J s a).2 J' ∧ pp P P' : Option Value → ZH → Prop) = Q0
  show Z g l MX9_single 0 [some (.ref 42), some (.int (iZ s)), some (.int (iZ a))] [] (KF Kd, zi J, zj P, RF Rd, n, s0) Q0
  refine z_iload_n dX9_single_0 rfl rfl ?_
  refine z_calls (N := MX9_isSlot) (nas := 1) (as := [_]) dX9_single_1 w_885 w_883 w_884 w_8 (by decide +kernel) rfl rfl (Nat.le_of_ble_eq_true rfl) (by decide) (by decide) (ZC.mono (b_isSlot (by omega)) ?_)
  rintro _ _ ⟨b1, rfl, rfl, hb1⟩
  refine c_if_eq (tgt := 19) dX9_single_4 (by decide) (by omega) (fun h4 => ?_) (fun h4 => ?_)
  · have g1 := (hb1.resolve_left (fun z => by have := z.1; omega)).2
    clear hb1
    refine c_iconst dX9_single_19 ?_
    refine c_ireturn dX9_single_20 rfl ?_
    subst hQ0; refine ⟨_, _, rfl, ?_⟩; unfold aSingle; rw [cif_neg (by omega)]; exact ⟨rfl, pq_refl _, pp_refl _⟩
  · have g1 := (hb1.resolve_right (fun z => by have := z.1; omega)).2
    clear hb1
    refine z_iload_n dX9_single_7 rfl rfl ?_
    refine c_i2l dX9_single_8 (by omega) ?_
    refine c_lconst1 dX9_single_9 ?_
    refine c_ldc2 (z := 99) dX9_single_10 w_886 (by decide) ?_
    refine z_calls (N := MX9_in) (nas := 3) (as := [_, _, _]) dX9_single_13 w_889 w_887 w_888 w_8 (by decide +kernel) rfl rfl (Nat.le_of_ble_eq_true rfl) (by decide) (by decide) (ZC.mono (b_in (by omega) (by omega) (by omega)) ?_)
    rintro _ _ ⟨b13, rfl, rfl, hb13⟩
    refine c_if_ne (tgt := 21) dX9_single_16 (by decide) (by omega) (fun h16 => ?_) (fun h16 => ?_)
    · have g13 := (hb13.resolve_right (fun z => by have := z.1; omega)).2
      clear hb13
      refine z_aload_n dX9_single_21 rfl rfl ?_
      refine z_iload_n dX9_single_22 rfl rfl ?_
      refine z_callv (N := MX9_clearAt) (ci := 9) (nas := 1) (as := [_]) dX9_single_23 w_893 w_890 w_892 ws_20 w_8 (by decide +kernel) rfl rfl rfl (by decide) (Nat.le_of_ble_eq_true rfl) (by decide) (by decide) (ZC.mono (j_clearAt (by omega)) ?_)
      rintro _ _ ⟨rfl, rfl⟩
      refine z_aload_n dX9_single_26 rfl rfl ?_
      refine z_getR (ci := 9) (kf := 1) dX9_single_27 rfl (by decide) (by decide) rfl w_777 rfl ?_
      refine z_iload_n dX9_single_30 rfl rfl ?_
      refine c_iconst dX9_single_31 ?_
      refine c_iast dX9_single_32 rfl (by omega) (by decide) ?_
      rw [show (s.toNat) = s.toNat from rfl, jput_setl]
      refine z_aload_n dX9_single_33 rfl rfl ?_
      refine z_iload_n dX9_single_34 rfl rfl ?_
      refine c_iconst dX9_single_35 ?_
      refine c_iconst dX9_single_36 ?_
      refine z_iload_n dX9_single_37 rfl rfl ?_
      refine z_callv (N := MX9_layEntry) (ci := 9) (nas := 4) (as := [_, _, _, _]) dX9_single_38 w_897 w_894 w_896 ws_21 w_8 (by decide +kernel) rfl rfl rfl (by decide) (Nat.le_of_ble_eq_true rfl) (by decide) (by decide) (ZC.mono (j_layEntry (by omega) (by omega) (by omega)) ?_)
      rintro _ _ ⟨rfl, rfl⟩
      refine z_iload_n dX9_single_41 rfl rfl ?_
      refine c_ireturn dX9_single_42 rfl ?_
      subst hQ0; refine ⟨_, _, rfl, ?_⟩; unfold aSingle; rw [cif_pos (by omega)]; refine ⟨rfl, ?_, pp_refl _⟩
      rw [show jput J s.toNat 1 (setE (fun _ => 0) (0 : Int).toNat (0 : Int).toNat a) = jput J s.toNat 1 (fun k => if k = 0 then a else 0) from jput_ext (fun k _ => by unfold setE; simp; intro h1; simp [h1])]; exact pq_refl _
    · have g13 := (hb13.resolve_left (fun z => by have := z.1; omega)).2
      clear hb13
      refine c_iconst dX9_single_19 ?_
      refine c_ireturn dX9_single_20 rfl ?_
      subst hQ0; refine ⟨_, _, rfl, ?_⟩; unfold aSingle; rw [cif_neg (by omega)]; exact ⟨rfl, pq_refl _, pp_refl _⟩
set_option maxHeartbeats 4000000 in
set_option maxRecDepth 100000 in
theorem cMX9_clear {s : Int} (hs : rI s) (hL : okJ J) : ZC g l MX9_clear [.ref 42, .int (iZ s)] (KF Kd, zi J, zj P, RF Rd, n, s0) (fun rr hh => ∃ J' P', hh = (KF Kd, zi J', zj P', RF Rd, n, s0) ∧ rr = some (.int (iZ (aClear J s).1)) ∧ pq (aClear J s).2 J' ∧ pp P P') := by
  refine ZC.of (by decide) (Nat.le_of_ble_eq_true rfl) ?_
  generalize hQ0 : (fun rr hh => ∃ J' P', hh = (KF Kd, zi J', zj P', RF Rd, n, s0) ∧ rr = some (.int (iZ (aClear J s).1)) ∧ pq (aClear J s).2 J' ∧ pp P P' : Option Value → ZH → Prop) = Q0
  show Z g l MX9_clear 0 [some (.ref 42), some (.int (iZ s)), none] [] (KF Kd, zi J, zj P, RF Rd, n, s0) Q0
  refine z_iload_n dX9_clear_0 rfl rfl ?_
  refine z_calls (N := MX9_isSlot) (nas := 1) (as := [_]) dX9_clear_1 w_885 w_883 w_884 w_8 (by decide +kernel) rfl rfl (Nat.le_of_ble_eq_true rfl) (by decide) (by decide) (ZC.mono (b_isSlot (by omega)) ?_)
  rintro _ _ ⟨b1, rfl, rfl, hb1⟩
  refine c_if_ne (tgt := 9) dX9_clear_4 (by decide) (by omega) (fun h4 => ?_) (fun h4 => ?_)
  · have g1 := (hb1.resolve_right (fun z => by have := z.1; omega)).2
    clear hb1
    refine z_aload_n dX9_clear_9 rfl rfl ?_
    refine z_getR (ci := 9) (kf := 1) dX9_clear_10 rfl (by decide) (by decide) rfl w_777 rfl ?_
    refine z_iload_n dX9_clear_13 rfl rfl ?_
    refine c_iald dX9_clear_14 rfl (by omega) (by decide) ?_
    refine z_istore_n dX9_clear_15 rfl (by decide) rfl ?_
    refine z_aload_n dX9_clear_16 rfl rfl ?_
    refine z_iload_n dX9_clear_17 rfl rfl ?_
    refine z_callv (N := MX9_clearAt) (ci := 9) (nas := 1) (as := [_]) dX9_clear_18 w_893 w_890 w_892 ws_20 w_8 (by decide +kernel) rfl rfl rfl (by decide) (Nat.le_of_ble_eq_true rfl) (by decide) (by decide) (ZC.mono (j_clearAt (by omega)) ?_)
    rintro _ _ ⟨rfl, rfl⟩
    refine z_iload_n dX9_clear_21 rfl rfl ?_
    refine c_ireturn dX9_clear_22 rfl ?_
    subst hQ0; refine ⟨_, _, rfl, ?_⟩; unfold aClear; rw [cif_pos (by omega)]; exact ⟨rfl, pq_refl _, pp_refl _⟩
  · have g1 := (hb1.resolve_left (fun z => by have := z.1; omega)).2
    clear hb1
    refine c_iconst dX9_clear_7 ?_
    refine c_ireturn dX9_clear_8 rfl ?_
    subst hQ0; refine ⟨_, _, rfl, ?_⟩; unfold aClear; rw [cif_neg (by omega)]; exact ⟨rfl, pq_refl _, pp_refl _⟩
set_option maxHeartbeats 4000000 in
set_option maxRecDepth 100000 in
theorem cMX9_at {s i j : Int} (hs : rI s) (hi : rI i) (hj : rI j) (hL : okJ J) : ZC g l MX9_at [.ref 42, .int (iZ s), .int (iZ i), .int (iZ j)] (KF Kd, zi J, zj P, RF Rd, n, s0) (fun rr hh => ∃ J' P', hh = (KF Kd, zi J', zj P', RF Rd, n, s0) ∧ rr = some (.int (iZ (aAt J s i j))) ∧ pq J J' ∧ pp P P') := by
  refine ZC.of (by decide) (Nat.le_of_ble_eq_true rfl) ?_
  generalize hQ0 : (fun rr hh => ∃ J' P', hh = (KF Kd, zi J', zj P', RF Rd, n, s0) ∧ rr = some (.int (iZ (aAt J s i j))) ∧ pq J J' ∧ pp P P' : Option Value → ZH → Prop) = Q0
  show Z g l MX9_at 0 [some (.ref 42), some (.int (iZ s)), some (.int (iZ i)), some (.int (iZ j))] [] (KF Kd, zi J, zj P, RF Rd, n, s0) Q0
  refine z_aload_n dX9_at_0 rfl rfl ?_
  refine z_iload_n dX9_at_1 rfl rfl ?_
  refine z_callv (N := MX9_hasForm) (ci := 9) (nas := 1) (as := [_]) dX9_at_2 w_948 w_945 w_947 ws_28 w_8 (by decide +kernel) rfl rfl rfl (by decide) (Nat.le_of_ble_eq_true rfl) (by decide) (by decide) (ZC.mono (b_hasForm (by omega) hL) ?_)
  rintro _ _ ⟨b2, rfl, rfl, hb2⟩
  refine c_if_eq (tgt := 36) dX9_at_5 (by decide) (by omega) (fun h5 => ?_) (fun h5 => ?_)
  · have g2 := (hb2.resolve_left (fun z => by have := z.1; omega)).2
    clear hb2
    refine c_ldc (z := -2147483648) dX9_at_36 w_965 (by decide) ?_
    refine c_ireturn dX9_at_38 rfl ?_
    subst hQ0; refine ⟨_, _, rfl, ?_⟩; unfold aAt; first | (rw [cif_neg (by omega)]; exact ⟨rfl, pq_refl _, pp_refl _⟩) | (rw [cif_pos (by omega)]; exact ⟨rfl, pq_refl _, pp_refl _⟩)
  · have g2 := (hb2.resolve_right (fun z => by have := z.1; omega)).2
    clear hb2
    refine z_aload_n dX9_at_8 rfl rfl ?_
    refine z_iload_n dX9_at_9 rfl rfl ?_
    refine z_iload_n dX9_at_10 rfl rfl ?_
    refine z_callv (N := MX9_isLetter) (ci := 9) (nas := 2) (as := [_, _]) dX9_at_11 w_960 w_957 w_959 ws_29 w_8 (by decide +kernel) rfl rfl rfl (by decide) (Nat.le_of_ble_eq_true rfl) (by decide) (by decide) (ZC.mono (b_isLetter (by omega) (by omega) hL) ?_)
    rintro _ _ ⟨b11, rfl, rfl, hb11⟩
    refine c_if_eq (tgt := 36) dX9_at_14 (by decide) (by omega) (fun h14 => ?_) (fun h14 => ?_)
    · have g11 := (hb11.resolve_left (fun z => by have := z.1; omega)).2
      clear hb11
      refine c_ldc (z := -2147483648) dX9_at_36 w_965 (by decide) ?_
      refine c_ireturn dX9_at_38 rfl ?_
      subst hQ0; refine ⟨_, _, rfl, ?_⟩; unfold aAt; first | (rw [cif_neg (by omega)]; exact ⟨rfl, pq_refl _, pp_refl _⟩) | (rw [cif_pos (by omega)]; exact ⟨rfl, pq_refl _, pp_refl _⟩)
    · have g11 := (hb11.resolve_right (fun z => by have := z.1; omega)).2
      clear hb11
      refine z_aload_n dX9_at_17 rfl rfl ?_
      refine z_iload_n dX9_at_18 rfl rfl ?_
      refine z_iload_n dX9_at_19 rfl rfl ?_
      refine z_callv (N := MX9_isLetter) (ci := 9) (nas := 2) (as := [_, _]) dX9_at_20 w_960 w_957 w_959 ws_29 w_8 (by decide +kernel) rfl rfl rfl (by decide) (Nat.le_of_ble_eq_true rfl) (by decide) (by decide) (ZC.mono (b_isLetter (by omega) (by omega) hL) ?_)
      rintro _ _ ⟨b20, rfl, rfl, hb20⟩
      refine c_if_eq (tgt := 36) dX9_at_23 (by decide) (by omega) (fun h23 => ?_) (fun h23 => ?_)
      · have g20 := (hb20.resolve_left (fun z => by have := z.1; omega)).2
        clear hb20
        refine c_ldc (z := -2147483648) dX9_at_36 w_965 (by decide) ?_
        refine c_ireturn dX9_at_38 rfl ?_
        subst hQ0; refine ⟨_, _, rfl, ?_⟩; unfold aAt; first | (rw [cif_neg (by omega)]; exact ⟨rfl, pq_refl _, pp_refl _⟩) | (rw [cif_pos (by omega)]; exact ⟨rfl, pq_refl _, pp_refl _⟩)
      · have g20 := (hb20.resolve_right (fun z => by have := z.1; omega)).2
        clear hb20
        have hl4 := okJ_let hL (q := s.toNat) (by omega)
        refine z_aload_n dX9_at_26 rfl rfl ?_
        refine z_iload_n dX9_at_27 rfl rfl ?_
        refine z_iload_n dX9_at_28 rfl rfl ?_
        refine z_iload_n dX9_at_29 rfl rfl ?_
        refine z_callv (N := MX9_entryAt) (ci := 9) (nas := 3) (as := [_, _, _]) dX9_at_30 w_925 w_922 w_924 ws_25 w_8 (by decide +kernel) rfl rfl rfl (by decide) (Nat.le_of_ble_eq_true rfl) (by decide) (by decide) (ZC.mono (cMX9_entryAt (by omega)) ?_)
        rintro _ _ ⟨rfl, rfl⟩
        rw [eE_at (J := J) (by omega) (by omega) (by omega)]
        refine z_goto (tgt := 38) dX9_at_33 (by decide) ?_
        refine c_ireturn dX9_at_38 rfl ?_
        subst hQ0; refine ⟨_, _, rfl, ?_⟩; unfold aAt; first | (rw [cif_neg (by omega)]; exact ⟨rfl, pq_refl _, pp_refl _⟩) | (rw [cif_pos (by omega)]; exact ⟨rfl, pq_refl _, pp_refl _⟩)
set_option maxHeartbeats 4000000 in
set_option maxRecDepth 100000 in
theorem cMX9_minor {s k : Int} (hs : rI s) (hk : rI k) (hL : okJ J) : ZC g l MX9_minor [.ref 42, .int (iZ s), .int (iZ k)] (KF Kd, zi J, zj P, RF Rd, n, s0) (fun rr hh => ∃ J' P', hh = (KF Kd, zi J', zj P', RF Rd, n, s0) ∧ rr = some (.int (iZ (aMinor J s k))) ∧ pq J J' ∧ pp P P') := by
  refine ZC.of (by decide) (Nat.le_of_ble_eq_true rfl) ?_
  generalize hQ0 : (fun rr hh => ∃ J' P', hh = (KF Kd, zi J', zj P', RF Rd, n, s0) ∧ rr = some (.int (iZ (aMinor J s k))) ∧ pq J J' ∧ pp P P' : Option Value → ZH → Prop) = Q0
  show Z g l MX9_minor 0 [some (.ref 42), some (.int (iZ s)), some (.int (iZ k))] [] (KF Kd, zi J, zj P, RF Rd, n, s0) Q0
  refine z_aload_n dX9_minor_0 rfl rfl ?_
  refine z_iload_n dX9_minor_1 rfl rfl ?_
  refine z_callv (N := MX9_hasForm) (ci := 9) (nas := 1) (as := [_]) dX9_minor_2 w_948 w_945 w_947 ws_28 w_8 (by decide +kernel) rfl rfl rfl (by decide) (Nat.le_of_ble_eq_true rfl) (by decide) (by decide) (ZC.mono (b_hasForm (by omega) hL) ?_)
  rintro _ _ ⟨b2, rfl, rfl, hb2⟩
  refine c_if_eq (tgt := 35) dX9_minor_5 (by decide) (by omega) (fun h5 => ?_) (fun h5 => ?_)
  · have g2 := (hb2.resolve_left (fun z => by have := z.1; omega)).2
    clear hb2
    refine c_iconst dX9_minor_35 ?_
    refine c_ireturn dX9_minor_36 rfl ?_
    subst hQ0; refine ⟨_, _, rfl, ?_⟩; unfold aMinor; first | (rw [cif_neg (by omega)]; exact ⟨rfl, pq_refl _, pp_refl _⟩) | (rw [cif_pos (by omega)]; exact ⟨rfl, pq_refl _, pp_off1 ho28⟩)
  · have g2 := (hb2.resolve_right (fun z => by have := z.1; omega)).2
    clear hb2
    have hl4 := okJ_let hL (q := s.toNat) (by omega)
    refine z_iload_n dX9_minor_8 rfl rfl ?_
    refine c_i2l dX9_minor_9 (by omega) ?_
    refine c_lconst0 dX9_minor_10 ?_
    refine z_aload_n dX9_minor_11 rfl rfl ?_
    refine z_getR (ci := 9) (kf := 1) dX9_minor_12 rfl (by decide) (by decide) rfl w_777 rfl ?_
    refine z_iload_n dX9_minor_15 rfl rfl ?_
    refine c_iald dX9_minor_16 rfl (by omega) (by decide) ?_
    refine c_i2l dX9_minor_17 (by omega) ?_
    refine z_calls (N := MX9_in) (nas := 3) (as := [_, _, _]) dX9_minor_18 w_889 w_887 w_888 w_8 (by decide +kernel) rfl rfl (Nat.le_of_ble_eq_true rfl) (by decide) (by decide) (ZC.mono (b_in (by omega) (by omega) (by omega)) ?_)
    rintro _ _ ⟨b18, rfl, rfl, hb18⟩
    refine c_if_eq (tgt := 35) dX9_minor_21 (by decide) (by omega) (fun h21 => ?_) (fun h21 => ?_)
    · have g18 := (hb18.resolve_left (fun z => by have := z.1; omega)).2
      clear hb18
      refine c_iconst dX9_minor_35 ?_
      refine c_ireturn dX9_minor_36 rfl ?_
      subst hQ0; refine ⟨_, _, rfl, ?_⟩; unfold aMinor; first | (rw [cif_neg (by omega)]; exact ⟨rfl, pq_refl _, pp_refl _⟩) | (rw [cif_pos (by omega)]; exact ⟨rfl, pq_refl _, pp_off1 ho28⟩)
    · have g18 := (hb18.resolve_right (fun z => by have := z.1; omega)).2
      clear hb18
      refine z_aload_n dX9_minor_24 rfl rfl ?_
      refine z_iload_n dX9_minor_25 rfl rfl ?_
      refine z_iload_n dX9_minor_26 rfl rfl ?_
      refine c_iconst dX9_minor_27 ?_
      have hE28 := (okJ_form hL (s := s) (by omega) (by omega)).2.1.1
      refine z_callv (N := MX9_detOf) (ci := 9) (nas := 3) (as := [_, _, _]) dX9_minor_28 w_921 w_918 w_920 ws_24 w_8 (by decide +kernel) rfl rfl rfl (by decide) (Nat.le_of_ble_eq_true rfl) (by decide) (by decide) (ZC.mono (cMX9_detOf (by omega) (by omega) (by omega) hE28) ?_)
      rintro _ _ ⟨P28, rfl, rfl, ho28⟩
      refine c_l2i dX9_minor_31 ?_
      refine z_goto (tgt := 36) dX9_minor_32 (by decide) ?_
      refine c_ireturn dX9_minor_36 rfl ?_
      subst hQ0; refine ⟨_, _, rfl, ?_⟩; unfold aMinor; first | (rw [cif_neg (by omega)]; exact ⟨rfl, pq_refl _, pp_refl _⟩) | (rw [cif_pos (by omega)]; exact ⟨rfl, pq_refl _, pp_off1 ho28⟩)
set_option maxHeartbeats 4000000 in
set_option maxRecDepth 100000 in
theorem cMX9_entry {s i j a : Int} (hs : rI s) (hi : rI i) (hj : rI j) (ha : rI a) (hL : okJ J) : ZC g l MX9_entry [.ref 42, .int (iZ s), .int (iZ i), .int (iZ j), .int (iZ a)] (KF Kd, zi J, zj P, RF Rd, n, s0) (fun rr hh => ∃ J' P', hh = (KF Kd, zi J', zj P', RF Rd, n, s0) ∧ rr = some (.int (iZ (aEntry J s i j a).1)) ∧ pq (aEntry J s i j a).2 J' ∧ pp P P') := by
  refine ZC.of (by decide) (Nat.le_of_ble_eq_true rfl) ?_
  generalize hQ0 : (fun rr hh => ∃ J' P', hh = (KF Kd, zi J', zj P', RF Rd, n, s0) ∧ rr = some (.int (iZ (aEntry J s i j a).1)) ∧ pq (aEntry J s i j a).2 J' ∧ pp P P' : Option Value → ZH → Prop) = Q0
  show Z g l MX9_entry 0 [some (.ref 42), some (.int (iZ s)), some (.int (iZ i)), some (.int (iZ j)), some (.int (iZ a))] [] (KF Kd, zi J, zj P, RF Rd, n, s0) Q0
  refine z_aload_n dX9_entry_0 rfl rfl ?_
  refine z_iload_n dX9_entry_1 rfl rfl ?_
  refine z_callv (N := MX9_hasForm) (ci := 9) (nas := 1) (as := [_]) dX9_entry_2 w_948 w_945 w_947 ws_28 w_8 (by decide +kernel) rfl rfl rfl (by decide) (Nat.le_of_ble_eq_true rfl) (by decide) (by decide) (ZC.mono (b_hasForm (by omega) hL) ?_)
  rintro _ _ ⟨b2, rfl, rfl, hb2⟩
  refine c_if_eq (tgt := 41) dX9_entry_5 (by decide) (by omega) (fun h5 => ?_) (fun h5 => ?_)
  · have g2 := (hb2.resolve_left (fun z => by have := z.1; omega)).2
    clear hb2
    refine c_iconst dX9_entry_41 ?_
    refine c_ireturn dX9_entry_42 rfl ?_
    subst hQ0; refine ⟨_, _, rfl, ?_⟩; unfold aEntry; rw [cif_neg (by omega)]; exact ⟨rfl, pq_refl _, pp_refl _⟩
  · have g2 := (hb2.resolve_right (fun z => by have := z.1; omega)).2
    clear hb2
    refine z_aload_n dX9_entry_8 rfl rfl ?_
    refine z_iload_n dX9_entry_9 rfl rfl ?_
    refine z_iload_n dX9_entry_10 rfl rfl ?_
    refine z_callv (N := MX9_isLetter) (ci := 9) (nas := 2) (as := [_, _]) dX9_entry_11 w_960 w_957 w_959 ws_29 w_8 (by decide +kernel) rfl rfl rfl (by decide) (Nat.le_of_ble_eq_true rfl) (by decide) (by decide) (ZC.mono (b_isLetter (by omega) (by omega) hL) ?_)
    rintro _ _ ⟨b11, rfl, rfl, hb11⟩
    refine c_if_eq (tgt := 41) dX9_entry_14 (by decide) (by omega) (fun h14 => ?_) (fun h14 => ?_)
    · have g11 := (hb11.resolve_left (fun z => by have := z.1; omega)).2
      clear hb11
      refine c_iconst dX9_entry_41 ?_
      refine c_ireturn dX9_entry_42 rfl ?_
      subst hQ0; refine ⟨_, _, rfl, ?_⟩; unfold aEntry; rw [cif_neg (by omega)]; exact ⟨rfl, pq_refl _, pp_refl _⟩
    · have g11 := (hb11.resolve_right (fun z => by have := z.1; omega)).2
      clear hb11
      refine z_aload_n dX9_entry_17 rfl rfl ?_
      refine z_iload_n dX9_entry_18 rfl rfl ?_
      refine z_iload_n dX9_entry_19 rfl rfl ?_
      refine z_callv (N := MX9_isLetter) (ci := 9) (nas := 2) (as := [_, _]) dX9_entry_20 w_960 w_957 w_959 ws_29 w_8 (by decide +kernel) rfl rfl rfl (by decide) (Nat.le_of_ble_eq_true rfl) (by decide) (by decide) (ZC.mono (b_isLetter (by omega) (by omega) hL) ?_)
      rintro _ _ ⟨b20, rfl, rfl, hb20⟩
      refine c_if_eq (tgt := 41) dX9_entry_23 (by decide) (by omega) (fun h23 => ?_) (fun h23 => ?_)
      · have g20 := (hb20.resolve_left (fun z => by have := z.1; omega)).2
        clear hb20
        refine c_iconst dX9_entry_41 ?_
        refine c_ireturn dX9_entry_42 rfl ?_
        subst hQ0; refine ⟨_, _, rfl, ?_⟩; unfold aEntry; rw [cif_neg (by omega)]; exact ⟨rfl, pq_refl _, pp_refl _⟩
      · have g20 := (hb20.resolve_right (fun z => by have := z.1; omega)).2
        clear hb20
        refine z_iload dX9_entry_26 rfl ?_
        refine c_i2l dX9_entry_28 (by omega) ?_
        refine c_ldc2 (z := -99) dX9_entry_29 w_906 (by decide) ?_
        refine c_ldc2 (z := 99) dX9_entry_32 w_886 (by decide) ?_
        refine z_calls (N := MX9_in) (nas := 3) (as := [_, _, _]) dX9_entry_35 w_889 w_887 w_888 w_8 (by decide +kernel) rfl rfl (Nat.le_of_ble_eq_true rfl) (by decide) (by decide) (ZC.mono (b_in (by omega) (by omega) (by omega)) ?_)
        rintro _ _ ⟨b35, rfl, rfl, hb35⟩
        refine c_if_ne (tgt := 43) dX9_entry_38 (by decide) (by omega) (fun h38 => ?_) (fun h38 => ?_)
        · have g35 := (hb35.resolve_right (fun z => by have := z.1; omega)).2
          clear hb35
          have hl4 := okJ_let hL (q := s.toNat) (by omega)
          have hfo := okJ_form hL (s := s) (by omega) (by omega)
          refine z_aload_n dX9_entry_43 rfl rfl ?_
          refine z_iload_n dX9_entry_44 rfl rfl ?_
          refine c_bipush dX9_entry_45 (by decide) ?_
          refine z_callv (N := MX9_copyTo) (ci := 9) (nas := 2) (as := [_, _]) dX9_entry_47 w_940 w_937 w_939 ws_27 w_8 (by decide +kernel) rfl rfl rfl (by decide) (Nat.le_of_ble_eq_true rfl) (by decide) (by decide) (ZC.mono (j_copyTo (by omega) (by omega)) ?_)
          rintro _ _ ⟨rfl, rfl⟩
          refine z_aload_n dX9_entry_50 rfl rfl ?_
          refine c_bipush dX9_entry_51 (by decide) ?_
          refine z_iload_n dX9_entry_53 rfl rfl ?_
          refine z_iload_n dX9_entry_54 rfl rfl ?_
          refine z_iload dX9_entry_55 rfl ?_
          refine z_callv (N := MX9_layEntry) (ci := 9) (nas := 4) (as := [_, _, _, _]) dX9_entry_57 w_897 w_894 w_896 ws_21 w_8 (by decide +kernel) rfl rfl rfl (by decide) (Nat.le_of_ble_eq_true rfl) (by decide) (by decide) (ZC.mono (j_layEntry (by omega) (by omega) (by omega)) ?_)
          rintro _ _ ⟨rfl, rfl⟩
          refine z_aload_n dX9_entry_60 rfl rfl ?_
          refine z_iload_n dX9_entry_61 rfl rfl ?_
          have hR62 := entS_rng (setE_rng (i := i.toNat) (j := j.toNat) (a := a) hfo.2.1.1 (by omega))
          refine z_callv (N := MX9_comes) (ci := 9) (nas := 1) (as := [_]) dX9_entry_62 w_910 w_907 w_909 ws_22 w_8 (by decide +kernel) rfl rfl rfl (by decide) (Nat.le_of_ble_eq_true rfl) (by decide) (by decide) (ZC.mono (cMX9_comes (by omega) (by omega) hR62) ?_)
          rintro _ _ ⟨J62, P62, r62, rfl, rfl, hr62, hpp62⟩
          refine c_ireturn dX9_entry_65 rfl ?_
          subst hQ0; have h9 := aComes_of hr62 (fun _ => rfl)
          refine ⟨_, _, rfl, ?_⟩; unfold aEntry; rw [cif_pos (by omega), h9.1]; exact ⟨rfl, h9.2, hpp62⟩
        · have g35 := (hb35.resolve_left (fun z => by have := z.1; omega)).2
          clear hb35
          refine c_iconst dX9_entry_41 ?_
          refine c_ireturn dX9_entry_42 rfl ?_
          subst hQ0; refine ⟨_, _, rfl, ?_⟩; unfold aEntry; rw [cif_neg (by omega)]; exact ⟨rfl, pq_refl _, pp_refl _⟩
set_option maxHeartbeats 4000000 in
set_option maxRecDepth 100000 in
theorem cMX9_scale {s c : Int} (hs : rI s) (hc : rI c) (hL : okJ J) : ZC g l MX9_scale [.ref 42, .int (iZ s), .int (iZ c)] (KF Kd, zi J, zj P, RF Rd, n, s0) (fun rr hh => ∃ J' P', hh = (KF Kd, zi J', zj P', RF Rd, n, s0) ∧ rr = some (.int (iZ (aScale J s c).1)) ∧ pq (aScale J s c).2 J' ∧ pp P P') := by
  refine ZC.of (by decide) (Nat.le_of_ble_eq_true rfl) ?_
  generalize hQ0 : (fun rr hh => ∃ J' P', hh = (KF Kd, zi J', zj P', RF Rd, n, s0) ∧ rr = some (.int (iZ (aScale J s c).1)) ∧ pq (aScale J s c).2 J' ∧ pp P P' : Option Value → ZH → Prop) = Q0
  show Z g l MX9_scale 0 [some (.ref 42), some (.int (iZ s)), some (.int (iZ c)), none] [] (KF Kd, zi J, zj P, RF Rd, n, s0) Q0
  refine z_aload_n dX9_scale_0 rfl rfl ?_
  refine z_iload_n dX9_scale_1 rfl rfl ?_
  refine z_callv (N := MX9_hasForm) (ci := 9) (nas := 1) (as := [_]) dX9_scale_2 w_948 w_945 w_947 ws_28 w_8 (by decide +kernel) rfl rfl rfl (by decide) (Nat.le_of_ble_eq_true rfl) (by decide) (by decide) (ZC.mono (b_hasForm (by omega) hL) ?_)
  rintro _ _ ⟨b2, rfl, rfl, hb2⟩
  refine c_if_eq (tgt := 20) dX9_scale_5 (by decide) (by omega) (fun h5 => ?_) (fun h5 => ?_)
  · have g2 := (hb2.resolve_left (fun z => by have := z.1; omega)).2
    clear hb2
    refine c_iconst dX9_scale_20 ?_
    refine c_ireturn dX9_scale_21 rfl ?_
    subst hQ0; refine ⟨_, _, rfl, ?_⟩; unfold aScale; rw [cif_neg (by omega)]; exact ⟨rfl, pq_refl _, pp_refl _⟩
  · have g2 := (hb2.resolve_right (fun z => by have := z.1; omega)).2
    clear hb2
    refine z_iload_n dX9_scale_8 rfl rfl ?_
    refine c_i2l dX9_scale_9 (by omega) ?_
    refine c_lconst1 dX9_scale_10 ?_
    refine c_ldc2 (z := 99) dX9_scale_11 w_886 (by decide) ?_
    refine z_calls (N := MX9_in) (nas := 3) (as := [_, _, _]) dX9_scale_14 w_889 w_887 w_888 w_8 (by decide +kernel) rfl rfl (Nat.le_of_ble_eq_true rfl) (by decide) (by decide) (ZC.mono (b_in (by omega) (by omega) (by omega)) ?_)
    rintro _ _ ⟨b14, rfl, rfl, hb14⟩
    refine c_if_ne (tgt := 22) dX9_scale_17 (by decide) (by omega) (fun h17 => ?_) (fun h17 => ?_)
    · have g14 := (hb14.resolve_right (fun z => by have := z.1; omega)).2
      clear hb14
      have hl4 := okJ_let hL (q := s.toNat) (by omega)
      have hfo := okJ_form hL (s := s) (by omega) (by omega)
      refine z_aload_n dX9_scale_22 rfl rfl ?_
      refine z_iload_n dX9_scale_23 rfl rfl ?_
      refine c_bipush dX9_scale_24 (by decide) ?_
      refine z_callv (N := MX9_copyTo) (ci := 9) (nas := 2) (as := [_, _]) dX9_scale_26 w_940 w_937 w_939 ws_27 w_8 (by decide +kernel) rfl rfl rfl (by decide) (Nat.le_of_ble_eq_true rfl) (by decide) (by decide) (ZC.mono (j_copyTo (by omega) (by omega)) ?_)
      rintro _ _ ⟨rfl, rfl⟩
      refine c_iconst dX9_scale_29 ?_
      refine z_istore_n dX9_scale_30 rfl (by decide) rfl ?_
      have L31 : ∀ (m31 : Nat), ∀ (k : Int) (J1 : Nat → Nat → Int), (16 - k).toNat = m31 → (0 ≤ k ∧ k ≤ 16) → (J1 = jput J (72 : Int).toNat (J 44 s.toNat) (fun q : Nat => if (q : Int) < k then eE J s q * c else eE J s q)) → Z g l MX9_scale 31 [some (.ref 42), some (.int (iZ s)), some (.int (iZ c)), some (.int (iZ k))] [] (KF Kd, zi J1, zj P, RF Rd, n, s0) Q0 := by
        intro m31
        induction m31 using Nat.strongRecOn with
        | ind m31 ih31 =>
          intro k J1 hm31 hk hJ
          subst hJ
          refine z_iload_n dX9_scale_31 rfl rfl ?_
          refine c_bipush dX9_scale_32 (by decide) ?_
          refine c_icmp_ge (tgt := 57) dX9_scale_34 (by decide) (by omega) (by omega) (fun h34 => ?_) (fun h34 => ?_)
          · rw [jput_ext (F := fun q => eE J s q * c) (fun q hq => if_pos (by omega))]
            refine z_aload_n dX9_scale_57 rfl rfl ?_
            refine z_iload_n dX9_scale_58 rfl rfl ?_
            have hR59 : ∀ q : Nat, q < 16 → -2147483647 ≤ eE J s q * c ∧ eE J s q * c ≤ 2147483647 := fun q hq => by
              have h1 := hfo.2.1.1 q hq
              have h2 := mul_bd (a := eE J s q) (b := c) (A := 99) (B := 99) h1.1 h1.2 (by omega) (by omega)
              omega
            refine z_callv (N := MX9_comes) (ci := 9) (nas := 1) (as := [_]) dX9_scale_59 w_910 w_907 w_909 ws_22 w_8 (by decide +kernel) rfl rfl rfl (by decide) (Nat.le_of_ble_eq_true rfl) (by decide) (by decide) (ZC.mono (cMX9_comes (by omega) (by omega) hR59) ?_)
            rintro _ _ ⟨J59, P59, r59, rfl, rfl, hr59, hpp59⟩
            refine c_ireturn dX9_scale_62 rfl ?_
            subst hQ0; have h9 := aComes_of hr59 (fun _ => rfl)
            refine ⟨_, _, rfl, ?_⟩; unfold aScale; rw [cif_pos (by omega), h9.1]; exact ⟨rfl, h9.2, hpp59⟩
          · refine z_aload_n dX9_scale_37 rfl rfl ?_
            refine z_getR (ci := 9) (kf := 0) dX9_scale_38 rfl (by decide) (by decide) rfl w_776 rfl ?_
            refine c_sipush dX9_scale_41 (by decide) ?_
            refine z_iload_n dX9_scale_44 rfl rfl ?_
            refine c_iadd dX9_scale_45 ?_
            refine z_dup2 dX9_scale_46 rfl rfl ?_
            refine c_iald dX9_scale_47 rfl (by omega) (by decide) ?_
            rw [show (1152 + k).toNat = 16 * (72 : Int).toNat + k.toNat by have : (72 : Int).toNat = 72 := rfl; omega, jput_in (by omega), if_neg (by omega)]
            refine z_iload_n dX9_scale_48 rfl rfl ?_
            refine c_imul dX9_scale_49 ?_
            refine c_iast dX9_scale_50 rfl (by omega) (by decide) ?_
            rw [show (1152 + k).toNat = 16 * (72 : Int).toNat + k.toNat by have : (72 : Int).toNat = 72 := rfl; omega, jput_set (by omega)]
            refine c_iinc dX9_scale_51 rfl (by decide) rfl ?_
            refine z_goto (tgt := 31) dX9_scale_54 (by decide) ?_
            exact Z.fg2 (ih31 _ (by omega) _ _ rfl (by omega) (jput_ext (fun q _ => by by_cases h1 : q = k.toNat; (rw [if_pos h1, if_pos (by omega), h1]); (rw [if_neg h1]; by_cases h2 : (q : Int) < k; (rw [if_pos h2, if_pos (by omega)]); (rw [if_neg h2, if_neg (by omega)])))) ) (zs1 rfl (zs1 rfl (zs1 rfl (zs1 rfl zs0))))
      exact Z.fg2 (L31 _ _ _ rfl (by omega) (jput_ext (fun q _ => by rw [if_neg (by omega)]))) (zs1 rfl (zs1 rfl (zs1 rfl (zs1 rfl zs0))))
    · have g14 := (hb14.resolve_left (fun z => by have := z.1; omega)).2
      clear hb14
      refine c_iconst dX9_scale_20 ?_
      refine c_ireturn dX9_scale_21 rfl ?_
      subst hQ0; refine ⟨_, _, rfl, ?_⟩; unfold aScale; rw [cif_neg (by omega)]; exact ⟨rfl, pq_refl _, pp_refl _⟩
set_option maxHeartbeats 4000000 in
set_option maxRecDepth 100000 in
theorem cMX9_of {s w : Int} (hs : rI s) (hw : rI w) (hL : okJ J) : ZC g l MX9_of [.ref 42, .int (iZ s), .int (iZ w)] (KF Kd, zi J, zj P, RF Rd, n, s0) (fun rr hh => ∃ J' P', hh = (KF Kd, zi J', zj P', RF Rd, n, s0) ∧ rr = some (.int (iZ (aOf J s w))) ∧ pq J J' ∧ pp P P') := by
  refine ZC.of (by decide) (Nat.le_of_ble_eq_true rfl) ?_
  generalize hQ0 : (fun rr hh => ∃ J' P', hh = (KF Kd, zi J', zj P', RF Rd, n, s0) ∧ rr = some (.int (iZ (aOf J s w))) ∧ pq J J' ∧ pp P P' : Option Value → ZH → Prop) = Q0
  show Z g l MX9_of 0 [some (.ref 42), some (.int (iZ s)), some (.int (iZ w)), none, none, none] [] (KF Kd, zi J, zj P, RF Rd, n, s0) Q0
  refine z_iload_n dX9_of_0 rfl rfl ?_
  refine z_calls (N := MX9_isSlot) (nas := 1) (as := [_]) dX9_of_1 w_885 w_883 w_884 w_8 (by decide +kernel) rfl rfl (Nat.le_of_ble_eq_true rfl) (by decide) (by decide) (ZC.mono (b_isSlot (by omega)) ?_)
  rintro _ _ ⟨b1, rfl, rfl, hb1⟩
  refine c_if_eq (tgt := 19) dX9_of_4 (by decide) (by omega) (fun h4 => ?_) (fun h4 => ?_)
  · have g1 := (hb1.resolve_left (fun z => by have := z.1; omega)).2
    clear hb1
    refine c_iconst dX9_of_19 ?_
    refine c_ireturn dX9_of_20 rfl ?_
    subst hQ0; refine ⟨_, _, rfl, ?_⟩; unfold aOf; rw [cif_neg (by omega)]; exact ⟨rfl, pq_refl _, pp_refl _⟩
  · have g1 := (hb1.resolve_right (fun z => by have := z.1; omega)).2
    clear hb1
    refine z_iload_n dX9_of_7 rfl rfl ?_
    refine c_i2l dX9_of_8 (by omega) ?_
    refine c_lconst0 dX9_of_9 ?_
    refine c_ldc2 (z := 3) dX9_of_10 w_974 (by decide) ?_
    refine z_calls (N := MX9_in) (nas := 3) (as := [_, _, _]) dX9_of_13 w_889 w_887 w_888 w_8 (by decide +kernel) rfl rfl (Nat.le_of_ble_eq_true rfl) (by decide) (by decide) (ZC.mono (b_in (by omega) (by omega) (by omega)) ?_)
    rintro _ _ ⟨b13, rfl, rfl, hb13⟩
    refine c_if_ne (tgt := 21) dX9_of_16 (by decide) (by omega) (fun h16 => ?_) (fun h16 => ?_)
    · have g13 := (hb13.resolve_right (fun z => by have := z.1; omega)).2
      clear hb13
      have hl4 := okJ_let hL (q := s.toNat) (by omega)
      refine z_aload_n dX9_of_21 rfl rfl ?_
      refine z_getR (ci := 9) (kf := 1) dX9_of_22 rfl (by decide) (by decide) rfl w_777 rfl ?_
      refine z_iload_n dX9_of_25 rfl rfl ?_
      refine c_iald dX9_of_26 rfl (by omega) (by decide) ?_
      refine c_if_ne (tgt := 41) dX9_of_27 (by decide) (by omega) (fun h27 => ?_) (fun h27 => ?_)
      · have hfo := okJ_form hL (s := s) (by omega) (by omega)
        have hR43 := entS_rng hfo.2.1.1
        refine z_aload_n dX9_of_41 rfl rfl ?_
        refine z_iload_n dX9_of_42 rfl rfl ?_
        refine z_callv (N := MX9_isLawful) (ci := 9) (nas := 1) (as := [_]) dX9_of_43 w_914 w_911 w_913 ws_23 w_8 (by decide +kernel) rfl rfl rfl (by decide) (Nat.le_of_ble_eq_true rfl) (by decide) (by decide) (ZC.mono (cMX9_isLawful (by omega) (by omega) hR43) ?_)
        rintro _ _ ⟨P43, b43, rfl, rfl, hb43, hl43, ho43⟩
        have hl9 := hl43 hfo.2.1
        refine z_istore_n dX9_of_46 rfl (by decide) rfl ?_
        refine c_iconst dX9_of_47 ?_
        refine z_istore dX9_of_48 (by decide) rfl ?_
        refine c_iconst dX9_of_50 ?_
        refine z_istore dX9_of_51 (by decide) rfl ?_
        have L53 : ∀ (m53 : Nat), ∀ (i mo : Int), (J 44 s.toNat - i).toNat = m53 → (0 ≤ i ∧ i ≤ J 44 s.toNat) → (mo = mostS (eE J s) i.toNat ∧ 0 ≤ mo ∧ mo ≤ 99) → Z g l MX9_of 53 [some (.ref 42), some (.int (iZ s)), some (.int (iZ w)), none, some (.int (iZ mo)), some (.int (iZ i))] [] (KF Kd, zi J, zj P43, RF Rd, n, s0) Q0 := by
          intro m53
          induction m53 using Nat.strongRecOn with
          | ind m53 ih53 =>
            intro i mo hm53 hi hmo
            refine z_iload dX9_of_53 rfl ?_
            refine z_aload_n dX9_of_55 rfl rfl ?_
            refine z_getR (ci := 9) (kf := 1) dX9_of_56 rfl (by decide) (by decide) rfl w_777 rfl ?_
            refine z_iload_n dX9_of_59 rfl rfl ?_
            refine c_iald dX9_of_60 rfl (by omega) (by decide) ?_
            refine c_icmp_ge (tgt := 100) dX9_of_61 (by decide) (by omega) (by omega) (fun h61 => ?_) (fun h61 => ?_)
            · refine z_iload_n dX9_of_100 rfl rfl ?_
              refine c_if_ne (tgt := 113) dX9_of_101 (by decide) (by omega) (fun h101 => ?_) (fun h101 => ?_)
              · refine z_iload_n dX9_of_113 rfl rfl ?_
                refine c_iconst dX9_of_114 ?_
                refine c_icmp_ne (tgt := 126) dX9_of_115 (by decide) (by omega) (by omega) (fun h115 => ?_) (fun h115 => ?_)
                · refine z_iload_n dX9_of_126 rfl rfl ?_
                  refine c_iconst dX9_of_127 ?_
                  refine c_icmp_ne (tgt := 139) dX9_of_128 (by decide) (by omega) (by omega) (fun h128 => ?_) (fun h128 => ?_)
                  · refine z_iload dX9_of_139 rfl ?_
                    refine c_ireturn dX9_of_141 rfl ?_
                    subst hQ0; refine ⟨_, _, rfl, ?_⟩; unfold aOf; rw [cif_pos (by omega), if_neg (by omega)]
                    have hii : i.toNat = (J 44 s.toNat).toNat := by omega
                    refine ⟨?_, pq_refl _, pp_off ho43⟩
                    repeat (first | rw [if_pos (by omega)] | rw [if_neg (by omega)])
                    try rw [hmo.1, hii]
                  · refine z_aload_n dX9_of_131 rfl rfl ?_
                    refine c_getL (ci := 9) (kf := 12) dX9_of_132 rfl (by decide) (by decide) rfl w_788 ?_
                    rw [hl9.2.1]
                    refine c_l2i dX9_of_135 ?_
                    refine z_goto (tgt := 141) dX9_of_136 (by decide) ?_
                    refine c_ireturn dX9_of_141 rfl ?_
                    subst hQ0; refine ⟨_, _, rfl, ?_⟩; unfold aOf; rw [cif_pos (by omega), if_neg (by omega)]
                    have hii : i.toNat = (J 44 s.toNat).toNat := by omega
                    refine ⟨?_, pq_refl _, pp_off ho43⟩
                    repeat (first | rw [if_pos (by omega)] | rw [if_neg (by omega)])
                    try rw [hmo.1, hii]
                · refine z_aload_n dX9_of_118 rfl rfl ?_
                  refine c_getL (ci := 9) (kf := 11) dX9_of_119 rfl (by decide) (by decide) rfl w_787 ?_
                  rw [hl9.1]
                  refine c_l2i dX9_of_122 ?_
                  refine z_goto (tgt := 141) dX9_of_123 (by decide) ?_
                  refine c_ireturn dX9_of_141 rfl ?_
                  subst hQ0; refine ⟨_, _, rfl, ?_⟩; unfold aOf; rw [cif_pos (by omega), if_neg (by omega)]
                  have hii : i.toNat = (J 44 s.toNat).toNat := by omega
                  refine ⟨?_, pq_refl _, pp_off ho43⟩
                  repeat (first | rw [if_pos (by omega)] | rw [if_neg (by omega)])
                  try rw [hmo.1, hii]
              · refine z_aload_n dX9_of_104 rfl rfl ?_
                refine z_getR (ci := 9) (kf := 1) dX9_of_105 rfl (by decide) (by decide) rfl w_777 rfl ?_
                refine z_iload_n dX9_of_108 rfl rfl ?_
                refine c_iald dX9_of_109 rfl (by omega) (by decide) ?_
                refine z_goto (tgt := 141) dX9_of_110 (by decide) ?_
                refine c_ireturn dX9_of_141 rfl ?_
                subst hQ0; refine ⟨_, _, rfl, ?_⟩; unfold aOf; rw [cif_pos (by omega), if_neg (by omega)]
                have hii : i.toNat = (J 44 s.toNat).toNat := by omega
                refine ⟨?_, pq_refl _, pp_off ho43⟩
                repeat (first | rw [if_pos (by omega)] | rw [if_neg (by omega)])
                try rw [hmo.1, hii]
            · refine z_aload_n dX9_of_64 rfl rfl ?_
              refine z_iload_n dX9_of_65 rfl rfl ?_
              refine z_iload dX9_of_66 rfl ?_
              refine z_iload dX9_of_68 rfl ?_
              refine z_callv (N := MX9_entryAt) (ci := 9) (nas := 3) (as := [_, _, _]) dX9_of_70 w_925 w_922 w_924 ws_25 w_8 (by decide +kernel) rfl rfl rfl (by decide) (Nat.le_of_ble_eq_true rfl) (by decide) (by decide) (ZC.mono (cMX9_entryAt (by omega)) ?_)
              rintro _ _ ⟨rfl, rfl⟩
              rw [eE_at (J := J) (by omega) (by omega) (by omega), show 4 * i.toNat + i.toNat = 5 * i.toNat by omega]
              have hei := hfo.2.1.1 (5 * i.toNat) (by omega)
              refine z_iload dX9_of_73 rfl ?_
              refine c_icmp_le (tgt := 90) dX9_of_75 (by decide) (by omega) (by omega) (fun h75 => ?_) (fun h75 => ?_)
              · refine z_iload dX9_of_90 rfl ?_
                refine z_istore dX9_of_92 (by decide) rfl ?_
                refine c_iinc dX9_of_94 rfl (by decide) rfl ?_
                refine z_goto (tgt := 53) dX9_of_97 (by decide) ?_
                exact Z.fg2 (ih53 _ (by omega) _ _ rfl (by omega) ⟨by rw [show (i + 1).toNat = i.toNat + 1 by omega, mostS, ← hmo.1]; first | rw [if_pos (by omega)] | rw [if_neg (by omega)], by omega, by omega⟩) (zs1 rfl (zs1 rfl (zs1 rfl (zsn (zs1 rfl (zs1 rfl zs0))))))
              · refine z_aload_n dX9_of_78 rfl rfl ?_
                refine z_iload_n dX9_of_79 rfl rfl ?_
                refine z_iload dX9_of_80 rfl ?_
                refine z_iload dX9_of_82 rfl ?_
                refine z_callv (N := MX9_entryAt) (ci := 9) (nas := 3) (as := [_, _, _]) dX9_of_84 w_925 w_922 w_924 ws_25 w_8 (by decide +kernel) rfl rfl rfl (by decide) (Nat.le_of_ble_eq_true rfl) (by decide) (by decide) (ZC.mono (cMX9_entryAt (by omega)) ?_)
                rintro _ _ ⟨rfl, rfl⟩
                rw [eE_at (J := J) (by omega) (by omega) (by omega), show 4 * i.toNat + i.toNat = 5 * i.toNat by omega]
                refine z_goto (tgt := 92) dX9_of_87 (by decide) ?_
                refine z_istore dX9_of_92 (by decide) rfl ?_
                refine c_iinc dX9_of_94 rfl (by decide) rfl ?_
                refine z_goto (tgt := 53) dX9_of_97 (by decide) ?_
                exact Z.fg2 (ih53 _ (by omega) _ _ rfl (by omega) ⟨by rw [show (i + 1).toNat = i.toNat + 1 by omega, mostS, ← hmo.1]; first | rw [if_pos (by omega)] | rw [if_neg (by omega)], by omega, by omega⟩) (zs1 rfl (zs1 rfl (zs1 rfl (zsn (zs1 rfl (zs1 rfl zs0))))))
        exact Z.fg2 (L53 _ _ _ rfl (by omega) ⟨(rfl : (0 : Int) = mostS (eE J s) (0 : Int).toNat), by omega, by omega⟩) (zs1 rfl (zs1 rfl (zs1 rfl (zsn (zs1 rfl (zs1 rfl zs0))))))
      · refine z_iload_n dX9_of_30 rfl rfl ?_
        refine c_if_ne (tgt := 38) dX9_of_31 (by decide) (by omega) (fun h31 => ?_) (fun h31 => ?_)
        · refine c_bipush dX9_of_38 (by decide) ?_
          refine c_ireturn dX9_of_40 rfl ?_
          subst hQ0; refine ⟨_, _, rfl, ?_⟩; unfold aOf; rw [cif_pos (by omega), if_pos (by omega)]; first | rw [if_pos (by omega)] | rw [if_neg (by omega)]
          exact ⟨rfl, pq_refl _, pp_refl _⟩
        · refine c_iconst dX9_of_34 ?_
          refine z_goto (tgt := 40) dX9_of_35 (by decide) ?_
          refine c_ireturn dX9_of_40 rfl ?_
          subst hQ0; refine ⟨_, _, rfl, ?_⟩; unfold aOf; rw [cif_pos (by omega), if_pos (by omega)]; first | rw [if_pos (by omega)] | rw [if_neg (by omega)]
          exact ⟨rfl, pq_refl _, pp_refl _⟩
    · have g13 := (hb13.resolve_left (fun z => by have := z.1; omega)).2
      clear hb13
      refine c_iconst dX9_of_19 ?_
      refine c_ireturn dX9_of_20 rfl ?_
      subst hQ0; refine ⟨_, _, rfl, ?_⟩; unfold aOf; rw [cif_neg (by omega)]; exact ⟨rfl, pq_refl _, pp_refl _⟩
set_option maxHeartbeats 4000000 in
set_option maxRecDepth 100000 in
theorem cMX9_same {s t : Int} (hs : rI s) (ht : rI t) (hL : okJ J) : ZC g l MX9_same [.ref 42, .int (iZ s), .int (iZ t)] (KF Kd, zi J, zj P, RF Rd, n, s0) (fun rr hh => ∃ J' P', hh = (KF Kd, zi J', zj P', RF Rd, n, s0) ∧ rr = some (.int (iZ (aSame J s t))) ∧ pq J J' ∧ pp P P') := by
  refine ZC.of (by decide) (Nat.le_of_ble_eq_true rfl) ?_
  generalize hQ0 : (fun rr hh => ∃ J' P', hh = (KF Kd, zi J', zj P', RF Rd, n, s0) ∧ rr = some (.int (iZ (aSame J s t))) ∧ pq J J' ∧ pp P P' : Option Value → ZH → Prop) = Q0
  show Z g l MX9_same 0 [some (.ref 42), some (.int (iZ s)), some (.int (iZ t)), none, none] [] (KF Kd, zi J, zj P, RF Rd, n, s0) Q0
  refine z_aload_n dX9_same_0 rfl rfl ?_
  refine z_iload_n dX9_same_1 rfl rfl ?_
  refine z_callv (N := MX9_hasForm) (ci := 9) (nas := 1) (as := [_]) dX9_same_2 w_948 w_945 w_947 ws_28 w_8 (by decide +kernel) rfl rfl rfl (by decide) (Nat.le_of_ble_eq_true rfl) (by decide) (by decide) (ZC.mono (b_hasForm (by omega) hL) ?_)
  rintro _ _ ⟨b2, rfl, rfl, hb2⟩
  refine c_if_eq (tgt := 16) dX9_same_5 (by decide) (by omega) (fun h5 => ?_) (fun h5 => ?_)
  · have g2 := (hb2.resolve_left (fun z => by have := z.1; omega)).2
    clear hb2
    refine c_iconst dX9_same_16 ?_
    refine c_ireturn dX9_same_17 rfl ?_
    subst hQ0; refine ⟨_, _, rfl, ?_⟩; unfold aSame; rw [cif_neg (by omega)]; exact ⟨rfl, pq_refl _, pp_refl _⟩
  · have g2 := (hb2.resolve_right (fun z => by have := z.1; omega)).2
    clear hb2
    refine z_aload_n dX9_same_8 rfl rfl ?_
    refine z_iload_n dX9_same_9 rfl rfl ?_
    refine z_callv (N := MX9_hasForm) (ci := 9) (nas := 1) (as := [_]) dX9_same_10 w_948 w_945 w_947 ws_28 w_8 (by decide +kernel) rfl rfl rfl (by decide) (Nat.le_of_ble_eq_true rfl) (by decide) (by decide) (ZC.mono (b_hasForm (by omega) hL) ?_)
    rintro _ _ ⟨b10, rfl, rfl, hb10⟩
    refine c_if_ne (tgt := 18) dX9_same_13 (by decide) (by omega) (fun h13 => ?_) (fun h13 => ?_)
    · have g10 := (hb10.resolve_right (fun z => by have := z.1; omega)).2
      clear hb10
      have hl4 := okJ_let hL (q := s.toNat) (by omega)
      have hl5 := okJ_let hL (q := t.toNat) (by omega)
      have hfo := okJ_form hL (s := s) (by omega) (by omega)
      have hgo := okJ_form hL (s := t) (by omega) (by omega)
      refine z_aload_n dX9_same_18 rfl rfl ?_
      refine z_getR (ci := 9) (kf := 1) dX9_same_19 rfl (by decide) (by decide) rfl w_777 rfl ?_
      refine z_iload_n dX9_same_22 rfl rfl ?_
      refine c_iald dX9_same_23 rfl (by omega) (by decide) ?_
      refine z_aload_n dX9_same_24 rfl rfl ?_
      refine z_getR (ci := 9) (kf := 1) dX9_same_25 rfl (by decide) (by decide) rfl w_777 rfl ?_
      refine z_iload_n dX9_same_28 rfl rfl ?_
      refine c_iald dX9_same_29 rfl (by omega) (by decide) ?_
      refine c_icmp_ne (tgt := 37) dX9_same_30 (by decide) (by omega) (by omega) (fun h30 => ?_) (fun h30 => ?_)
      · refine c_iconst dX9_same_37 ?_
        refine z_istore_n dX9_same_38 rfl (by decide) rfl ?_
        refine c_iconst dX9_same_39 ?_
        refine z_istore dX9_same_40 (by decide) rfl ?_
        have L42 : ∀ (m42 : Nat), ∀ (k b : Int), (16 - k).toNat = m42 → (0 ≤ k ∧ k ≤ 16) → ((b = 1 ∧ (J 44 s.toNat = J 44 t.toNat ∧ ∀ q : Nat, (q : Int) < k → eE J s q = eE J t q)) ∨ (b = 0 ∧ ¬ (J 44 s.toNat = J 44 t.toNat ∧ ∀ q : Nat, (q : Int) < k → eE J s q = eE J t q))) → Z g l MX9_same 42 [some (.ref 42), some (.int (iZ s)), some (.int (iZ t)), some (.int (iZ b)), some (.int (iZ k))] [] (KF Kd, zi J, zj P, RF Rd, n, s0) Q0 := by
          intro m42
          induction m42 using Nat.strongRecOn with
          | ind m42 ih42 =>
            intro k b hm42 hk hb
            refine z_iload dX9_same_42 rfl ?_
            refine c_bipush dX9_same_44 (by decide) ?_
            refine c_icmp_ge (tgt := 92) dX9_same_46 (by decide) (by omega) (by omega) (fun h46 => ?_) (fun h46 => ?_)
            · refine z_iload_n dX9_same_92 rfl rfl ?_
              refine c_if_eq (tgt := 100) dX9_same_93 (by decide) (by omega) (fun h93 => ?_) (fun h93 => ?_)
              · refine c_iconst dX9_same_100 ?_
                refine c_ireturn dX9_same_101 rfl ?_
                subst hQ0; refine ⟨_, _, rfl, ?_⟩; unfold aSame; rw [cif_pos (by omega)]; refine ⟨?_, pq_refl _, pp_refl _⟩
                rcases hb with ⟨hb1, hb2⟩ | ⟨hb1, hb2⟩
                · rw [cif_pos ⟨hb2.1, fun q hq => hb2.2 q (by omega)⟩]; try (first | rfl | (exfalso; omega))
                · rw [cif_neg (fun z => hb2 ⟨z.1, fun q hq => z.2 q (by omega)⟩)]; try (first | rfl | (exfalso; omega))
              · refine c_iconst dX9_same_96 ?_
                refine z_goto (tgt := 101) dX9_same_97 (by decide) ?_
                refine c_ireturn dX9_same_101 rfl ?_
                subst hQ0; refine ⟨_, _, rfl, ?_⟩; unfold aSame; rw [cif_pos (by omega)]; refine ⟨?_, pq_refl _, pp_refl _⟩
                rcases hb with ⟨hb1, hb2⟩ | ⟨hb1, hb2⟩
                · rw [cif_pos ⟨hb2.1, fun q hq => hb2.2 q (by omega)⟩]; try (first | rfl | (exfalso; omega))
                · rw [cif_neg (fun z => hb2 ⟨z.1, fun q hq => z.2 q (by omega)⟩)]; try (first | rfl | (exfalso; omega))
            · refine z_iload_n dX9_same_49 rfl rfl ?_
              refine c_if_eq (tgt := 84) dX9_same_50 (by decide) (by omega) (fun h50 => ?_) (fun h50 => ?_)
              · refine c_iconst dX9_same_84 ?_
                refine z_istore_n dX9_same_85 rfl (by decide) rfl ?_
                refine c_iinc dX9_same_86 rfl (by decide) rfl ?_
                refine z_goto (tgt := 42) dX9_same_89 (by decide) ?_
                exact Z.fg2 (ih42 _ (by omega) _ _ rfl (by omega) (by first | exact Or.inr ⟨rfl, fun z => (hb.resolve_left (fun y => by have := y.1; omega)).2 ⟨z.1, fun q hq => z.2 q (by omega)⟩⟩ | exact Or.inl ⟨rfl, (hb.resolve_right (fun y => by have := y.1; omega)).2.1, fun q hq => by by_cases hqk : (q : Int) < k; exact (hb.resolve_right (fun y => by have := y.1; omega)).2.2 q hqk; (rw [show q = k.toNat by omega]; omega)⟩ | exact Or.inr ⟨rfl, fun z => by have := z.2 k.toNat (by omega); omega⟩)) (zs1 rfl (zs1 rfl (zs1 rfl (zs1 rfl (zs1 rfl zs0)))))
              · refine z_aload_n dX9_same_53 rfl rfl ?_
                refine z_getR (ci := 9) (kf := 0) dX9_same_54 rfl (by decide) (by decide) rfl w_776 rfl ?_
                refine c_bipush dX9_same_57 (by decide) ?_
                refine z_iload_n dX9_same_59 rfl rfl ?_
                refine c_imul dX9_same_60 ?_
                refine z_iload dX9_same_61 rfl ?_
                refine c_iadd dX9_same_63 ?_
                refine c_iald dX9_same_64 rfl (by omega) (by decide) ?_
                rw [eE_at1 (J := J) (by omega) (by omega)]
                have he1 := hfo.2.1.1 k.toNat (by omega)
                refine z_aload_n dX9_same_65 rfl rfl ?_
                refine z_getR (ci := 9) (kf := 0) dX9_same_66 rfl (by decide) (by decide) rfl w_776 rfl ?_
                refine c_bipush dX9_same_69 (by decide) ?_
                refine z_iload_n dX9_same_71 rfl rfl ?_
                refine c_imul dX9_same_72 ?_
                refine z_iload dX9_same_73 rfl ?_
                refine c_iadd dX9_same_75 ?_
                refine c_iald dX9_same_76 rfl (by omega) (by decide) ?_
                rw [eE_at1 (J := J) (by omega) (by omega)]
                have he2 := hgo.2.1.1 k.toNat (by omega)
                refine c_icmp_ne (tgt := 84) dX9_same_77 (by decide) (by omega) (by omega) (fun h77 => ?_) (fun h77 => ?_)
                · refine c_iconst dX9_same_84 ?_
                  refine z_istore_n dX9_same_85 rfl (by decide) rfl ?_
                  refine c_iinc dX9_same_86 rfl (by decide) rfl ?_
                  refine z_goto (tgt := 42) dX9_same_89 (by decide) ?_
                  exact Z.fg2 (ih42 _ (by omega) _ _ rfl (by omega) (by first | exact Or.inr ⟨rfl, fun z => (hb.resolve_left (fun y => by have := y.1; omega)).2 ⟨z.1, fun q hq => z.2 q (by omega)⟩⟩ | exact Or.inl ⟨rfl, (hb.resolve_right (fun y => by have := y.1; omega)).2.1, fun q hq => by by_cases hqk : (q : Int) < k; exact (hb.resolve_right (fun y => by have := y.1; omega)).2.2 q hqk; (rw [show q = k.toNat by omega]; omega)⟩ | exact Or.inr ⟨rfl, fun z => by have := z.2 k.toNat (by omega); omega⟩)) (zs1 rfl (zs1 rfl (zs1 rfl (zs1 rfl (zs1 rfl zs0)))))
                · refine c_iconst dX9_same_80 ?_
                  refine z_goto (tgt := 85) dX9_same_81 (by decide) ?_
                  refine z_istore_n dX9_same_85 rfl (by decide) rfl ?_
                  refine c_iinc dX9_same_86 rfl (by decide) rfl ?_
                  refine z_goto (tgt := 42) dX9_same_89 (by decide) ?_
                  exact Z.fg2 (ih42 _ (by omega) _ _ rfl (by omega) (by first | exact Or.inr ⟨rfl, fun z => (hb.resolve_left (fun y => by have := y.1; omega)).2 ⟨z.1, fun q hq => z.2 q (by omega)⟩⟩ | exact Or.inl ⟨rfl, (hb.resolve_right (fun y => by have := y.1; omega)).2.1, fun q hq => by by_cases hqk : (q : Int) < k; exact (hb.resolve_right (fun y => by have := y.1; omega)).2.2 q hqk; (rw [show q = k.toNat by omega]; omega)⟩ | exact Or.inr ⟨rfl, fun z => by have := z.2 k.toNat (by omega); omega⟩)) (zs1 rfl (zs1 rfl (zs1 rfl (zs1 rfl (zs1 rfl zs0)))))
        exact Z.fg2 (L42 _ _ _ rfl (by omega) (by first | exact Or.inl ⟨rfl, by omega, fun q hq => absurd hq (by omega)⟩ | exact Or.inr ⟨rfl, fun z => by have := z.1; omega⟩)) (zs1 rfl (zs1 rfl (zs1 rfl (zs1 rfl (zs1 rfl zs0)))))
      · refine c_iconst dX9_same_33 ?_
        refine z_goto (tgt := 38) dX9_same_34 (by decide) ?_
        refine z_istore_n dX9_same_38 rfl (by decide) rfl ?_
        refine c_iconst dX9_same_39 ?_
        refine z_istore dX9_same_40 (by decide) rfl ?_
        have L42 : ∀ (m42 : Nat), ∀ (k b : Int), (16 - k).toNat = m42 → (0 ≤ k ∧ k ≤ 16) → ((b = 1 ∧ (J 44 s.toNat = J 44 t.toNat ∧ ∀ q : Nat, (q : Int) < k → eE J s q = eE J t q)) ∨ (b = 0 ∧ ¬ (J 44 s.toNat = J 44 t.toNat ∧ ∀ q : Nat, (q : Int) < k → eE J s q = eE J t q))) → Z g l MX9_same 42 [some (.ref 42), some (.int (iZ s)), some (.int (iZ t)), some (.int (iZ b)), some (.int (iZ k))] [] (KF Kd, zi J, zj P, RF Rd, n, s0) Q0 := by
          intro m42
          induction m42 using Nat.strongRecOn with
          | ind m42 ih42 =>
            intro k b hm42 hk hb
            refine z_iload dX9_same_42 rfl ?_
            refine c_bipush dX9_same_44 (by decide) ?_
            refine c_icmp_ge (tgt := 92) dX9_same_46 (by decide) (by omega) (by omega) (fun h46 => ?_) (fun h46 => ?_)
            · refine z_iload_n dX9_same_92 rfl rfl ?_
              refine c_if_eq (tgt := 100) dX9_same_93 (by decide) (by omega) (fun h93 => ?_) (fun h93 => ?_)
              · refine c_iconst dX9_same_100 ?_
                refine c_ireturn dX9_same_101 rfl ?_
                subst hQ0; refine ⟨_, _, rfl, ?_⟩; unfold aSame; rw [cif_pos (by omega)]; refine ⟨?_, pq_refl _, pp_refl _⟩
                rcases hb with ⟨hb1, hb2⟩ | ⟨hb1, hb2⟩
                · rw [cif_pos ⟨hb2.1, fun q hq => hb2.2 q (by omega)⟩]; try (first | rfl | (exfalso; omega))
                · rw [cif_neg (fun z => hb2 ⟨z.1, fun q hq => z.2 q (by omega)⟩)]; try (first | rfl | (exfalso; omega))
              · refine c_iconst dX9_same_96 ?_
                refine z_goto (tgt := 101) dX9_same_97 (by decide) ?_
                refine c_ireturn dX9_same_101 rfl ?_
                subst hQ0; refine ⟨_, _, rfl, ?_⟩; unfold aSame; rw [cif_pos (by omega)]; refine ⟨?_, pq_refl _, pp_refl _⟩
                rcases hb with ⟨hb1, hb2⟩ | ⟨hb1, hb2⟩
                · rw [cif_pos ⟨hb2.1, fun q hq => hb2.2 q (by omega)⟩]; try (first | rfl | (exfalso; omega))
                · rw [cif_neg (fun z => hb2 ⟨z.1, fun q hq => z.2 q (by omega)⟩)]; try (first | rfl | (exfalso; omega))
            · refine z_iload_n dX9_same_49 rfl rfl ?_
              refine c_if_eq (tgt := 84) dX9_same_50 (by decide) (by omega) (fun h50 => ?_) (fun h50 => ?_)
              · refine c_iconst dX9_same_84 ?_
                refine z_istore_n dX9_same_85 rfl (by decide) rfl ?_
                refine c_iinc dX9_same_86 rfl (by decide) rfl ?_
                refine z_goto (tgt := 42) dX9_same_89 (by decide) ?_
                exact Z.fg2 (ih42 _ (by omega) _ _ rfl (by omega) (by first | exact Or.inr ⟨rfl, fun z => (hb.resolve_left (fun y => by have := y.1; omega)).2 ⟨z.1, fun q hq => z.2 q (by omega)⟩⟩ | exact Or.inl ⟨rfl, (hb.resolve_right (fun y => by have := y.1; omega)).2.1, fun q hq => by by_cases hqk : (q : Int) < k; exact (hb.resolve_right (fun y => by have := y.1; omega)).2.2 q hqk; (rw [show q = k.toNat by omega]; omega)⟩ | exact Or.inr ⟨rfl, fun z => by have := z.2 k.toNat (by omega); omega⟩)) (zs1 rfl (zs1 rfl (zs1 rfl (zs1 rfl (zs1 rfl zs0)))))
              · refine z_aload_n dX9_same_53 rfl rfl ?_
                refine z_getR (ci := 9) (kf := 0) dX9_same_54 rfl (by decide) (by decide) rfl w_776 rfl ?_
                refine c_bipush dX9_same_57 (by decide) ?_
                refine z_iload_n dX9_same_59 rfl rfl ?_
                refine c_imul dX9_same_60 ?_
                refine z_iload dX9_same_61 rfl ?_
                refine c_iadd dX9_same_63 ?_
                refine c_iald dX9_same_64 rfl (by omega) (by decide) ?_
                rw [eE_at1 (J := J) (by omega) (by omega)]
                have he1 := hfo.2.1.1 k.toNat (by omega)
                refine z_aload_n dX9_same_65 rfl rfl ?_
                refine z_getR (ci := 9) (kf := 0) dX9_same_66 rfl (by decide) (by decide) rfl w_776 rfl ?_
                refine c_bipush dX9_same_69 (by decide) ?_
                refine z_iload_n dX9_same_71 rfl rfl ?_
                refine c_imul dX9_same_72 ?_
                refine z_iload dX9_same_73 rfl ?_
                refine c_iadd dX9_same_75 ?_
                refine c_iald dX9_same_76 rfl (by omega) (by decide) ?_
                rw [eE_at1 (J := J) (by omega) (by omega)]
                have he2 := hgo.2.1.1 k.toNat (by omega)
                refine c_icmp_ne (tgt := 84) dX9_same_77 (by decide) (by omega) (by omega) (fun h77 => ?_) (fun h77 => ?_)
                · refine c_iconst dX9_same_84 ?_
                  refine z_istore_n dX9_same_85 rfl (by decide) rfl ?_
                  refine c_iinc dX9_same_86 rfl (by decide) rfl ?_
                  refine z_goto (tgt := 42) dX9_same_89 (by decide) ?_
                  exact Z.fg2 (ih42 _ (by omega) _ _ rfl (by omega) (by first | exact Or.inr ⟨rfl, fun z => (hb.resolve_left (fun y => by have := y.1; omega)).2 ⟨z.1, fun q hq => z.2 q (by omega)⟩⟩ | exact Or.inl ⟨rfl, (hb.resolve_right (fun y => by have := y.1; omega)).2.1, fun q hq => by by_cases hqk : (q : Int) < k; exact (hb.resolve_right (fun y => by have := y.1; omega)).2.2 q hqk; (rw [show q = k.toNat by omega]; omega)⟩ | exact Or.inr ⟨rfl, fun z => by have := z.2 k.toNat (by omega); omega⟩)) (zs1 rfl (zs1 rfl (zs1 rfl (zs1 rfl (zs1 rfl zs0)))))
                · refine c_iconst dX9_same_80 ?_
                  refine z_goto (tgt := 85) dX9_same_81 (by decide) ?_
                  refine z_istore_n dX9_same_85 rfl (by decide) rfl ?_
                  refine c_iinc dX9_same_86 rfl (by decide) rfl ?_
                  refine z_goto (tgt := 42) dX9_same_89 (by decide) ?_
                  exact Z.fg2 (ih42 _ (by omega) _ _ rfl (by omega) (by first | exact Or.inr ⟨rfl, fun z => (hb.resolve_left (fun y => by have := y.1; omega)).2 ⟨z.1, fun q hq => z.2 q (by omega)⟩⟩ | exact Or.inl ⟨rfl, (hb.resolve_right (fun y => by have := y.1; omega)).2.1, fun q hq => by by_cases hqk : (q : Int) < k; exact (hb.resolve_right (fun y => by have := y.1; omega)).2.2 q hqk; (rw [show q = k.toNat by omega]; omega)⟩ | exact Or.inr ⟨rfl, fun z => by have := z.2 k.toNat (by omega); omega⟩)) (zs1 rfl (zs1 rfl (zs1 rfl (zs1 rfl (zs1 rfl zs0)))))
        exact Z.fg2 (L42 _ _ _ rfl (by omega) (by first | exact Or.inl ⟨rfl, by omega, fun q hq => absurd hq (by omega)⟩ | exact Or.inr ⟨rfl, fun z => by have := z.1; omega⟩)) (zs1 rfl (zs1 rfl (zs1 rfl (zs1 rfl (zs1 rfl zs0)))))
    · have g10 := (hb10.resolve_left (fun z => by have := z.1; omega)).2
      clear hb10
      refine c_iconst dX9_same_16 ?_
      refine c_ireturn dX9_same_17 rfl ?_
      subst hQ0; refine ⟨_, _, rfl, ?_⟩; unfold aSame; rw [cif_neg (by omega)]; exact ⟨rfl, pq_refl _, pp_refl _⟩
end Ref6
