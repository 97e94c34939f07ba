section Ref21
variable {g : ZG} {l : Launch} {Kd : ZK} {Rd : ZR} {n s0 : Nat} {J P : Nat → Nat → Int}
theorem diag_nn {nl : Int} {E : Nat → Int} (h1 : 1 ≤ nl) (h : okF nl E) {i : Nat} (hi : i < 4) : 0 ≤ E (5 * i) := by
  rcases (show i = 0 ∨ i = 1 ∨ i = 2 ∨ i = 3 by omega) with e | e | e | e <;> subst e
  · have := okF_pos h1 h (1, 0, 0, 0); simpa [wv] using this
  · have := okF_pos h1 h (0, 1, 0, 0); simpa [wv] using this
  · have := okF_pos h1 h (0, 0, 1, 0); simpa [wv] using this
  · have := okF_pos h1 h (0, 0, 0, 1); simpa [wv] using this
theorem drop_step {α : Type} {L M : List α} {x : α} {i : Nat} (h : L.drop i = x :: M) : L.drop (i + 1) = M ∧ L[i]? = some x := by
  refine ⟨?_, ?_⟩
  · rw [← List.drop_drop, h]; rfl
  · have := List.getElem?_drop (xs := L) (i := i) (j := 0)
    rw [h] at this
    simpa using this.symm
theorem pq_42 {J J' : Nat → Nat → Int} (h : ∀ q, q = 2 ∨ q = 5 ∨ q = 8 → J' 42 q = J 42 q) (h2 : ∀ a, a ≠ 42 → J' a = J a) : pq J J' :=
  ⟨fun q _ => by rw [h2 43 (by decide)], fun q _ => by rw [h2 44 (by decide)], fun a ha => h2 a (by intro e; subst e; exact absurd ha (by decide)), h 2 (by simp), h 5 (by simp), h 8 (by simp)⟩
theorem pq_bnd {J J1 : Nat → Nat → Int} {t p : Int} (h : ∀ a, a ≠ 57 → a ≠ 58 → J1 a = zup (zup (zup J 42 23 t) 42 22 p) 42 26 1 a) : pq J J1 := by
  refine ⟨fun q _ => ?_, fun q _ => ?_, fun a ha => ?_, ?_, ?_, ?_⟩
  · rw [h 43 (by decide) (by decide), zup_ne (by decide), zup_ne (by decide), zup_ne (by decide)]
  · rw [h 44 (by decide) (by decide), zup_ne (by decide), zup_ne (by decide), zup_ne (by decide)]
  · have e : a ≠ 42 := by intro e; subst e; exact absurd ha (by decide)
    rw [h a (by intro e; subst e; exact absurd ha (by decide)) (by intro e; subst e; exact absurd ha (by decide)), zup_ne e, zup_ne e, zup_ne e]
  · rw [h 42 (by decide) (by decide), zzi (by decide), zzi (by decide), zzi (by decide)]
  · rw [h 42 (by decide) (by decide), zzi (by decide), zzi (by decide), zzi (by decide)]
  · rw [h 42 (by decide) (by decide), zzi (by decide), zzi (by decide), zzi (by decide)]
theorem bnd_step {J1 : Nat → Nat → Int} {i v : Int} {f : Nat → Int} (hi : 0 ≤ i) (hb : ∀ q : Nat, (q : Int) < i → J1 57 q = f q ∧ J1 58 q = f q) (hv : v = f i.toNat) : ∀ q : Nat, (q : Int) < i + 1 → zup (zup J1 57 i.toNat v) 58 i.toNat v 57 q = f q ∧ zup (zup J1 57 i.toNat v) 58 i.toNat v 58 q = f q := fun q hq => by
  rw [zzr (by decide)]
  by_cases e : q = i.toNat
  · subst e; rw [zz, zz]; exact ⟨hv, hv⟩
  · rw [zzi e, zzi e, zzr (by decide)]; exact hb q (by omega)
theorem kid_step {J2 : Nat → Nat → Int} {nl t k i b2 : Int} {E : Nat → Int} {rest rest1 : List V4} (hi : 0 ≤ i) (hik : i ≤ k) (hk0 : 0 ≤ k) (hdr : (kidF nl E t rest).drop i.toNat = kidF nl E t rest1) (hb2 : (b2 = 1 ∧ ∃ x rest', kidF nl E t rest1 = x :: kidF nl E t rest' ∧ RowSt J2 rest' ∧ KidNew J2 nl E t x) ∨ (b2 = 0 ∧ kidF nl E t rest1 = [])) : (b2 = 1 ∧ 0 ≤ k ∧ ∃ rest1, (kidF nl E t rest).drop (i + 1).toNat = kidF nl E t rest1 ∧ RowSt J2 rest1 ∧ ((i + 1).toNat = 0 ∨ ∃ x, (kidF nl E t rest)[(i + 1).toNat - 1]? = some x ∧ KidNew J2 nl E t x)) ∨ (b2 = 0 ∧ ¬ (0 ≤ k ∧ k < ((kidF nl E t rest).length : Int))) := by
  rw [show (i + 1).toNat = i.toNat + 1 by omega]
  rcases hb2 with ⟨h1, x, rest2, h2, h3, h4⟩ | ⟨h1, h2⟩
  · rw [h2] at hdr
    have hd := drop_step hdr
    exact Or.inl ⟨h1, hk0, rest2, hd.1, h3, Or.inr ⟨x, hd.2, h4⟩⟩
  · rw [h2, List.drop_eq_nil_iff] at hdr
    exact Or.inr ⟨h1, by omega⟩
set_option maxHeartbeats 4000000 in
set_option maxRecDepth 100000 in
theorem cMX9_isChild {p nl t : Int} {E : Nat → Int} {rest : List V4} (hS : RowSt J rest) (hPar : Par J p nl E t) {k : Int} (hk : rI k) (hlen : ((kidF nl E t rest).length : Int) ≤ 7880599) : ZC g l MX9_isChild [.ref 42, .int (iZ k)] (KF Kd, zi J, zj P, RF Rd, n, s0) (fun rr hh => ∃ J' P' b, hh = (KF Kd, zi J', zj P', RF Rd, n, s0) ∧ rr = some (.int (iZ b)) ∧ ((b = 1 ∧ 0 ≤ k ∧ ∃ x rest', (kidF nl E t rest)[k.toNat]? = some x ∧ (kidF nl E t rest).drop (k.toNat + 1) = kidF nl E t rest' ∧ RowSt J' rest' ∧ KidNew J' nl E t x) ∨ (b = 0 ∧ ¬ (0 ≤ k ∧ k < ((kidF nl E t rest).length : Int)))) ∧ offK J J' ∧ offP P P') := by
  refine ZC.of (by decide) (Nat.le_of_ble_eq_true rfl) ?_
  generalize hQ0 : (fun rr hh => ∃ J' P' b, hh = (KF Kd, zi J', zj P', RF Rd, n, s0) ∧ rr = some (.int (iZ b)) ∧ ((b = 1 ∧ 0 ≤ k ∧ ∃ x rest', (kidF nl E t rest)[k.toNat]? = some x ∧ (kidF nl E t rest).drop (k.toNat + 1) = kidF nl E t rest' ∧ RowSt J' rest' ∧ KidNew J' nl E t x) ∨ (b = 0 ∧ ¬ (0 ≤ k ∧ k < ((kidF nl E t rest).length : Int)))) ∧ offK J J' ∧ offP P P' : Option Value → ZH → Prop) = Q0
  show Z g l MX9_isChild 0 [some (.ref 42), some (.int (iZ k)), none, none] [] (KF Kd, zi J, zj P, RF Rd, n, s0) Q0
  refine z_iload_n dX9_isChild_0 rfl rfl ?_
  refine c_if_lt (tgt := 8) dX9_isChild_1 (by decide) (by omega) (fun h1 => ?_) (fun h1 => ?_)
  · refine c_iconst dX9_isChild_8 ?_
    refine z_istore_n dX9_isChild_9 rfl (by decide) rfl ?_
    refine c_iconst dX9_isChild_10 ?_
    refine z_istore_n dX9_isChild_11 rfl (by decide) rfl ?_
    have L12 : ∀ (m12 : Nat), ∀ (i b : Int) (J1 P1 : Nat → Nat → Int), (k + 1 - i).toNat = m12 → (0 ≤ i ∧ (i ≤ k + 1 ∨ i = 0)) → (i ≤ ((kidF nl E t rest).length : Int) + 1) → ((b = 1 ∧ 0 ≤ k ∧ ∃ rest1, (kidF nl E t rest).drop i.toNat = kidF nl E t rest1 ∧ RowSt J1 rest1 ∧ (i.toNat = 0 ∨ ∃ x, (kidF nl E t rest)[i.toNat - 1]? = some x ∧ KidNew J1 nl E t x)) ∨ (b = 0 ∧ ¬ (0 ≤ k ∧ k < ((kidF nl E t rest).length : Int)))) → (offK J J1) → (offP P P1) → Z g l MX9_isChild 12 [some (.ref 42), some (.int (iZ k)), some (.int (iZ b)), some (.int (iZ i))] [] (KF Kd, zi J1, zj P1, RF Rd, n, s0) Q0 := by
      intro m12
      induction m12 using Nat.strongRecOn with
      | ind m12 ih12 =>
        intro i b J1 P1 hm12 hi hil hb hO hP
        refine z_iload_n dX9_isChild_12 rfl rfl ?_
        refine z_iload_n dX9_isChild_13 rfl rfl ?_
        refine c_icmp_gt (tgt := 32) dX9_isChild_14 (by decide) (by omega) (by omega) (fun h14 => ?_) (fun h14 => ?_)
        · refine z_iload_n dX9_isChild_32 rfl rfl ?_
          refine c_zreturn dX9_isChild_33 rfl (by rcases hb with h | h <;> (have := h.1; omega)) ?_
          subst hQ0; refine ⟨_, _, b, rfl, rfl, ?_, hO, hP⟩
          rcases hb with ⟨h1, h2, rest1, h3, h4, h5⟩ | ⟨h1, h2⟩
          · first
            | (exfalso; omega)
            | (left
               refine ⟨h1, h2, ?_⟩
               rcases h5 with h5 | ⟨x, h5, h6⟩
               · exfalso; omega
               · exact ⟨x, rest1, by rw [show k.toNat = i.toNat - 1 by omega]; exact h5, by rw [show k.toNat + 1 = i.toNat by omega]; exact h3, h4, h6⟩)
          · exact Or.inr ⟨h1, h2⟩
        · refine z_iload_n dX9_isChild_17 rfl rfl ?_
          refine c_if_eq (tgt := 32) dX9_isChild_18 (by decide) (by rcases hb with h | h <;> (have := h.1; omega)) (fun h18 => ?_) (fun h18 => ?_)
          · refine z_iload_n dX9_isChild_32 rfl rfl ?_
            refine c_zreturn dX9_isChild_33 rfl (by rcases hb with h | h <;> (have := h.1; omega)) ?_
            subst hQ0; refine ⟨_, _, b, rfl, rfl, ?_, hO, hP⟩
            rcases hb with ⟨h1, h2, rest1, h3, h4, h5⟩ | ⟨h1, h2⟩
            · first
              | (exfalso; omega)
              | (left
                 refine ⟨h1, h2, ?_⟩
                 rcases h5 with h5 | ⟨x, h5, h6⟩
                 · exfalso; omega
                 · exact ⟨x, rest1, by rw [show k.toNat = i.toNat - 1 by omega]; exact h5, by rw [show k.toNat + 1 = i.toNat by omega]; exact h3, h4, h6⟩)
            · exact Or.inr ⟨h1, h2⟩
          · obtain ⟨hb1, hk0, rest1, hdr, hS1, hpv⟩ := hb.resolve_right (fun z => by have := z.1; omega)
            have hil2 : i ≤ ((kidF nl E t rest).length : Int) := by rcases hpv with h | ⟨x, h, _⟩; omega; (have := (List.getElem?_eq_some_iff.mp h).1; omega)
            refine z_aload_n dX9_isChild_21 rfl rfl ?_
            refine z_callv (N := MX9_nextChild) (ci := 9) (nas := 0) (as := []) dX9_isChild_22 w_1122 w_1119 w_1121 ws_43 w_8 (by decide +kernel) rfl rfl rfl (by decide) (Nat.le_of_ble_eq_true rfl) (by decide) (by decide) (ZC.mono (cMX9_nextChild hS1 (Par_off hPar hO)) ?_)
            rintro _ _ ⟨J2, P2, b2, rfl, rfl, hb2, hO2, hPo2⟩
            refine z_istore_n dX9_isChild_25 rfl (by decide) rfl ?_
            refine c_iinc dX9_isChild_26 rfl (by decide) rfl ?_
            refine z_goto (tgt := 12) dX9_isChild_29 (by decide) ?_
            exact Z.fg2 (ih12 _ (by omega) _ _ _ _ rfl (by omega) (by omega) (kid_step hi.1 (by omega) hk0 hdr hb2) (offK_trans hO hO2) (offP_trans hP hPo2)) (zs1 rfl (zs1 rfl (zs1 rfl (zs1 rfl zs0))))
    exact Z.fg2 (L12 _ _ _ _ _ rfl (by omega) (by omega) (by first | exact Or.inr ⟨rfl, by omega⟩ | exact Or.inl ⟨rfl, by omega, rest, by simp, hS, Or.inl rfl⟩) (offK_refl J) (fun _ _ _ _ => rfl)) (zs1 rfl (zs1 rfl (zs1 rfl (zs1 rfl zs0))))
  · refine c_iconst dX9_isChild_4 ?_
    refine z_goto (tgt := 9) dX9_isChild_5 (by decide) ?_
    refine z_istore_n dX9_isChild_9 rfl (by decide) rfl ?_
    refine c_iconst dX9_isChild_10 ?_
    refine z_istore_n dX9_isChild_11 rfl (by decide) rfl ?_
    have L12 : ∀ (m12 : Nat), ∀ (i b : Int) (J1 P1 : Nat → Nat → Int), (k + 1 - i).toNat = m12 → (0 ≤ i ∧ (i ≤ k + 1 ∨ i = 0)) → (i ≤ ((kidF nl E t rest).length : Int) + 1) → ((b = 1 ∧ 0 ≤ k ∧ ∃ rest1, (kidF nl E t rest).drop i.toNat = kidF nl E t rest1 ∧ RowSt J1 rest1 ∧ (i.toNat = 0 ∨ ∃ x, (kidF nl E t rest)[i.toNat - 1]? = some x ∧ KidNew J1 nl E t x)) ∨ (b = 0 ∧ ¬ (0 ≤ k ∧ k < ((kidF nl E t rest).length : Int)))) → (offK J J1) → (offP P P1) → Z g l MX9_isChild 12 [some (.ref 42), some (.int (iZ k)), some (.int (iZ b)), some (.int (iZ i))] [] (KF Kd, zi J1, zj P1, RF Rd, n, s0) Q0 := by
      intro m12
      induction m12 using Nat.strongRecOn with
      | ind m12 ih12 =>
        intro i b J1 P1 hm12 hi hil hb hO hP
        refine z_iload_n dX9_isChild_12 rfl rfl ?_
        refine z_iload_n dX9_isChild_13 rfl rfl ?_
        refine c_icmp_gt (tgt := 32) dX9_isChild_14 (by decide) (by omega) (by omega) (fun h14 => ?_) (fun h14 => ?_)
        · refine z_iload_n dX9_isChild_32 rfl rfl ?_
          refine c_zreturn dX9_isChild_33 rfl (by rcases hb with h | h <;> (have := h.1; omega)) ?_
          subst hQ0; refine ⟨_, _, b, rfl, rfl, ?_, hO, hP⟩
          rcases hb with ⟨h1, h2, rest1, h3, h4, h5⟩ | ⟨h1, h2⟩
          · first
            | (exfalso; omega)
            | (left
               refine ⟨h1, h2, ?_⟩
               rcases h5 with h5 | ⟨x, h5, h6⟩
               · exfalso; omega
               · exact ⟨x, rest1, by rw [show k.toNat = i.toNat - 1 by omega]; exact h5, by rw [show k.toNat + 1 = i.toNat by omega]; exact h3, h4, h6⟩)
          · exact Or.inr ⟨h1, h2⟩
        · refine z_iload_n dX9_isChild_17 rfl rfl ?_
          refine c_if_eq (tgt := 32) dX9_isChild_18 (by decide) (by rcases hb with h | h <;> (have := h.1; omega)) (fun h18 => ?_) (fun h18 => ?_)
          · refine z_iload_n dX9_isChild_32 rfl rfl ?_
            refine c_zreturn dX9_isChild_33 rfl (by rcases hb with h | h <;> (have := h.1; omega)) ?_
            subst hQ0; refine ⟨_, _, b, rfl, rfl, ?_, hO, hP⟩
            rcases hb with ⟨h1, h2, rest1, h3, h4, h5⟩ | ⟨h1, h2⟩
            · first
              | (exfalso; omega)
              | (left
                 refine ⟨h1, h2, ?_⟩
                 rcases h5 with h5 | ⟨x, h5, h6⟩
                 · exfalso; omega
                 · exact ⟨x, rest1, by rw [show k.toNat = i.toNat - 1 by omega]; exact h5, by rw [show k.toNat + 1 = i.toNat by omega]; exact h3, h4, h6⟩)
            · exact Or.inr ⟨h1, h2⟩
          · obtain ⟨hb1, hk0, rest1, hdr, hS1, hpv⟩ := hb.resolve_right (fun z => by have := z.1; omega)
            have hil2 : i ≤ ((kidF nl E t rest).length : Int) := by rcases hpv with h | ⟨x, h, _⟩; omega; (have := (List.getElem?_eq_some_iff.mp h).1; omega)
            refine z_aload_n dX9_isChild_21 rfl rfl ?_
            refine z_callv (N := MX9_nextChild) (ci := 9) (nas := 0) (as := []) dX9_isChild_22 w_1122 w_1119 w_1121 ws_43 w_8 (by decide +kernel) rfl rfl rfl (by decide) (Nat.le_of_ble_eq_true rfl) (by decide) (by decide) (ZC.mono (cMX9_nextChild hS1 (Par_off hPar hO)) ?_)
            rintro _ _ ⟨J2, P2, b2, rfl, rfl, hb2, hO2, hPo2⟩
            refine z_istore_n dX9_isChild_25 rfl (by decide) rfl ?_
            refine c_iinc dX9_isChild_26 rfl (by decide) rfl ?_
            refine z_goto (tgt := 12) dX9_isChild_29 (by decide) ?_
            exact Z.fg2 (ih12 _ (by omega) _ _ _ _ rfl (by omega) (by omega) (kid_step hi.1 (by omega) hk0 hdr hb2) (offK_trans hO hO2) (offP_trans hP hPo2)) (zs1 rfl (zs1 rfl (zs1 rfl (zs1 rfl zs0))))
    exact Z.fg2 (L12 _ _ _ _ _ rfl (by omega) (by omega) (by first | exact Or.inr ⟨rfl, by omega⟩ | exact Or.inl ⟨rfl, by omega, rest, by simp, hS, Or.inl rfl⟩) (offK_refl J) (fun _ _ _ _ => rfl)) (zs1 rfl (zs1 rfl (zs1 rfl (zs1 rfl zs0))))
set_option maxHeartbeats 4000000 in
set_option maxRecDepth 100000 in
theorem cMX9_beginChildren {p : Int} (hp : 0 ≤ p ∧ p < 72) (h1 : 1 ≤ J 44 p.toNat) (hF : okF (J 44 p.toNat) (eE J p)) : ZC g l MX9_beginChildren [.ref 42, .int (iZ p)] (KF Kd, zi J, zj P, RF Rd, n, s0) (fun rr hh => ∃ J' P', hh = (KF Kd, zi J', zj P', RF Rd, n, s0) ∧ rr = some (.int (iZ (grow (J 44 p.toNat) (eE J p)))) ∧ pq J J' ∧ pp P P' ∧ (grow (J 44 p.toNat) (eE J p) = 0 → RowSt J' (rAll (bndC (J 44 p.toNat) (eE J p) (truF (J 44 p.toNat) (eE J p)) 0) (bndC (J 44 p.toNat) (eE J p) (truF (J 44 p.toNat) (eE J p)) 1) (bndC (J 44 p.toNat) (eE J p) (truF (J 44 p.toNat) (eE J p)) 2)) ∧ Par J' p (J 44 p.toNat) (eE J p) (truF (J 44 p.toNat) (eE J p)))) := by
  refine ZC.of (by decide) (Nat.le_of_ble_eq_true rfl) ?_
  generalize hQ0 : (fun rr hh => ∃ J' P', hh = (KF Kd, zi J', zj P', RF Rd, n, s0) ∧ rr = some (.int (iZ (grow (J 44 p.toNat) (eE J p)))) ∧ pq J J' ∧ pp P P' ∧ (grow (J 44 p.toNat) (eE J p) = 0 → RowSt J' (rAll (bndC (J 44 p.toNat) (eE J p) (truF (J 44 p.toNat) (eE J p)) 0) (bndC (J 44 p.toNat) (eE J p) (truF (J 44 p.toNat) (eE J p)) 1) (bndC (J 44 p.toNat) (eE J p) (truF (J 44 p.toNat) (eE J p)) 2)) ∧ Par J' p (J 44 p.toNat) (eE J p) (truF (J 44 p.toNat) (eE J p))) : Option Value → ZH → Prop) = Q0
  show Z g l MX9_beginChildren 0 [some (.ref 42), some (.int (iZ p)), none, none, none, none] [] (KF Kd, zi J, zj P, RF Rd, n, s0) Q0
  have h4 := hF.1
  have htb := truF_bd (J 44 p.toNat) (eE J p)
  refine z_aload_n dX9_beginChildren_0 rfl rfl ?_
  refine z_aload_n dX9_beginChildren_1 rfl rfl ?_
  refine z_iload_n dX9_beginChildren_2 rfl rfl ?_
  refine z_callv (N := MX9_truantOf) (ci := 9) (nas := 1) (as := [_]) dX9_beginChildren_3 w_1047 w_1044 w_1046 ws_35 w_8 (by decide +kernel) rfl rfl rfl (by decide) (Nat.le_of_ble_eq_true rfl) (by decide) (by decide) (ZC.mono (cMX9_truantOf (by omega) h1 hF) ?_)
  rintro _ _ ⟨rfl, J2, P2, rfl, hC, hO, hPo⟩
  refine c_putI (ci := 9) (kf := 23) dX9_beginChildren_6 rfl (by decide) (by decide) rfl (by decide) w_799 ?_
  refine z_aload_n dX9_beginChildren_9 rfl rfl ?_
  refine c_getI (ci := 9) (kf := 23) dX9_beginChildren_10 rfl (by decide) (by decide) rfl w_799 ?_
  rw [zz]
  refine c_if_ne (tgt := 19) dX9_beginChildren_13 (by decide) (by omega) (fun h13 => ?_) (fun h13 => ?_)
  · refine z_aload_n dX9_beginChildren_19 rfl rfl ?_
    refine z_getR (ci := 9) (kf := 1) dX9_beginChildren_20 rfl (by decide) (by decide) rfl w_777 rfl ?_
    refine z_iload_n dX9_beginChildren_23 rfl rfl ?_
    refine c_iald dX9_beginChildren_24 rfl (by omega) (by decide) ?_
    rw [zzr (by decide), hO.1 44 (by decide) (by decide) (by decide)]
    refine z_istore_n dX9_beginChildren_25 rfl (by decide) rfl ?_
    refine z_iload_n dX9_beginChildren_26 rfl rfl ?_
    refine c_iconst dX9_beginChildren_27 ?_
    refine c_icmp_ne (tgt := 34) dX9_beginChildren_28 (by decide) (by omega) (by omega) (fun h28 => ?_) (fun h28 => ?_)
    · refine z_aload_n dX9_beginChildren_34 rfl rfl ?_
      refine z_iload_n dX9_beginChildren_35 rfl rfl ?_
      refine c_putI (ci := 9) (kf := 22) dX9_beginChildren_36 rfl (by decide) (by decide) rfl (by decide) w_798 ?_
      refine z_aload_n dX9_beginChildren_39 rfl rfl ?_
      refine c_iconst dX9_beginChildren_40 ?_
      refine c_putZ (ci := 9) (kf := 26) dX9_beginChildren_41 rfl (by decide) (by decide) rfl (by decide) (by omega) w_802 ?_
      refine c_iconst dX9_beginChildren_44 ?_
      refine z_istore_n dX9_beginChildren_45 rfl (by decide) rfl ?_
      have L46 : ∀ (m46 : Nat), ∀ (i : Int) (J1 : Nat → Nat → Int), (3 - i).toNat = m46 → (0 ≤ i ∧ i ≤ 3) → (∀ q : Nat, (q : Int) < i → J1 57 q = bndC (J 44 p.toNat) (eE J p) (truF (J 44 p.toNat) (eE J p)) q ∧ J1 58 q = bndC (J 44 p.toNat) (eE J p) (truF (J 44 p.toNat) (eE J p)) q) → (∀ a, a ≠ 57 → a ≠ 58 → J1 a = (zup (zup (zup J2 42 23 (truF (J 44 p.toNat) (eE J p))) 42 22 p) 42 26 1) a) → Z g l MX9_beginChildren 46 [some (.ref 42), some (.int (iZ p)), some (.int (iZ (J 44 p.toNat))), some (.int (iZ i)), none, none] [] (KF Kd, zi J1, zj P2, RF Rd, n, s0) Q0 := by
        intro m46
        induction m46 using Nat.strongRecOn with
        | ind m46 ih46 =>
          intro i J1 hm46 hi hb hoff
          refine z_iload_n dX9_beginChildren_46 rfl rfl ?_
          refine c_iconst dX9_beginChildren_47 ?_
          refine c_icmp_ge (tgt := 120) dX9_beginChildren_48 (by decide) (by omega) (by omega) (fun h48 => ?_) (fun h48 => ?_)
          · refine c_iconst dX9_beginChildren_120 ?_
            refine c_ireturn dX9_beginChildren_121 rfl ?_
            subst hQ0; refine ⟨_, _, rfl, ?_, pq_trans (pq_offC hO) (pq_bnd hoff), pp_offP hPo, fun z => ⟨?_, ?_⟩⟩
            · unfold grow; rw [if_neg (by omega), if_neg (by omega)]
            · have b0 := hb 0 (by omega)
              have b1 := hb 1 (by omega)
              have b2 := hb 2 (by omega)
              have c0 := bndC_bd (J 44 p.toNat) (eE J p) (truF (J 44 p.toNat) (eE J p)) 0
              have c1 := bndC_bd (J 44 p.toNat) (eE J p) (truF (J 44 p.toNat) (eE J p)) 1
              have c2 := bndC_bd (J 44 p.toNat) (eE J p) (truF (J 44 p.toNat) (eE J p)) 2
              refine ⟨fun q hq => ?_, Or.inl ⟨by rw [hoff 42 (by decide) (by decide), zz], ?_⟩⟩
              · have bq := hb q (by omega)
                have cq := bndC_bd (J 44 p.toNat) (eE J p) (truF (J 44 p.toNat) (eE J p)) q
                rw [bq.1, bq.2]; omega
              · rw [b0.1, b0.2, b1.1, b1.2, b2.1, b2.2]; exact rAll_cons c0.1 c1.1 c2.1
            · refine ⟨by rw [hoff 42 (by decide) (by decide), zzi (by decide), zz], hp, ?_, by omega, fun k hk => ?_, by rw [hoff 42 (by decide) (by decide), zzi (by decide), zzi (by decide), zz], htb, hF.2.1.1⟩
              · rw [hoff 44 (by decide) (by decide), zup_ne (by decide), zup_ne (by decide), zup_ne (by decide), hO.1 44 (by decide) (by decide) (by decide)]
              · rw [hoff 43 (by decide) (by decide), zup_ne (by decide), zup_ne (by decide), zup_ne (by decide), hO.1 43 (by decide) (by decide) (by decide)]; rfl
          · refine z_iload_n dX9_beginChildren_51 rfl rfl ?_
            refine z_iload_n dX9_beginChildren_52 rfl rfl ?_
            refine c_icmp_ge (tgt := 76) dX9_beginChildren_53 (by decide) (by omega) (by omega) (fun h53 => ?_) (fun h53 => ?_)
            · refine c_lconst0 dX9_beginChildren_76 ?_
              refine z_lstore dX9_beginChildren_77 (by decide) rfl ?_
              refine z_aload_n dX9_beginChildren_79 rfl rfl ?_
              refine z_getR (ci := 9) (kf := 24) dX9_beginChildren_80 rfl (by decide) (by decide) rfl w_800 rfl ?_
              refine z_iload_n dX9_beginChildren_83 rfl rfl ?_
              refine z_lload dX9_beginChildren_84 rfl ?_
              refine c_ldc2 (z := 99) dX9_beginChildren_86 w_886 (by decide) ?_
              refine c_lif_le (tgt := 98) dX9_beginChildren_89 dX9_beginChildren_90 (by decide) (by omega) (by omega) (fun h89 => ?_) (fun h89 => ?_)
              · refine z_lload dX9_beginChildren_98 rfl ?_
                refine c_l2i dX9_beginChildren_100 ?_
                skip
                refine c_iast dX9_beginChildren_101 rfl (by omega) (by decide) ?_
                refine z_aload_n dX9_beginChildren_102 rfl rfl ?_
                refine z_getR (ci := 9) (kf := 25) dX9_beginChildren_103 rfl (by decide) (by decide) rfl w_801 rfl ?_
                refine z_iload_n dX9_beginChildren_106 rfl rfl ?_
                refine z_aload_n dX9_beginChildren_107 rfl rfl ?_
                refine z_getR (ci := 9) (kf := 24) dX9_beginChildren_108 rfl (by decide) (by decide) rfl w_800 rfl ?_
                refine z_iload_n dX9_beginChildren_111 rfl rfl ?_
                refine c_iald dX9_beginChildren_112 rfl (by omega) (by decide) ?_
                rw [zup_set1, if_pos rfl]
                refine c_iast dX9_beginChildren_113 rfl (by omega) (by decide) ?_
                refine c_iinc dX9_beginChildren_114 rfl (by decide) rfl ?_
                refine z_goto (tgt := 46) dX9_beginChildren_117 (by decide) ?_
                exact Z.fg2 (ih46 _ (by omega) _ _ rfl (by omega) (bnd_step (by omega) hb (by unfold bndC; repeat (first | rw [if_pos (by omega)] | rw [if_neg (by omega)]))) (fun a a1 a2 => by rw [zup_ne a2, zup_ne a1]; exact hoff a a1 a2)) (zs1 rfl (zs1 rfl (zs1 rfl (zs1 rfl (zsn (zsn zs0))))))
              · refine c_bipush dX9_beginChildren_93 (by decide) ?_
                refine z_goto (tgt := 101) dX9_beginChildren_95 (by decide) ?_
                skip
                refine c_iast dX9_beginChildren_101 rfl (by omega) (by decide) ?_
                refine z_aload_n dX9_beginChildren_102 rfl rfl ?_
                refine z_getR (ci := 9) (kf := 25) dX9_beginChildren_103 rfl (by decide) (by decide) rfl w_801 rfl ?_
                refine z_iload_n dX9_beginChildren_106 rfl rfl ?_
                refine z_aload_n dX9_beginChildren_107 rfl rfl ?_
                refine z_getR (ci := 9) (kf := 24) dX9_beginChildren_108 rfl (by decide) (by decide) rfl w_800 rfl ?_
                refine z_iload_n dX9_beginChildren_111 rfl rfl ?_
                refine c_iald dX9_beginChildren_112 rfl (by omega) (by decide) ?_
                rw [zup_set1, if_pos rfl]
                refine c_iast dX9_beginChildren_113 rfl (by omega) (by decide) ?_
                refine c_iinc dX9_beginChildren_114 rfl (by decide) rfl ?_
                refine z_goto (tgt := 46) dX9_beginChildren_117 (by decide) ?_
                exact Z.fg2 (ih46 _ (by omega) _ _ rfl (by omega) (bnd_step (by omega) hb (by unfold bndC; repeat (first | rw [if_pos (by omega)] | rw [if_neg (by omega)]))) (fun a a1 a2 => by rw [zup_ne a2, zup_ne a1]; exact hoff a a1 a2)) (zs1 rfl (zs1 rfl (zs1 rfl (zs1 rfl (zsn (zsn zs0))))))
            · have e43 : J1 43 (16 * p + 4 * i + i).toNat = (eE J p) (5 * i.toNat) := by rw [hoff 43 (by decide) (by decide), zup_ne (by decide), zup_ne (by decide), zup_ne (by decide), hO.1 43 (by decide) (by decide) (by decide)]; unfold eE; congr 1; omega
              have e23 : J1 42 23 = (truF (J 44 p.toNat) (eE J p)) := by rw [hoff 42 (by decide) (by decide), zzi (by decide), zzi (by decide), zz]
              have hen := hF.2.1.1 (5 * i.toNat) (by omega)
              have hen2 := diag_nn h1 hF (i := i.toNat) (by omega)
              have hmn : 0 ≤ (eE J p) (5 * i.toNat) * (truF (J 44 p.toNat) (eE J p)) := Int.mul_nonneg hen2 htb.1
              have hmb := mul_bd (a := (eE J p) (5 * i.toNat)) (b := (truF (J 44 p.toNat) (eE J p))) (A := 99) (B := 100) (by omega) (by omega) (by omega) (by omega)
              have hrq := rootQ_bd ((eE J p) (5 * i.toNat) * (truF (J 44 p.toNat) (eE J p)))
              refine z_aload_n dX9_beginChildren_56 rfl rfl ?_
              refine z_iload_n dX9_beginChildren_57 rfl rfl ?_
              refine z_iload_n dX9_beginChildren_58 rfl rfl ?_
              refine z_iload_n dX9_beginChildren_59 rfl rfl ?_
              refine z_callv (N := MX9_entryAt) (ci := 9) (nas := 3) (as := [_, _, _]) dX9_beginChildren_60 w_925 w_922 w_924 ws_25 w_8 (by decide +kernel) rfl rfl rfl (by decide) (Nat.le_of_ble_eq_true rfl) (by decide) (by decide) (ZC.mono (cMX9_entryAt (by omega)) ?_)
              rintro _ _ ⟨rfl, rfl⟩
              rw [e43]
              refine c_i2l dX9_beginChildren_63 (by omega) ?_
              refine z_aload_n dX9_beginChildren_64 rfl rfl ?_
              refine c_getI (ci := 9) (kf := 23) dX9_beginChildren_65 rfl (by decide) (by decide) rfl w_799 ?_
              rw [e23]
              refine c_i2l dX9_beginChildren_68 (by omega) ?_
              refine c_lmul dX9_beginChildren_69 ?_
              refine z_calls (N := MX9_root) (nas := 1) (as := [_]) dX9_beginChildren_70 w_933 w_931 w_932 w_8 (by decide +kernel) rfl rfl (Nat.le_of_ble_eq_true rfl) (by decide) (by decide) (ZC.mono (cMX9_root (by omega)) ?_)
              rintro _ _ ⟨rfl, rfl⟩
              refine z_goto (tgt := 77) dX9_beginChildren_73 (by decide) ?_
              refine z_lstore dX9_beginChildren_77 (by decide) rfl ?_
              refine z_aload_n dX9_beginChildren_79 rfl rfl ?_
              refine z_getR (ci := 9) (kf := 24) dX9_beginChildren_80 rfl (by decide) (by decide) rfl w_800 rfl ?_
              refine z_iload_n dX9_beginChildren_83 rfl rfl ?_
              refine z_lload dX9_beginChildren_84 rfl ?_
              refine c_ldc2 (z := 99) dX9_beginChildren_86 w_886 (by decide) ?_
              refine c_lif_le (tgt := 98) dX9_beginChildren_89 dX9_beginChildren_90 (by decide) (by omega) (by omega) (fun h89 => ?_) (fun h89 => ?_)
              · refine z_lload dX9_beginChildren_98 rfl ?_
                refine c_l2i dX9_beginChildren_100 ?_
                skip
                refine c_iast dX9_beginChildren_101 rfl (by omega) (by decide) ?_
                refine z_aload_n dX9_beginChildren_102 rfl rfl ?_
                refine z_getR (ci := 9) (kf := 25) dX9_beginChildren_103 rfl (by decide) (by decide) rfl w_801 rfl ?_
                refine z_iload_n dX9_beginChildren_106 rfl rfl ?_
                refine z_aload_n dX9_beginChildren_107 rfl rfl ?_
                refine z_getR (ci := 9) (kf := 24) dX9_beginChildren_108 rfl (by decide) (by decide) rfl w_800 rfl ?_
                refine z_iload_n dX9_beginChildren_111 rfl rfl ?_
                refine c_iald dX9_beginChildren_112 rfl (by omega) (by decide) ?_
                rw [zup_set1, if_pos rfl]
                refine c_iast dX9_beginChildren_113 rfl (by omega) (by decide) ?_
                refine c_iinc dX9_beginChildren_114 rfl (by decide) rfl ?_
                refine z_goto (tgt := 46) dX9_beginChildren_117 (by decide) ?_
                exact Z.fg2 (ih46 _ (by omega) _ _ rfl (by omega) (bnd_step (by omega) hb (by unfold bndC; repeat (first | rw [if_pos (by omega)] | rw [if_neg (by omega)]))) (fun a a1 a2 => by rw [zup_ne a2, zup_ne a1]; exact hoff a a1 a2)) (zs1 rfl (zs1 rfl (zs1 rfl (zs1 rfl (zsn (zsn zs0))))))
              · refine c_bipush dX9_beginChildren_93 (by decide) ?_
                refine z_goto (tgt := 101) dX9_beginChildren_95 (by decide) ?_
                skip
                refine c_iast dX9_beginChildren_101 rfl (by omega) (by decide) ?_
                refine z_aload_n dX9_beginChildren_102 rfl rfl ?_
                refine z_getR (ci := 9) (kf := 25) dX9_beginChildren_103 rfl (by decide) (by decide) rfl w_801 rfl ?_
                refine z_iload_n dX9_beginChildren_106 rfl rfl ?_
                refine z_aload_n dX9_beginChildren_107 rfl rfl ?_
                refine z_getR (ci := 9) (kf := 24) dX9_beginChildren_108 rfl (by decide) (by decide) rfl w_800 rfl ?_
                refine z_iload_n dX9_beginChildren_111 rfl rfl ?_
                refine c_iald dX9_beginChildren_112 rfl (by omega) (by decide) ?_
                rw [zup_set1, if_pos rfl]
                refine c_iast dX9_beginChildren_113 rfl (by omega) (by decide) ?_
                refine c_iinc dX9_beginChildren_114 rfl (by decide) rfl ?_
                refine z_goto (tgt := 46) dX9_beginChildren_117 (by decide) ?_
                exact Z.fg2 (ih46 _ (by omega) _ _ rfl (by omega) (bnd_step (by omega) hb (by unfold bndC; repeat (first | rw [if_pos (by omega)] | rw [if_neg (by omega)]))) (fun a a1 a2 => by rw [zup_ne a2, zup_ne a1]; exact hoff a a1 a2)) (zs1 rfl (zs1 rfl (zs1 rfl (zs1 rfl (zsn (zsn zs0))))))
      exact Z.fg2 (L46 _ _ _ rfl (by omega) (fun q hq => absurd hq (by omega)) (fun _ _ _ => rfl)) (zs1 rfl (zs1 rfl (zs1 rfl (zs1 rfl (zsn (zsn zs0))))))
    · refine c_bipush dX9_beginChildren_31 (by decide) ?_
      refine c_ireturn dX9_beginChildren_33 rfl ?_
      subst hQ0; refine ⟨_, _, rfl, ?_, pq_trans (pq_offC hO) (pq_42 (fun q hq => by rw [zzi (by omega)]) (fun a ha => by rw [zup_ne ha])), pp_offP hPo, fun z => ?_⟩ <;> unfold grow at *
      · rw [if_neg (by omega), if_pos (by omega)]
      · rw [if_neg (by omega), if_pos (by omega)] at z; omega
  · refine c_bipush dX9_beginChildren_16 (by decide) ?_
    refine c_ireturn dX9_beginChildren_18 rfl ?_
    subst hQ0; refine ⟨_, _, rfl, ?_, pq_trans (pq_offC hO) (pq_42 (fun q hq => by rw [zzi (by omega)]) (fun a ha => by rw [zup_ne ha])), pp_offP hPo, fun z => ?_⟩ <;> unfold grow at *
    · rw [if_pos (by omega)]
    · rw [if_pos (by omega)] at z; omega
end Ref21
