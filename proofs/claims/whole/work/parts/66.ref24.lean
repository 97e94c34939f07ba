section Ref24
variable {g : ZG} {l : Launch} {Kd : ZK} {Rd : ZR} {n s0 : Nat} {J P : Nat → Nat → Int}
theorem j_size {v : Int} (hv : rI v) : ZC g l MX9_size [.int (iZ v)] (KF Kd, zi J, zj P, RF Rd, n, s0) (fun rr hh => rr = some (.int (iZ ((v.natAbs : Nat) : Int))) ∧ hh = (KF Kd, zi J, zj P, RF Rd, n, s0)) := ZC.mono (cMX9_size hv) (by
  rintro _ _ ⟨rfl, rfl⟩
  refine ⟨?_, rfl⟩
  rw [show (if v < 0 then -v else v) = ((v.natAbs : Nat) : Int) by split <;> omega])
theorem nstD_skip {nl : Int} {E : Nat → Int} {k : Nat} (h : ¬ stepB nl E (15 - k)) : nstD nl E (k + 1) = nstD nl E k := by rw [nstD, cif_neg h]
theorem nstD_hit {nl : Int} {E : Nat → Int} {k : Nat} (h : stepB nl E (15 - k)) : nstD nl E (k + 1) = ((15 - k : Nat) : Int) := by rw [nstD, cif_pos h]
theorem nstD_none {nl : Int} {E : Nat → Int} : ∀ k : Nat, k ≤ 16 → (∀ q, 16 - k ≤ q → q < 16 → ¬ stepB nl E q) → nstD nl E k = -1
  | 0, _, _ => rfl
  | k + 1, h, hn => by rw [nstD_skip (hn _ (by omega) (by omega))]; exact nstD_none k (by omega) (fun q a b => hn q (by omega) b)
theorem nstD_row {nl : Int} {E : Nat → Int} : ∀ (d k : Nat), k + d ≤ 16 → (∀ q, 16 - (k + d) ≤ q → q < 16 - k → ¬ stepB nl E q) → nstD nl E (k + d) = nstD nl E k
  | 0, _, _, _ => rfl
  | d + 1, k, h, hn => by rw [← Nat.add_assoc, nstD_skip (hn _ (by omega) (by omega))]; exact nstD_row d k (by omega) (fun q a b => hn q (by omega) b)
set_option maxHeartbeats 4000000 in
set_option maxRecDepth 100000 in
theorem cMX9_nextStep {nl : Int} {E : Nat → Int} (hn : 1 ≤ nl ∧ nl ≤ 4) (hE : entS E) : ZC g l MX9_nextStep [.ref 42] (KF Kd, zi (jput J 72 nl E), zj P, RF Rd, n, s0) (fun rr hh => rr = some (.int (iZ (nst nl E))) ∧ hh = (KF Kd, zi (jput J 72 nl E), zj P, RF Rd, n, s0)) := by
  refine ZC.of (by decide) (Nat.le_of_ble_eq_true rfl) ?_
  generalize hQ0 : (fun rr hh => rr = some (.int (iZ (nst nl E))) ∧ hh = (KF Kd, zi (jput J 72 nl E), zj P, RF Rd, n, s0) : Option Value → ZH → Prop) = Q0
  show Z g l MX9_nextStep 0 [some (.ref 42), none, none] [] (KF Kd, zi (jput J 72 nl E), zj P, RF Rd, n, s0) Q0
  refine c_iconst dX9_nextStep_0 ?_
  refine z_istore_n dX9_nextStep_1 rfl (by decide) rfl ?_
  have L2 : ∀ (m2 : Nat), ∀ (i : Int), (nl - i).toNat = m2 → (0 ≤ i ∧ i ≤ nl) → (nst nl E = nstD nl E (16 - 4 * i).toNat) → Z g l MX9_nextStep 2 [some (.ref 42), some (.int (iZ i)), none] [] (KF Kd, zi (jput J 72 nl E), zj P, RF Rd, n, s0) Q0 := by
    intro m2
    induction m2 using Nat.strongRecOn with
    | ind m2 ih2 =>
      intro i hm2 hi hS
      refine z_iload_n dX9_nextStep_2 rfl rfl ?_
      refine z_aload_n dX9_nextStep_3 rfl rfl ?_
      refine z_getR (ci := 9) (kf := 1) dX9_nextStep_4 rfl (by decide) (by decide) rfl w_777 rfl ?_
      refine c_bipush dX9_nextStep_7 (by decide) ?_
      refine c_iald dX9_nextStep_9 rfl (by omega) (by decide) ?_
      rw [show jput J 72 nl E 44 (72 : Int).toNat = nl from jput_let]
      refine c_icmp_ge (tgt := 73) dX9_nextStep_10 (by decide) (by omega) (by omega) (fun h10 => ?_) (fun h10 => ?_)
      · refine c_iconst dX9_nextStep_73 ?_
        refine c_ireturn dX9_nextStep_74 rfl ?_
        subst hQ0; refine ⟨?_, rfl⟩
        rw [hS, nstD_none _ (by omega) (fun q a b z => by have := z.1; omega)]
      · refine c_iconst dX9_nextStep_13 ?_
        refine z_istore_n dX9_nextStep_14 rfl (by decide) rfl ?_
        have L15 : ∀ (m15 : Nat), ∀ (j : Int), (nl - j).toNat = m15 → (0 ≤ j ∧ j ≤ nl) → (nst nl E = nstD nl E (16 - 4 * i - j).toNat) → Z g l MX9_nextStep 15 [some (.ref 42), some (.int (iZ i)), some (.int (iZ j))] [] (KF Kd, zi (jput J 72 nl E), zj P, RF Rd, n, s0) Q0 := by
          intro m15
          induction m15 using Nat.strongRecOn with
          | ind m15 ih15 =>
            intro j hm15 hj hS2
            refine z_iload_n dX9_nextStep_15 rfl rfl ?_
            refine z_aload_n dX9_nextStep_16 rfl rfl ?_
            refine z_getR (ci := 9) (kf := 1) dX9_nextStep_17 rfl (by decide) (by decide) rfl w_777 rfl ?_
            refine c_bipush dX9_nextStep_20 (by decide) ?_
            refine c_iald dX9_nextStep_22 rfl (by omega) (by decide) ?_
            rw [show jput J 72 nl E 44 (72 : Int).toNat = nl from jput_let]
            refine c_icmp_ge (tgt := 67) dX9_nextStep_23 (by decide) (by omega) (by omega) (fun h23 => ?_) (fun h23 => ?_)
            · refine c_iinc dX9_nextStep_67 rfl (by decide) rfl ?_
              refine z_goto (tgt := 2) dX9_nextStep_70 (by decide) ?_
              exact Z.fg2 (ih2 _ (by omega) _ rfl (by omega) (by rw [hS2, show (16 - 4 * i - j).toNat = (16 - 4 * (i + 1)).toNat + (4 - nl).toNat by omega]; exact nstD_row _ _ (by omega) (fun q a b z => by have := z.2.1; omega))) (zs1 rfl (zs1 rfl (zsn zs0)))
            · refine z_iload_n dX9_nextStep_26 rfl rfl ?_
              refine z_iload_n dX9_nextStep_27 rfl rfl ?_
              refine c_icmp_eq (tgt := 61) dX9_nextStep_28 (by decide) (by omega) (by omega) (fun h28 => ?_) (fun h28 => ?_)
              · refine c_iinc dX9_nextStep_61 rfl (by decide) rfl ?_
                refine z_goto (tgt := 15) dX9_nextStep_64 (by decide) ?_
                exact Z.fg2 (ih15 _ (by omega) _ rfl (by omega) (by rw [hS2, show (16 - 4 * i - j).toNat = (16 - 4 * i - (j + 1)).toNat + 1 by omega]; refine nstD_skip (fun z => ?_); obtain ⟨z1, z2, z3, z4⟩ := z; rw [show 15 - (16 - 4 * i - (j + 1)).toNat = 4 * i.toNat + j.toNat by omega] at z3 z4; rw [show 5 * ((4 * i.toNat + j.toNat) % 4) = 4 * j.toNat + j.toNat by omega] at z4; omega)) (zs1 rfl (zs1 rfl (zs1 rfl zs0)))
              · refine c_iconst dX9_nextStep_31 ?_
                refine z_aload_n dX9_nextStep_32 rfl rfl ?_
                refine c_bipush dX9_nextStep_33 (by decide) ?_
                refine z_iload_n dX9_nextStep_35 rfl rfl ?_
                refine z_iload_n dX9_nextStep_36 rfl rfl ?_
                refine z_callv (N := MX9_entryAt) (ci := 9) (nas := 3) (as := [_, _, _]) dX9_nextStep_37 w_925 w_922 w_924 ws_25 w_8 (by decide +kernel) rfl rfl rfl (by decide) (Nat.le_of_ble_eq_true rfl) (by decide) (by decide) (ZC.mono (j_entryAt (by omega) (by omega) (by omega)) ?_)
                rintro _ _ ⟨rfl, rfl⟩
                have e40 := hE (4 * i.toNat + j.toNat) (by omega)
                refine z_calls (N := MX9_size) (nas := 1) (as := [_]) dX9_nextStep_40 w_917 w_915 w_916 w_8 (by decide +kernel) rfl rfl (Nat.le_of_ble_eq_true rfl) (by decide) (by decide) (ZC.mono (j_size (by omega)) ?_)
                rintro _ _ ⟨rfl, rfl⟩
                refine c_imul dX9_nextStep_43 ?_
                refine z_aload_n dX9_nextStep_44 rfl rfl ?_
                refine c_bipush dX9_nextStep_45 (by decide) ?_
                refine z_iload_n dX9_nextStep_47 rfl rfl ?_
                refine z_iload_n dX9_nextStep_48 rfl rfl ?_
                refine z_callv (N := MX9_entryAt) (ci := 9) (nas := 3) (as := [_, _, _]) dX9_nextStep_49 w_925 w_922 w_924 ws_25 w_8 (by decide +kernel) rfl rfl rfl (by decide) (Nat.le_of_ble_eq_true rfl) (by decide) (by decide) (ZC.mono (j_entryAt (by omega) (by omega) (by omega)) ?_)
                rintro _ _ ⟨rfl, rfl⟩
                have e52 := hE (4 * j.toNat + j.toNat) (by omega)
                refine c_icmp_le (tgt := 61) dX9_nextStep_52 (by decide) (by omega) (by omega) (fun h52 => ?_) (fun h52 => ?_)
                · refine c_iinc dX9_nextStep_61 rfl (by decide) rfl ?_
                  refine z_goto (tgt := 15) dX9_nextStep_64 (by decide) ?_
                  exact Z.fg2 (ih15 _ (by omega) _ rfl (by omega) (by rw [hS2, show (16 - 4 * i - j).toNat = (16 - 4 * i - (j + 1)).toNat + 1 by omega]; refine nstD_skip (fun z => ?_); obtain ⟨z1, z2, z3, z4⟩ := z; rw [show 15 - (16 - 4 * i - (j + 1)).toNat = 4 * i.toNat + j.toNat by omega] at z3 z4; rw [show 5 * ((4 * i.toNat + j.toNat) % 4) = 4 * j.toNat + j.toNat by omega] at z4; omega)) (zs1 rfl (zs1 rfl (zs1 rfl zs0)))
                · refine c_iconst dX9_nextStep_55 ?_
                  refine z_iload_n dX9_nextStep_56 rfl rfl ?_
                  refine c_imul dX9_nextStep_57 ?_
                  refine z_iload_n dX9_nextStep_58 rfl rfl ?_
                  refine c_iadd dX9_nextStep_59 ?_
                  refine c_ireturn dX9_nextStep_60 rfl ?_
                  subst hQ0; refine ⟨?_, rfl⟩
                  rw [hS2, show (16 - 4 * i - j).toNat = (16 - 4 * i - (j + 1)).toNat + 1 by omega, nstD_hit (by rw [show 15 - (16 - 4 * i - (j + 1)).toNat = 4 * i.toNat + j.toNat by omega]; exact ⟨by omega, by omega, by omega, by rw [show 5 * ((4 * i.toNat + j.toNat) % 4) = 4 * j.toNat + j.toNat by omega]; omega⟩), show ((15 - (16 - 4 * i - (j + 1)).toNat : Nat) : Int) = 4 * i + j by omega]
        exact Z.fg2 (L15 _ _ rfl (by omega) (by rw [hS]; congr 1; omega)) (zs1 rfl (zs1 rfl (zs1 rfl zs0)))
  exact Z.fg2 (L2 _ _ rfl (by omega) rfl) (zs1 rfl (zs1 rfl (zsn zs0)))
set_option maxHeartbeats 4000000 in
set_option maxRecDepth 100000 in
theorem cMX9_reduce {s : Int} (hs : rI s) (hL : okJ J) : ZC g l MX9_reduce [.ref 42, .int (iZ s)] (KF Kd, zi J, zj P, RF Rd, n, s0) (fun rr hh => ∃ J' P', hh = (KF Kd, zi J', zj P', RF Rd, n, s0) ∧ rr = some (.int (iZ (aReduce J s).1)) ∧ pq (aReduce J s).2 J' ∧ pp P P') := by
  refine ZC.of (by decide) (Nat.le_of_ble_eq_true rfl) ?_
  generalize hQ0 : (fun rr hh => ∃ J' P', hh = (KF Kd, zi J', zj P', RF Rd, n, s0) ∧ rr = some (.int (iZ (aReduce J s).1)) ∧ pq (aReduce J s).2 J' ∧ pp P P' : Option Value → ZH → Prop) = Q0
  show Z g l MX9_reduce 0 [some (.ref 42), some (.int (iZ s)), none, none, none, none, none, none, none] [] (KF Kd, zi J, zj P, RF Rd, n, s0) Q0
  refine z_aload_n dX9_reduce_0 rfl rfl ?_
  refine z_iload_n dX9_reduce_1 rfl rfl ?_
  refine z_callv (N := MX9_hasForm) (ci := 9) (nas := 1) (as := [_]) dX9_reduce_2 w_948 w_945 w_947 ws_28 w_8 (by decide +kernel) rfl rfl rfl (by decide) (Nat.le_of_ble_eq_true rfl) (by decide) (by decide) (ZC.mono (b_hasForm (by omega) hL) ?_)
  rintro _ _ ⟨b2, rfl, rfl, hb2⟩
  refine c_if_ne (tgt := 10) dX9_reduce_5 (by decide) (by omega) (fun h5 => ?_) (fun h5 => ?_)
  · have g2 := (hb2.resolve_right (fun z => by have := z.1; omega)).2
    clear hb2
    have hl4 := okJ_let hL (q := s.toNat) (by omega)
    have hfo := okJ_form hL (s := s) (by omega) (by omega)
    have hgd := gdF_of (by omega) hfo
    refine z_aload_n dX9_reduce_10 rfl rfl ?_
    refine z_iload_n dX9_reduce_11 rfl rfl ?_
    refine c_bipush dX9_reduce_12 (by decide) ?_
    refine z_callv (N := MX9_copyTo) (ci := 9) (nas := 2) (as := [_, _]) dX9_reduce_14 w_940 w_937 w_939 ws_27 w_8 (by decide +kernel) rfl rfl rfl (by decide) (Nat.le_of_ble_eq_true rfl) (by decide) (by decide) (ZC.mono (j_copyTo (by omega) (by omega)) ?_)
    rintro _ _ ⟨rfl, rfl⟩
    refine c_iconst dX9_reduce_17 ?_
    refine z_istore_n dX9_reduce_18 rfl (by decide) rfl ?_
    refine z_aload_n dX9_reduce_19 rfl rfl ?_
    have hE20 := hfo.2.1.1
    refine z_callv (N := MX9_nextStep) (ci := 9) (nas := 0) (as := []) dX9_reduce_20 w_1011 w_1008 w_1010 ws_31 w_8 (by decide +kernel) rfl rfl rfl (by decide) (Nat.le_of_ble_eq_true rfl) (by decide) (by decide) (ZC.mono (cMX9_nextStep (by omega) hE20) ?_)
    rintro _ _ ⟨rfl, rfl⟩
    refine z_istore_n dX9_reduce_23 rfl (by decide) rfl ?_
    have L24 : ∀ (m24 : Nat), ∀ (st k : Int) (E1 : Nat → Int) (f : Nat), ((f : Int)).toNat = m24 → (0 ≤ st ∧ st + f ≤ 400) → (k = nst (J 44 s.toNat) E1) → (gdF (J 44 s.toNat) E1) → (dsum E1 ≤ f) → (redS (J 44 s.toNat) 400 (eE J s) = (st + (redS (J 44 s.toNat) f E1).1, (redS (J 44 s.toNat) f E1).2)) → Z g l MX9_reduce 24 [some (.ref 42), some (.int (iZ s)), some (.int (iZ st)), some (.int (iZ k)), none, none, none, none, none] [] (KF Kd, zi (jput J 72 (J 44 s.toNat) E1), zj P, RF Rd, n, s0) Q0 := by
      intro m24
      induction m24 using Nat.strongRecOn with
      | ind m24 ih24 =>
        intro st k E1 f hm24 hst hk hg hf hR
        refine z_iload_n dX9_reduce_24 rfl rfl ?_
        have hk9 : rI k := by
          have sp := nstD_spec (J 44 s.toNat) E1 16 (by omega)
          rw [hk]; unfold nst; rcases sp with sp | sp <;> omega
        refine c_if_lt (tgt := 115) dX9_reduce_25 (by decide) (by omega) (fun h25 => ?_) (fun h25 => ?_)
        · refine z_aload_n dX9_reduce_115 rfl rfl ?_
          refine z_iload_n dX9_reduce_116 rfl rfl ?_
          have hR117 := entS_rng hg.1
          have hds := detS_small (k := (J 44 s.toNat)) hg.1 hg.2.1 (by omega)
          have hrS := redS_bd (nl := (J 44 s.toNat)) (by omega) (by omega) 400 (eE J s) hgd
          have hnk : nst (J 44 s.toNat) E1 < 0 := by rw [← hk]; exact h25
          refine z_callv (N := MX9_comes) (ci := 9) (nas := 1) (as := [_]) dX9_reduce_117 w_910 w_907 w_909 ws_22 w_8 (by decide +kernel) rfl rfl rfl (by decide) (Nat.le_of_ble_eq_true rfl) (by decide) (by decide) (ZC.mono (cMX9_comes (by omega) (by omega) hR117) ?_)
          rintro _ _ ⟨J117, P117, r117, rfl, rfl, hr117, hpp117⟩
          have hr9 : rI r117 := by rcases hr117 with h | h <;> (have := h.2.1; omega)
          refine c_if_ge (tgt := 128) dX9_reduce_120 (by decide) (by omega) (fun h120 => ?_) (fun h120 => ?_)
          · refine z_iload_n dX9_reduce_128 rfl rfl ?_
            refine c_ireturn dX9_reduce_129 rfl ?_
            subst hQ0; refine ⟨_, _, rfl, ?_⟩; unfold aReduce; rw [cif_pos (by omega)]
            have hE0 : redS (J 44 s.toNat) f E1 = (0, E1) := by
              cases f with
              | zero => rfl
              | succ f => rw [redS, cif_pos hnk]
            rw [hR, hE0]; dsimp only; unfold aComes
            rcases hr117 with ⟨z1, z2, z3⟩ | ⟨z1, z2, z3⟩
            · rw [cif_pos z1]; subst z3; first | (refine ⟨?_, pq_jput pq_new, hpp117⟩; rw [Int.add_zero]; done) | (exfalso; have := z1.2.1; omega)
            · rw [cif_neg z1]; subst z3; first | (refine ⟨?_, pq_new, hpp117⟩; rfl; done) | (exfalso; omega)
          · refine c_bipush dX9_reduce_123 (by decide) ?_
            refine z_goto (tgt := 129) dX9_reduce_125 (by decide) ?_
            refine c_ireturn dX9_reduce_129 rfl ?_
            subst hQ0; refine ⟨_, _, rfl, ?_⟩; unfold aReduce; rw [cif_pos (by omega)]
            have hE0 : redS (J 44 s.toNat) f E1 = (0, E1) := by
              cases f with
              | zero => rfl
              | succ f => rw [redS, cif_pos hnk]
            rw [hR, hE0]; dsimp only; unfold aComes
            rcases hr117 with ⟨z1, z2, z3⟩ | ⟨z1, z2, z3⟩
            · rw [cif_pos z1]; subst z3; first | (refine ⟨?_, pq_jput pq_new, hpp117⟩; rw [Int.add_zero]; done) | (exfalso; have := z1.2.1; omega)
            · rw [cif_neg z1]; subst z3; first | (refine ⟨?_, pq_new, hpp117⟩; rfl; done) | (exfalso; omega)
        · have hsp := nstD_spec (J 44 s.toNat) E1 16 (by omega)
          have hq : 0 ≤ k ∧ k < 16 ∧ stepB (J 44 s.toNat) E1 k.toNat := by
            rw [hk]; rw [hk] at h25; unfold nst at *; rcases hsp with sp | sp
            · omega
            · exact ⟨by omega, sp.2⟩
          have hst := red_step (by omega) (by omega) hg (q := k.toNat) (by omega) hq.2.2
          have edv : k.tdiv 4 = ((k.toNat / 4 : Nat) : Int) := by rw [Int.tdiv_eq_ediv_of_nonneg (by omega)]; omega
          have emd : k.tmod 4 = ((k.toNat % 4 : Nat) : Int) := by rw [Int.tmod_eq_emod_of_nonneg (by omega)]; omega
          have hqs := hq.2.2
          unfold stepB at hqs
          refine z_iload_n dX9_reduce_28 rfl rfl ?_
          refine c_iconst dX9_reduce_29 ?_
          refine c_idiv dX9_reduce_30 (by omega) (by omega) (by omega) (by omega) ?_
          rw [edv]
          refine z_istore dX9_reduce_31 (by decide) rfl ?_
          refine z_iload_n dX9_reduce_33 rfl rfl ?_
          refine c_iconst dX9_reduce_34 ?_
          refine c_irem dX9_reduce_35 (by omega) (by omega) (by omega) (by omega) ?_
          rw [emd]
          generalize hi0 : ((k.toNat / 4 : Nat) : Int) = i
          generalize hj0 : ((k.toNat % 4 : Nat) : Int) = j
          refine z_istore dX9_reduce_36 (by decide) rfl ?_
          refine z_aload_n dX9_reduce_38 rfl rfl ?_
          refine c_bipush dX9_reduce_39 (by decide) ?_
          refine z_iload dX9_reduce_41 rfl ?_
          refine z_iload dX9_reduce_43 rfl ?_
          refine z_callv (N := MX9_entryAt) (ci := 9) (nas := 3) (as := [_, _, _]) dX9_reduce_45 w_925 w_922 w_924 ws_25 w_8 (by decide +kernel) rfl rfl rfl (by decide) (Nat.le_of_ble_eq_true rfl) (by decide) (by decide) (ZC.mono (j_entryAt (by omega) (by omega) (by omega)) ?_)
          rintro _ _ ⟨rfl, rfl⟩
          rw [show 4 * i.toNat + j.toNat = k.toNat by omega]
          have e48 := hg.1 k.toNat (by omega)
          refine z_istore dX9_reduce_48 (by decide) rfl ?_
          refine z_aload_n dX9_reduce_50 rfl rfl ?_
          refine c_bipush dX9_reduce_51 (by decide) ?_
          refine z_iload dX9_reduce_53 rfl ?_
          refine z_iload dX9_reduce_55 rfl ?_
          refine z_callv (N := MX9_entryAt) (ci := 9) (nas := 3) (as := [_, _, _]) dX9_reduce_57 w_925 w_922 w_924 ws_25 w_8 (by decide +kernel) rfl rfl rfl (by decide) (Nat.le_of_ble_eq_true rfl) (by decide) (by decide) (ZC.mono (j_entryAt (by omega) (by omega) (by omega)) ?_)
          rintro _ _ ⟨rfl, rfl⟩
          rw [show 4 * j.toNat + j.toNat = 5 * (k.toNat % 4) by omega]
          have e60 := hg.1 (5 * (k.toNat % 4)) (by omega)
          have e61 := hst.2.2.2.2
          refine z_istore dX9_reduce_60 (by decide) rfl ?_
          refine c_iconst dX9_reduce_62 ?_
          refine z_iload dX9_reduce_63 rfl ?_
          refine z_calls (N := MX9_size) (nas := 1) (as := [_]) dX9_reduce_65 w_917 w_915 w_916 w_8 (by decide +kernel) rfl rfl (Nat.le_of_ble_eq_true rfl) (by decide) (by decide) (ZC.mono (j_size (by omega)) ?_)
          rintro _ _ ⟨rfl, rfl⟩
          refine c_imul dX9_reduce_68 ?_
          refine z_iload dX9_reduce_69 rfl ?_
          refine c_iadd dX9_reduce_71 ?_
          refine c_iconst dX9_reduce_72 ?_
          refine c_isub dX9_reduce_73 ?_
          refine c_iconst dX9_reduce_74 ?_
          refine z_iload dX9_reduce_75 rfl ?_
          refine c_imul dX9_reduce_77 ?_
          refine c_idiv dX9_reduce_78 (by omega) (by omega) (by omega) (by omega) ?_
          refine z_istore dX9_reduce_79 (by decide) rfl ?_
          have L101 : ∀ (c : Int), (c = redC E1 k.toNat) → Z g l MX9_reduce 101 [some (.ref 42), some (.int (iZ s)), some (.int (iZ st)), some (.int (iZ k)), none, none, none, none, none] [.int (iZ c), .int (iZ j), .int (iZ i), .int (iZ 72), .ref 42] (KF Kd, zi (jput J 72 (J 44 s.toNat) E1), zj P, RF Rd, n, s0) Q0 := by
            intro c hc
            have hcE : chgE E1 (J 44 s.toNat).toNat i.toNat j.toNat c = red1 (J 44 s.toNat) E1 k.toNat := by
              unfold red1; rw [hc, show i.toNat = k.toNat / 4 by omega, show j.toNat = k.toNat % 4 by omega]
            refine z_callv (N := MX9_changeAt) (ci := 9) (nas := 4) (as := [_, _, _, _]) dX9_reduce_101 w_991 w_988 w_990 ws_30 w_8 (by decide +kernel) rfl rfl rfl (by decide) (Nat.le_of_ble_eq_true rfl) (by decide) (by decide) (ZC.mono (cMX9_changeAt (by omega) (by omega) (by omega) (by omega)) ?_)
            rintro _ _ ⟨rfl, rfl⟩
            rw [hcE]
            refine c_iinc dX9_reduce_104 rfl (by decide) rfl ?_
            refine z_aload_n dX9_reduce_107 rfl rfl ?_
            have hE108 := hst.1.1
            refine z_callv (N := MX9_nextStep) (ci := 9) (nas := 0) (as := []) dX9_reduce_108 w_1011 w_1008 w_1010 ws_31 w_8 (by decide +kernel) rfl rfl rfl (by decide) (Nat.le_of_ble_eq_true rfl) (by decide) (by decide) (ZC.mono (cMX9_nextStep (by omega) hE108) ?_)
            rintro _ _ ⟨rfl, rfl⟩
            refine z_istore_n dX9_reduce_111 rfl (by decide) rfl ?_
            refine z_goto (tgt := 24) dX9_reduce_112 (by decide) ?_
            exact Z.fg2 (ih24 _ (by have := gdF_diag (by omega) (by omega) hg; omega) _ _ _ (f - 1) rfl (by have := gdF_diag (by omega) (by omega) hg; omega) rfl hst.1 (by have := hst.2.1; omega) (by have hd := gdF_diag (by omega) (by omega) hg; obtain ⟨f2, rfl⟩ : ∃ f2, f = f2 + 1 := ⟨f - 1, by omega⟩; rw [hR, redS, cif_neg (by rw [← hk]; omega), Nat.add_sub_cancel, ← hk]; dsimp only; rw [show ∀ a b : Int, a + (b + 1) = a + 1 + b from fun a b => by omega])) (zs1 rfl (zs1 rfl (zs1 rfl (zs1 rfl (zsn (zsn (zsn (zsn (zsn zs0)))))))))
          refine z_aload_n dX9_reduce_81 rfl rfl ?_
          refine c_bipush dX9_reduce_82 (by decide) ?_
          refine z_iload dX9_reduce_84 rfl ?_
          refine z_iload dX9_reduce_86 rfl ?_
          refine z_iload dX9_reduce_88 rfl ?_
          refine c_if_ge (tgt := 98) dX9_reduce_90 (by decide) (by omega) (fun h90 => ?_) (fun h90 => ?_)
          · refine z_iload dX9_reduce_98 rfl ?_
            refine c_ineg dX9_reduce_100 ?_
            exact Z.fg2 (L101 _ (by unfold redC; first | rw [if_pos (by omega)] | rw [if_neg (by omega)])) (zs1 rfl (zs1 rfl (zs1 rfl (zs1 rfl (zsn (zsn (zsn (zsn (zsn zs0)))))))))
          · refine z_iload dX9_reduce_93 rfl ?_
            refine z_goto (tgt := 101) dX9_reduce_95 (by decide) ?_
            exact Z.fg2 (L101 _ (by unfold redC; first | rw [if_pos (by omega)] | rw [if_neg (by omega)])) (zs1 rfl (zs1 rfl (zs1 rfl (zs1 rfl (zsn (zsn (zsn (zsn (zsn zs0)))))))))
    exact Z.fg2 (L24 _ 0 _ _ 400 rfl (by omega) rfl hgd (by have := gdF_diag (by omega) (by omega) hgd; omega) (by rw [Int.zero_add])) (zs1 rfl (zs1 rfl (zs1 rfl (zs1 rfl (zsn (zsn (zsn (zsn (zsn zs0)))))))))
  · have g2 := (hb2.resolve_left (fun z => by have := z.1; omega)).2
    clear hb2
    refine c_iconst dX9_reduce_8 ?_
    refine c_ireturn dX9_reduce_9 rfl ?_
    subst hQ0; refine ⟨_, _, rfl, ?_⟩; unfold aReduce; rw [cif_neg (by omega)]; exact ⟨rfl, pq_refl _, pp_refl _⟩
end Ref24
