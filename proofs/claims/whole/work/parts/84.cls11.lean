section Cls11
variable {g : ZG} {l : Launch} {Kd : ZK} {Rd : ZR} {n s0 c : Nat} {A J P : Nat → Nat → Int}
theorem jc_step {B : Nat → Nat → Int} {q k p : Nat} {v w : Int} {y : Option Nat} (hp : p = 6 + q) (h : PL B Kd J Rd n (6 + k) y) : PL (zup (zup (jput B p (B 44 (6 + k)) (eE B (6 + k))) 45 q v) 46 q w) Kd J Rd n (6 + q) y := by
  subst hp
  rcases h with h | ⟨r, h1, h2⟩
  · exact Or.inl ⟨h.1, by rw [zzr (by decide), zzr (by decide), jput_let]; exact h.2⟩
  · refine Or.inr ⟨r, h1, h2.1, by rw [zzr (by decide), zzr (by decide), jput_let]; exact h2.2.1, fun m hm => ?_⟩
    rw [zzr (by decide), zzr (by decide), jput_in hm]; unfold eE
    rw [show (6 + (k : Int)).toNat = 6 + k by omega]; exact h2.2.2 m hm
theorem jc_ne {B : Nat → Nat → Int} {q p i : Nat} {v w nl : Int} {E : Nat → Int} {y : Option Nat} (hp : p ≠ 6 + q) (h : PL B Kd J Rd n (6 + q) y) : PL (zup (zup (jput B p nl E) 45 i v) 46 i w) Kd J Rd n (6 + q) y := by
  rcases h with h | ⟨r, h1, h2⟩
  · exact Or.inl ⟨h.1, by rw [zzr (by decide), zzr (by decide), jput_let_ne (Ne.symm hp)]; exact h.2⟩
  · refine Or.inr ⟨r, h1, h2.1, by rw [zzr (by decide), zzr (by decide), jput_let_ne (Ne.symm hp)]; exact h2.2.1, fun m hm => ?_⟩
    rw [zzr (by decide), zzr (by decide), jput_43 (by omega)]; exact h2.2.2 m hm
set_option maxHeartbeats 4000000 in
set_option maxRecDepth 100000 in
theorem cMX7_remove {x : Int} (hx : 0 ≤ x ∧ x < A 42 2) (hW : WD A c Kd J Rd n s0) : ZC g l MX7_remove [.ref 7, .int (iZ x)] (KF Kd, zi J, zj P, RF Rd, n, s0) (fun rr hh => rr = none ∧ ∃ (J' : Nat → Nat → Int) (Rd' : ZR), hh = (KF Kd, zi J', zj P, RF Rd', n, s0) ∧ WD (zup (jcut A x (A 42 2).toNat) 42 2 (cN (A 45) x (A 42 2).toNat)) c Kd J' Rd' n s0 ∧ J' 7 0 = (cN (A 45) x (A 42 2).toNat) ∧ cs J J') := by
  refine ZC.of (by decide) (Nat.le_of_ble_eq_true rfl) ?_
  generalize hQ0 : (fun rr hh => rr = none ∧ ∃ (J' : Nat → Nat → Int) (Rd' : ZR), hh = (KF Kd, zi J', zj P, RF Rd', n, s0) ∧ WD (zup (jcut A x (A 42 2).toNat) 42 2 (cN (A 45) x (A 42 2).toNat)) c Kd J' Rd' n s0 ∧ J' 7 0 = (cN (A 45) x (A 42 2).toNat) ∧ cs J J' : Option Value → ZH → Prop) = Q0
  show Z g l MX7_remove 0 [some (.ref 7), some (.int (iZ x)), none, none, none, none] [] (KF Kd, zi J, zj P, RF Rd, n, s0) Q0
  have hun := WD_un hW
  have h3a := hun.2.2.2.1
  have h3b := hun.2.2.2.2
  have hU := hun.2.2.1
  refine z_iload_n dX7_remove_0 rfl rfl ?_
  refine z_istore_n dX7_remove_1 rfl (by decide) rfl ?_
  refine z_aload_n dX7_remove_2 rfl rfl ?_
  refine z_getR (ci := 7) (kf := 4) dX7_remove_3 rfl (by decide) (by decide) rfl w_39 rfl ?_
  refine z_astore_n dX7_remove_6 rfl (by decide) rfl ?_
  refine c_iconst dX7_remove_7 ?_
  refine z_istore dX7_remove_8 (by decide) rfl ?_
  have L10 : ∀ (m10 : Nat), ∀ (k : Int) (J1 : Nat → Nat → Int), (x - k).toNat = m10 → (0 ≤ k ∧ k ≤ x) → (∀ q : Nat, (q : Int) < k → J1 11 q = q) → (∀ a, a ≠ 11 → J1 a = J a) → Z g l MX7_remove 10 [some (.ref 7), some (.int (iZ x)), some (.int (iZ x)), some (.ref 11), some (.int (iZ k)), none] [] (KF Kd, zi J1, zj P, RF Rd, n, s0) Q0 := by
    intro m10
    induction m10 using Nat.strongRecOn with
    | ind m10 ih10 =>
      intro k J1 hm10 hk hn ho
      refine z_iload dX7_remove_10 rfl ?_
      refine z_iload_n dX7_remove_12 rfl rfl ?_
      refine c_icmp_ge (tgt := 28) dX7_remove_13 (by decide) (by omega) (by omega) (fun h13 => ?_) (fun h13 => ?_)
      · refine z_iload_n dX7_remove_28 rfl rfl ?_
        refine z_istore dX7_remove_29 (by decide) rfl ?_
        have L31 : ∀ (m31 : Nat), ∀ (lf k : Int) (J1 : Nat → Nat → Int) (R1 : ZR), ((A 42 2) - k).toNat = m31 → (x ≤ k ∧ k ≤ (A 42 2)) → (lf = cN (A 45) x k.toNat) → (∀ q : Nat, (q : Int) < k → J1 11 q = nuC (A 45) x q) → (∀ q : Nat, (q : Int) < (A 42 2) → PL (jcut A x k.toNat) Kd J Rd n (6 + q) (R1 8 q) ∧ J1 9 q = (jcut A x k.toNat) 45 q ∧ J1 10 q = (jcut A x k.toNat) 46 q) → (∀ a, a ≠ 9 → a ≠ 10 → a ≠ 11 → J1 a = J a) → (∀ a, a ≠ 8 → R1 a = Rd a) → (∀ q, q < 30 → oF Kd n (R1 8 q)) → Z g l MX7_remove 31 [some (.ref 7), some (.int (iZ x)), some (.int (iZ lf)), some (.ref 11), some (.int (iZ k)), none] [] (KF Kd, zi J1, zj P, RF R1, n, s0) Q0 := by
          intro m31
          induction m31 using Nat.strongRecOn with
          | ind m31 ih31 =>
            intro lf k J1 R1 hm31 hk hl hn ht hoJ hoR hoF
            refine z_iload dX7_remove_31 rfl ?_
            refine z_aload_n dX7_remove_33 rfl rfl ?_
            refine c_getI (ci := 7) (kf := 0) dX7_remove_34 rfl (by decide) (by decide) rfl w_31 ?_
            rw [hoJ 7 (by decide) (by decide) (by decide), hun.1]
            refine c_icmp_ge (tgt := 137) dX7_remove_37 (by decide) (by omega) (by omega) (fun h37 => ?_) (fun h37 => ?_)
            · have cbe := cN_bd (un := A 45) (x := x) k.toNat
              refine z_aload_n dX7_remove_137 rfl rfl ?_
              refine z_iload_n dX7_remove_138 rfl rfl ?_
              refine z_callv (N := MX7_truncate) (ci := 7) (nas := 1) (as := [_]) dX7_remove_139 w_657 w_722 w_655 w_656 w_2 (by decide +kernel) rfl rfl rfl (by decide) (Nat.le_of_ble_eq_true rfl) (by decide) (by decide) (ZC.mono (cMX7_truncate (m := lf) (by omega)) ?_)
              rintro _ _ ⟨rfl, R9, rfl, hR9, hRo9⟩
              refine z_return dX7_remove_142 rfl ?_
              subst hQ0
              have ek : k = (A 42 2) := by omega
              subst ek
              have hJC := JC_of hW.2.2.2.1 hx (A 42 2).toNat (by omega)
              have cb := cN_bd (un := A 45) (x := x) (A 42 2).toNat
              obtain ⟨c1, c2, c3, c4, c5, c6, c7, c8⟩ := hJC
              have hO := hW.2.2.2.1.2.1
              have hT := WD_tree (A' := (zup (jcut A x (A 42 2).toNat) 42 2 (cN (A 45) x (A 42 2).toNat))) (J' := zup J1 7 0 lf) (Rd' := R9) hW (fun a a1 a2 a3 a4 a5 => by rw [zup_ne a1]; exact c1 a a2 a3 a4 a5) (fun q hq => by rw [zzi hq, c1 42 (by decide) (by decide) (by decide) (by decide)]) (fun q hq => by rw [zzr (by decide)]; exact c2 q hq) (fun q hq => by rw [zzr (by decide)]; exact c3 q hq)
                (fun a a1 a2 a3 a4 => by rw [zup_ne a1]; exact hoJ a a2 a3 a4) (fun a ha => by rw [hRo9 a ha]; exact hoR a ha)
                ⟨by rw [zz, zz, hl], fun q hq => by
                  rw [zz] at hq
                  have h1 := ht q (by omega)
                  rw [zzr (by decide), zzr (by decide), zzr (by decide), zzr (by decide), hR9, if_neg (by omega)]
                  refine ⟨?_, h1.2⟩
                  rcases h1.1 with g | ⟨r, g1, g2⟩
                  · exact Or.inl ⟨g.1, by rw [zzr (by decide)]; exact g.2⟩
                  · exact Or.inr ⟨r, g1, g2.1, by rw [zzr (by decide)]; exact g2.2.1, fun m hm => by rw [zzr (by decide)]; exact g2.2.2 m hm⟩⟩
                (fun q hq => by rw [hR9]; split; exact Or.inl rfl; exact hoF q hq)
                ⟨by unfold okJ at c5 ⊢; rw [zup_ne (show (44 : Nat) ≠ 42 by decide), zup_ne (show (43 : Nat) ≠ 42 by decide)]; exact c5, by
                  refine ⟨?_, ?_, ?_, fun q hq => ?_, fun q hq => ?_⟩
                  · rw [zz, zup_ne (show (45 : Nat) ≠ 42 by decide), zup_ne (show (46 : Nat) ≠ 42 by decide)]
                    exact ⟨by omega, by omega, fun z => (c7 0 (by omega)).1 rfl, fun q a b => (c7 q (by omega)).2 a, c8⟩
                  · rw [zzi (by decide), zup_ne (show (47 : Nat) ≠ 42 by decide), zup_ne (show (48 : Nat) ≠ 42 by decide), c1 42 (by decide) (by decide) (by decide) (by decide), c1 47 (by decide) (by decide) (by decide) (by decide), c1 48 (by decide) (by decide) (by decide) (by decide)]; exact hO.2.1
                  · rw [zzi (by decide), c1 42 (by decide) (by decide) (by decide) (by decide)]; exact hO.2.2.1
                  · rw [zz] at hq; rw [zzr (by decide)]; exact c6 q (by omega)
                  · rw [zzi (by decide), c1 42 (by decide) (by decide) (by decide) (by decide)] at hq
                    rw [zzr (by decide), c2 _ (by omega)]; exact hO.2.2.2.2 q hq⟩
              exact ⟨rfl, _, _, rfl, hT, by rw [zz, hl], fun a a1 a2 => by rw [zup_ne (by omega)]; exact hoJ a (by omega) (by omega) (by omega)⟩
            · have cb := cN_bd (un := A 45) (x := x) k.toNat
              have hJC := JC_of hW.2.2.2.1 hx k.toNat (by omega)
              have hta := hJC.2.2.2.1 k.toNat (by omega)
              have htk := ht k.toNat (by omega)
              have e9 : J1 9 k.toNat = A 45 k.toNat := htk.2.1.trans hta.1
              have L65 : ∀ (gd : Int), ((goes (A 45) x k.toNat = true → gd = 1) ∧ (goes (A 45) x k.toNat = false → gd = 0) ∧ (gd = 0 ∨ gd = 1)) → Z g l MX7_remove 65 [some (.ref 7), some (.int (iZ x)), some (.int (iZ lf)), some (.ref 11), some (.int (iZ k)), none] [.int (iZ gd)] (KF Kd, zi J1, zj P, RF R1, n, s0) Q0 := by
                intro gd hgd
                refine z_istore dX7_remove_65 (by decide) rfl ?_
                have L81 : ∀ (v : Int), (v = nuC (A 45) x k.toNat) → Z g l MX7_remove 81 [some (.ref 7), some (.int (iZ x)), some (.int (iZ lf)), some (.ref 11), some (.int (iZ k)), some (.int (iZ gd))] [.int (iZ v), .int (iZ k), .ref 11] (KF Kd, zi J1, zj P, RF R1, n, s0) Q0 := by
                  intro v hv
                  refine c_iast dX7_remove_81 rfl (by omega) (by decide) ?_
                  refine z_iload dX7_remove_82 rfl ?_
                  refine c_if_ne (tgt := 131) dX7_remove_84 (by decide) (by omega) (fun h84 => ?_) (fun h84 => ?_)
                  · have hgt : goes (A 45) x k.toNat = true := by
                      cases hc : goes (A 45) x k.toNat
                      · exfalso; have := hgd.2.1 hc; omega
                      · rfl
                    have ek1 : (k + 1).toNat = k.toNat + 1 := by omega
                    have hl2 : lf = cN (A 45) x (k + 1).toNat := by rw [ek1, cN_succ, hgt, hl]; simp
                    have hn2 : ∀ q : Nat, (q : Int) < k + 1 → zup J1 11 k.toNat v 11 q = nuC (A 45) x q := fun q hq => by
                      by_cases e : q = k.toNat
                      · subst e; rw [zz, hv]
                      · rw [zzi e]; exact hn q (by omega)
                    have ht2 : ∀ q : Nat, (q : Int) < A 42 2 → PL (jcut A x (k + 1).toNat) Kd J Rd n (6 + q) (R1 8 q) ∧ zup J1 11 k.toNat v 9 q = jcut A x (k + 1).toNat 45 q ∧ zup J1 11 k.toNat v 10 q = jcut A x (k + 1).toNat 46 q := fun q hq => by
                      rw [ek1, jcut_gone hgt, zzr (by decide), zzr (by decide)]; exact ht q hq
                    have hoJ2 : ∀ a, a ≠ 9 → a ≠ 10 → a ≠ 11 → zup J1 11 k.toNat v a = J a := fun a a1 a2 a3 => by rw [zup_ne a3]; exact hoJ a a1 a2 a3
                    have hoR2 := hoR
                    have hoF2 := hoF
                    refine c_iinc dX7_remove_131 rfl (by decide) rfl ?_
                    refine z_goto (tgt := 31) dX7_remove_134 (by decide) ?_
                    exact Z.fg2 (ih31 _ (by omega) _ _ _ _ rfl (by omega) hl2 hn2 ht2 hoJ2 hoR2 hoF2) (zs1 rfl (zs1 rfl (zs1 rfl (zs1 rfl (zs1 rfl (zsn zs0))))))
                  · have hgf : goes (A 45) x k.toNat = false := by
                      cases hc : goes (A 45) x k.toNat
                      · rfl
                      · exfalso; have := hgd.1 hc; omega
                    have hk1 : 1 ≤ k.toNat := by
                      by_cases e : 1 ≤ k.toNat
                      · exact e
                      · exfalso; have hk0 : x.toNat = k.toNat := by omega
                        have := goes_self (un := A 45) hx.1; rw [hk0, hgf] at this; cases this
                    have hsu := stay_up hU hx.1 hk1 (by omega) hgf
                    have cu2 := cN_bd (un := A 45) (x := x) (A 45 k.toNat).toNat
                    have hs9 : ∀ q : Nat, zup J1 11 k.toNat lf 9 q = J1 9 q := fun q => zzr (by decide)
                    refine z_aload_n dX7_remove_87 rfl rfl ?_
                    refine z_getR (ci := 7) (kf := 1) dX7_remove_88 rfl (by decide) (by decide) rfl w_33 rfl ?_
                    refine z_iload_n dX7_remove_91 rfl rfl ?_
                    refine z_aload_n dX7_remove_92 rfl rfl ?_
                    refine z_getR (ci := 7) (kf := 1) dX7_remove_93 rfl (by decide) (by decide) rfl w_33 rfl ?_
                    refine z_iload dX7_remove_96 rfl ?_
                    have hx0 : RF R1 8 k.toNat = R1 8 k.toNat := rfl
                    rcases hoF k.toNat (by omega) with hy | ⟨r, hy, hyr⟩
                    · refine c_aaldN dX7_remove_98 (Or.inl rfl) (by omega) (by decide) (hx0.trans hy) ?_
                      refine c_aastN dX7_remove_99 rfl (by omega) (by decide) ?_
                      rw [RF_up (Or.inl rfl), ← hy]
                      refine z_aload_n dX7_remove_100 rfl rfl ?_
                      refine z_getR (ci := 7) (kf := 3) dX7_remove_101 rfl (by decide) (by decide) rfl w_37 rfl ?_
                      refine z_iload_n dX7_remove_104 rfl rfl ?_
                      refine z_aload_n dX7_remove_105 rfl rfl ?_
                      refine z_getR (ci := 7) (kf := 3) dX7_remove_106 rfl (by decide) (by decide) rfl w_37 rfl ?_
                      refine z_iload dX7_remove_109 rfl ?_
                      refine c_iald dX7_remove_111 rfl (by omega) (by decide) ?_
                      rw [zzr (by decide), htk.2.2]
                      refine c_iast dX7_remove_112 rfl (by omega) (by decide) ?_
                      refine z_aload_n dX7_remove_113 rfl rfl ?_
                      refine z_getR (ci := 7) (kf := 2) dX7_remove_114 rfl (by decide) (by decide) rfl w_35 rfl ?_
                      refine z_iload_n dX7_remove_117 rfl rfl ?_
                      refine z_aload_n dX7_remove_118 rfl rfl ?_
                      refine z_aload_n dX7_remove_119 rfl rfl ?_
                      refine z_getR (ci := 7) (kf := 2) dX7_remove_120 rfl (by decide) (by decide) rfl w_35 rfl ?_
                      refine z_iload dX7_remove_123 rfl ?_
                      refine c_iald dX7_remove_125 rfl (by omega) (by decide) ?_
                      rw [zzr (by decide), zzr (by decide), e9]
                      refine c_iald dX7_remove_126 rfl (by omega) (by decide) ?_
                      rw [zzr (by decide), zzi (by omega), hn _ (by omega)]
                      refine c_iast dX7_remove_127 rfl (by omega) (by decide) ?_
                      have ek1 : (k + 1).toNat = k.toNat + 1 := by omega
                      have hl2 : lf + 1 = cN (A 45) x (k + 1).toNat := by rw [ek1, cN_succ, hgf, hl]; simp
                      have env : nuC (A 45) x k.toNat = lf := by rw [nuC_eq, hgf, hl]; rfl
                      have hjU : jcU (jcut A x k.toNat) (A 45) x k.toNat = nuC (A 45) x (A 45 k.toNat).toNat := by unfold jcU; rw [hta.1, if_neg (by omega)]
                      have hn2 : ∀ q : Nat, (q : Int) < k + 1 → (zup (zup (zup J1 11 k.toNat v) 10 lf.toNat (jcut A x k.toNat 46 k.toNat)) 9 lf.toNat (nuC (A 45) x (A 45 k.toNat).toNat)) 11 q = nuC (A 45) x q := fun q hq => by
                        rw [zzr (by decide), zzr (by decide)]
                        by_cases e : q = k.toNat
                        · subst e; rw [zz, hv]
                        · rw [zzi e]; exact hn q (by omega)
                      have ht2 : ∀ q : Nat, (q : Int) < A 42 2 → PL (jcut A x (k + 1).toNat) Kd J Rd n (6 + q) (zup R1 8 lf.toNat (R1 8 k.toNat) 8 q) ∧ (zup (zup (zup J1 11 k.toNat v) 10 lf.toNat (jcut A x k.toNat 46 k.toNat)) 9 lf.toNat (nuC (A 45) x (A 45 k.toNat).toNat)) 9 q = jcut A x (k + 1).toNat 45 q ∧ (zup (zup (zup J1 11 k.toNat v) 10 lf.toNat (jcut A x k.toNat 46 k.toNat)) 9 lf.toNat (nuC (A 45) x (A 45 k.toNat).toNat)) 10 q = jcut A x (k + 1).toNat 46 q := fun q hq => by
                        rw [ek1, jcut_stay hgf, env, hjU]
                        by_cases e : q = lf.toNat
                        · subst e
                          refine ⟨?_, ?_, ?_⟩
                          · rw [zz]; exact jc_step (by omega) htk.1
                          · rw [zz, zzr (by decide), zz]
                          · rw [zzr (by decide), zz, zz]
                        · have h1 := ht q hq
                          refine ⟨?_, ?_, ?_⟩
                          · rw [zzi e]; exact jc_ne (by omega) h1.1
                          · rw [zzi e, zzr (by decide), zzr (by decide), zzr (by decide), zzi e, jput_off (by decide) (by decide)]; exact h1.2.1
                          · rw [zzr (by decide), zzi e, zzr (by decide), zzi e, zzr (by decide), jput_off (by decide) (by decide)]; exact h1.2.2
                      have hoJ2 : ∀ a, a ≠ 9 → a ≠ 10 → a ≠ 11 → (zup (zup (zup J1 11 k.toNat v) 10 lf.toNat (jcut A x k.toNat 46 k.toNat)) 9 lf.toNat (nuC (A 45) x (A 45 k.toNat).toNat)) a = J a := fun a a1 a2 a3 => by rw [zup_ne a1, zup_ne a2, zup_ne a3]; exact hoJ a a1 a2 a3
                      have hoR2 : ∀ a, a ≠ 8 → zup R1 8 lf.toNat (R1 8 k.toNat) a = Rd a := fun a ha => by rw [zup_ne ha]; exact hoR a ha
                      have hoF2 : ∀ q, q < 30 → oF Kd n (zup R1 8 lf.toNat (R1 8 k.toNat) 8 q) := fun q hq => by
                        by_cases e : q = lf.toNat
                        · subst e; rw [zz]; exact hoF k.toNat (by omega)
                        · rw [zzi e]; exact hoF q hq
                      refine c_iinc dX7_remove_128 rfl (by decide) rfl ?_
                      refine c_iinc dX7_remove_131 rfl (by decide) rfl ?_
                      refine z_goto (tgt := 31) dX7_remove_134 (by decide) ?_
                      exact Z.fg2 (ih31 _ (by omega) _ _ _ _ rfl (by omega) hl2 hn2 ht2 hoJ2 hoR2 hoF2) (zs1 rfl (zs1 rfl (zs1 rfl (zs1 rfl (zs1 rfl (zsn zs0))))))
                    · refine c_aald dX7_remove_98 (Or.inl rfl) (by omega) (by decide) (hx0.trans hy) ?_
                      refine c_aast (ci := 3) dX7_remove_99 rfl (by decide) (by omega) (by decide) (FA_K1 hyr) ?_
                      rw [RF_up (Or.inl rfl), ← hy]
                      refine z_aload_n dX7_remove_100 rfl rfl ?_
                      refine z_getR (ci := 7) (kf := 3) dX7_remove_101 rfl (by decide) (by decide) rfl w_37 rfl ?_
                      refine z_iload_n dX7_remove_104 rfl rfl ?_
                      refine z_aload_n dX7_remove_105 rfl rfl ?_
                      refine z_getR (ci := 7) (kf := 3) dX7_remove_106 rfl (by decide) (by decide) rfl w_37 rfl ?_
                      refine z_iload dX7_remove_109 rfl ?_
                      refine c_iald dX7_remove_111 rfl (by omega) (by decide) ?_
                      rw [zzr (by decide), htk.2.2]
                      refine c_iast dX7_remove_112 rfl (by omega) (by decide) ?_
                      refine z_aload_n dX7_remove_113 rfl rfl ?_
                      refine z_getR (ci := 7) (kf := 2) dX7_remove_114 rfl (by decide) (by decide) rfl w_35 rfl ?_
                      refine z_iload_n dX7_remove_117 rfl rfl ?_
                      refine z_aload_n dX7_remove_118 rfl rfl ?_
                      refine z_aload_n dX7_remove_119 rfl rfl ?_
                      refine z_getR (ci := 7) (kf := 2) dX7_remove_120 rfl (by decide) (by decide) rfl w_35 rfl ?_
                      refine z_iload dX7_remove_123 rfl ?_
                      refine c_iald dX7_remove_125 rfl (by omega) (by decide) ?_
                      rw [zzr (by decide), zzr (by decide), e9]
                      refine c_iald dX7_remove_126 rfl (by omega) (by decide) ?_
                      rw [zzr (by decide), zzi (by omega), hn _ (by omega)]
                      refine c_iast dX7_remove_127 rfl (by omega) (by decide) ?_
                      have ek1 : (k + 1).toNat = k.toNat + 1 := by omega
                      have hl2 : lf + 1 = cN (A 45) x (k + 1).toNat := by rw [ek1, cN_succ, hgf, hl]; simp
                      have env : nuC (A 45) x k.toNat = lf := by rw [nuC_eq, hgf, hl]; rfl
                      have hjU : jcU (jcut A x k.toNat) (A 45) x k.toNat = nuC (A 45) x (A 45 k.toNat).toNat := by unfold jcU; rw [hta.1, if_neg (by omega)]
                      have hn2 : ∀ q : Nat, (q : Int) < k + 1 → (zup (zup (zup J1 11 k.toNat v) 10 lf.toNat (jcut A x k.toNat 46 k.toNat)) 9 lf.toNat (nuC (A 45) x (A 45 k.toNat).toNat)) 11 q = nuC (A 45) x q := fun q hq => by
                        rw [zzr (by decide), zzr (by decide)]
                        by_cases e : q = k.toNat
                        · subst e; rw [zz, hv]
                        · rw [zzi e]; exact hn q (by omega)
                      have ht2 : ∀ q : Nat, (q : Int) < A 42 2 → PL (jcut A x (k + 1).toNat) Kd J Rd n (6 + q) (zup R1 8 lf.toNat (R1 8 k.toNat) 8 q) ∧ (zup (zup (zup J1 11 k.toNat v) 10 lf.toNat (jcut A x k.toNat 46 k.toNat)) 9 lf.toNat (nuC (A 45) x (A 45 k.toNat).toNat)) 9 q = jcut A x (k + 1).toNat 45 q ∧ (zup (zup (zup J1 11 k.toNat v) 10 lf.toNat (jcut A x k.toNat 46 k.toNat)) 9 lf.toNat (nuC (A 45) x (A 45 k.toNat).toNat)) 10 q = jcut A x (k + 1).toNat 46 q := fun q hq => by
                        rw [ek1, jcut_stay hgf, env, hjU]
                        by_cases e : q = lf.toNat
                        · subst e
                          refine ⟨?_, ?_, ?_⟩
                          · rw [zz]; exact jc_step (by omega) htk.1
                          · rw [zz, zzr (by decide), zz]
                          · rw [zzr (by decide), zz, zz]
                        · have h1 := ht q hq
                          refine ⟨?_, ?_, ?_⟩
                          · rw [zzi e]; exact jc_ne (by omega) h1.1
                          · rw [zzi e, zzr (by decide), zzr (by decide), zzr (by decide), zzi e, jput_off (by decide) (by decide)]; exact h1.2.1
                          · rw [zzr (by decide), zzi e, zzr (by decide), zzi e, zzr (by decide), jput_off (by decide) (by decide)]; exact h1.2.2
                      have hoJ2 : ∀ a, a ≠ 9 → a ≠ 10 → a ≠ 11 → (zup (zup (zup J1 11 k.toNat v) 10 lf.toNat (jcut A x k.toNat 46 k.toNat)) 9 lf.toNat (nuC (A 45) x (A 45 k.toNat).toNat)) a = J a := fun a a1 a2 a3 => by rw [zup_ne a1, zup_ne a2, zup_ne a3]; exact hoJ a a1 a2 a3
                      have hoR2 : ∀ a, a ≠ 8 → zup R1 8 lf.toNat (R1 8 k.toNat) a = Rd a := fun a ha => by rw [zup_ne ha]; exact hoR a ha
                      have hoF2 : ∀ q, q < 30 → oF Kd n (zup R1 8 lf.toNat (R1 8 k.toNat) 8 q) := fun q hq => by
                        by_cases e : q = lf.toNat
                        · subst e; rw [zz]; exact hoF k.toNat (by omega)
                        · rw [zzi e]; exact hoF q hq
                      refine c_iinc dX7_remove_128 rfl (by decide) rfl ?_
                      refine c_iinc dX7_remove_131 rfl (by decide) rfl ?_
                      refine z_goto (tgt := 31) dX7_remove_134 (by decide) ?_
                      exact Z.fg2 (ih31 _ (by omega) _ _ _ _ rfl (by omega) hl2 hn2 ht2 hoJ2 hoR2 hoF2) (zs1 rfl (zs1 rfl (zs1 rfl (zs1 rfl (zs1 rfl (zsn zs0))))))
                refine z_aload_n dX7_remove_67 rfl rfl ?_
                refine z_iload dX7_remove_68 rfl ?_
                refine z_iload dX7_remove_70 rfl ?_
                refine c_if_eq (tgt := 80) dX7_remove_72 (by decide) (by omega) (fun h72 => ?_) (fun h72 => ?_)
                · have hv9 : lf = nuC (A 45) x k.toNat := by
                    cases hc : goes (A 45) x k.toNat
                    · rw [nuC_eq, hc]; exact hl
                    · exfalso; have := hgd.1 hc; omega
                  refine z_iload_n dX7_remove_80 rfl rfl ?_
                  exact Z.fg2 (L81 _ hv9) (zs1 rfl (zs1 rfl (zs1 rfl (zs1 rfl (zs1 rfl (zs1 rfl zs0))))))
                · have hv9 : (-2 : Int) = nuC (A 45) x k.toNat := by
                    cases hc : goes (A 45) x k.toNat
                    · exfalso; have := hgd.2.1 hc; omega
                    · rw [nuC_eq, hc]; rfl
                  refine c_bipush dX7_remove_75 (by decide) ?_
                  refine z_goto (tgt := 81) dX7_remove_77 (by decide) ?_
                  exact Z.fg2 (L81 _ hv9) (zs1 rfl (zs1 rfl (zs1 rfl (zs1 rfl (zs1 rfl (zs1 rfl zs0))))))
              refine z_iload dX7_remove_40 rfl ?_
              refine z_iload_n dX7_remove_42 rfl rfl ?_
              refine c_icmp_eq (tgt := 60) dX7_remove_43 (by decide) (by omega) (by omega) (fun h43 => ?_) (fun h43 => ?_)
              · have hgo : goes (A 45) x k.toNat = true := by rw [h43]; exact goes_self hx.1
                refine c_iconst dX7_remove_60 ?_
                refine z_goto (tgt := 65) dX7_remove_61 (by decide) ?_
                exact Z.fg2 (L65 _ (by rw [hgo]; simp)) (zs1 rfl (zs1 rfl (zs1 rfl (zs1 rfl (zs1 rfl (zsn zs0))))))
              · have huk := hU.2.2.2 k.toNat (by omega) (by omega)
                have hgu := goes_up hU (k := k.toNat) hx.1 (by omega) (by omega)
                have cu := cN_bd (un := A 45) (x := x) (A 45 k.toNat).toNat
                refine z_aload_n dX7_remove_46 rfl rfl ?_
                refine z_aload_n dX7_remove_47 rfl rfl ?_
                refine z_getR (ci := 7) (kf := 2) dX7_remove_48 rfl (by decide) (by decide) rfl w_35 rfl ?_
                refine z_iload dX7_remove_51 rfl ?_
                refine c_iald dX7_remove_53 rfl (by omega) (by decide) ?_
                rw [e9]
                refine c_iald dX7_remove_54 rfl (by omega) (by decide) ?_
                rw [hn _ (by omega)]
                refine c_bipush dX7_remove_55 (by decide) ?_
                refine c_icmp_ne (tgt := 64) dX7_remove_57 (by decide) (by rw [nuC_eq]; split <;> omega) (by omega) (fun h57 => ?_) (fun h57 => ?_)
                · have hgo : goes (A 45) x k.toNat = false := by
                    rw [hgu]; cases hc : goes (A 45) x (A 45 k.toNat).toNat
                    · rfl
                    · exfalso; rw [nuC_eq, hc] at h57; exact h57 rfl
                  refine c_iconst dX7_remove_64 ?_
                  exact Z.fg2 (L65 _ (by rw [hgo]; simp)) (zs1 rfl (zs1 rfl (zs1 rfl (zs1 rfl (zs1 rfl (zsn zs0))))))
                · have hgo : goes (A 45) x k.toNat = true := by
                    rw [hgu]; cases hc : goes (A 45) x (A 45 k.toNat).toNat
                    · exfalso; rw [nuC_eq, hc] at h57; apply h57; intro hh; have : cN (A 45) x (A 45 k.toNat).toNat = -2 := hh
                      omega
                    · rfl
                  refine c_iconst dX7_remove_60 ?_
                  refine z_goto (tgt := 65) dX7_remove_61 (by decide) ?_
                  exact Z.fg2 (L65 _ (by rw [hgo]; simp)) (zs1 rfl (zs1 rfl (zs1 rfl (zs1 rfl (zs1 rfl (zsn zs0))))))
        exact Z.fg2 (L31 _ _ _ _ _ rfl (by omega) (by rw [cN_low _ (by omega)]; omega) (fun q hq => by rw [hn q (by omega), nuC_eq, goes_low (by omega)]; exact (cN_low q (by omega)).symm) (fun q hq => by rw [jcut_pre hU hx.2 x.toNat (by omega), ho 9 (by decide), ho 10 (by decide)]; exact hW.2.2.1.2.2.1.2 q hq) (fun a _ _ a3 => ho a a3) (fun _ _ => rfl) (fun q hq => (hW.2.2.1.2.2.2.2.1 q hq).1)) (zs1 rfl (zs1 rfl (zs1 rfl (zs1 rfl (zs1 rfl (zsn zs0))))))
      · refine z_aload_n dX7_remove_16 rfl rfl ?_
        refine z_iload dX7_remove_17 rfl ?_
        refine z_iload dX7_remove_19 rfl ?_
        refine c_iast dX7_remove_21 rfl (by omega) (by decide) ?_
        refine c_iinc dX7_remove_22 rfl (by decide) rfl ?_
        refine z_goto (tgt := 10) dX7_remove_25 (by decide) ?_
        exact Z.fg2 (ih10 _ (by omega) _ _ rfl (by omega) (fun q hq => by by_cases e : q = k.toNat; (subst e; rw [zz]; omega); (rw [zzi e]; exact hn q (by omega))) (fun a ha => by rw [zup_ne ha]; exact ho a ha)) (zs1 rfl (zs1 rfl (zs1 rfl (zs1 rfl (zs1 rfl (zsn zs0))))))
  exact Z.fg2 (L10 _ _ _ rfl (by omega) (fun q hq => absurd hq (by omega)) (fun _ _ => rfl)) (zs1 rfl (zs1 rfl (zs1 rfl (zs1 rfl (zs1 rfl (zsn zs0))))))
set_option maxHeartbeats 4000000 in
set_option maxRecDepth 100000 in
theorem cMX8_cut {x : Int} (hx : rI x) (hW : WD A c Kd J Rd n s0) : ZC g l MX8_cut [.ref 4, .int (iZ x)] (KF Kd, zi J, zj P, RF Rd, n, s0) (PW (aCut A x).2 (c + 1) J P (.int (iZ (aCut A x).1))) := by
  refine ZC.of (by decide) (Nat.le_of_ble_eq_true rfl) ?_
  generalize hQ0 : (PW (aCut A x).2 (c + 1) J P (.int (iZ (aCut A x).1)) : Option Value → ZH → Prop) = Q0
  show Z g l MX8_cut 0 [some (.ref 4), some (.int (iZ x))] [] (KF Kd, zi J, zj P, RF Rd, n, s0) Q0
  have hun := WD_un hW
  have h3a := hun.2.2.2.1
  have h3b := hun.2.2.2.2
  refine z_aload_n dX8_cut_0 rfl rfl ?_
  refine z_getR (ci := 8) (kf := 2) dX8_cut_1 rfl (by decide) (by decide) rfl w_184 rfl ?_
  refine z_iload_n dX8_cut_4 rfl rfl ?_
  refine z_callv (N := MX7_isNode) (ci := 7) (nas := 1) (as := [_]) dX8_cut_5 w_669 w_666 w_667 w_668 w_2 (by decide +kernel) rfl rfl rfl (by decide) (Nat.le_of_ble_eq_true rfl) (by decide) (by decide) (ZC.mono (cMX7_isNode (by omega) hun.1 (by omega)) ?_)
  rintro _ _ ⟨b5, rfl, rfl, hb5⟩
  refine c_if_ne (tgt := 13) dX8_cut_8 (by decide) (by omega) (fun h8 => ?_) (fun h8 => ?_)
  · have g5 := (hb5.resolve_right (fun z => by have := z.1; omega)).2
    clear hb5
    refine z_aload_n dX8_cut_13 rfl rfl ?_
    refine z_getR (ci := 8) (kf := 2) dX8_cut_14 rfl (by decide) (by decide) rfl w_184 rfl ?_
    refine z_iload_n dX8_cut_17 rfl rfl ?_
    refine z_callv (N := MX7_remove) (ci := 7) (nas := 1) (as := [_]) dX8_cut_18 w_721 w_718 w_719 w_720 w_2 (by decide +kernel) rfl rfl rfl (by decide) (Nat.le_of_ble_eq_true rfl) (by decide) (by decide) (ZC.mono (cMX7_remove (x := x) (by omega) hW) ?_)
    rintro _ _ ⟨rfl, J9, R9, rfl, hW9, hs9, hc9⟩
    refine z_aload_n dX8_cut_21 rfl rfl ?_
    refine z_getR (ci := 8) (kf := 2) dX8_cut_22 rfl (by decide) (by decide) rfl w_184 rfl ?_
    refine c_getI (ci := 7) (kf := 0) dX8_cut_25 rfl (by decide) (by decide) rfl w_32 ?_
    rw [hs9]
    refine c_ireturn dX8_cut_28 rfl ?_
    subst hQ0; unfold aCut; rw [cif_pos (by omega)]; exact ⟨rfl, _, _, _, _, _, _, rfl, WD_mono hW9, hc9, cs_refl⟩
  · have g5 := (hb5.resolve_left (fun z => by have := z.1; omega)).2
    clear hb5
    refine c_iconst dX8_cut_11 ?_
    refine c_ireturn dX8_cut_12 rfl ?_
    subst hQ0; unfold aCut; rw [cif_neg (by omega)]; exact PW_id hW
end Cls11
