section Ref3
variable {g : ZG} {l : Launch} {Kd : ZK} {Rd : ZR} {n s0 : Nat} {J P : Nat → Nat → Int}
theorem detOf_row {p k but i c j m : Int} {P1 : Nat → Nat → Int} (hc : c = (if 0 ≤ but ∧ but < i then i - 1 else i)) (hm : m = (if 0 ≤ but ∧ but < j then j - 1 else j)) (h15 : ¬ i = but) (hj : j = k) (hi : 0 ≤ i ∧ i ≤ k)
    (hr : ∀ r s : Nat, (r : Int) < c → s < skn but k → P1 49 (4 * r + s) = eE J p (4 * sk but r + sk but s)) (hrc : ∀ s : Nat, (s : Int) < m → P1 49 (4 * c.toNat + s) = eE J p (4 * i.toNat + sk but s)) :
    ∀ r s : Nat, (r : Int) < c + 1 → s < skn but k → P1 49 (4 * r + s) = eE J p (4 * sk but r + sk but s) := by
  intro r s h1 h2
  by_cases hrl : (r : Int) < c
  · exact hr r s hrl h2
  · have er : r = c.toNat := by split at hc <;> omega
    have e1 := hrc s (by unfold skn at h2; split at hm <;> split at h2 <;> omega)
    have e2 : sk but c.toNat = i.toNat := by unfold sk; split at hc <;> split <;> omega
    rw [er, e1, e2]
theorem detOf_D {p k but i c : Int} {P1 : Nat → Nat → Int} (hc : c = (if 0 ≤ but ∧ but < i then i - 1 else i)) (hi : i = k) (hb : -1 ≤ but ∧ but < k) (hr : ∀ r s : Nat, (r : Int) < c → s < skn but k → P1 49 (4 * r + s) = eE J p (4 * sk but r + sk but s)) :
    detB (c - 0).toNat (fun i j => P1 49 (4 * i + j)) (0 : Int).toNat 1 = detS (eE J p) k but := by
  unfold detS
  have ec : (c - 0).toNat = skn but k := by unfold skn; split at hc <;> split <;> omega
  rw [ec]
  refine detB_congr _ _ _ _ _ (fun r s h1 h2 h3 h4 => hr r s ?_ ?_)
  · have : ((0 : Int).toNat) = 0 := rfl
    omega
  · have : ((0 : Int).toNat) = 0 := rfl
    omega
theorem detOf_B {p k but i c : Int} {P1 : Nat → Nat → Int} (hc : c = (if 0 ≤ but ∧ but < i then i - 1 else i)) (hi : i = k) (hk : 0 ≤ k ∧ k ≤ 4) (hb : -1 ≤ but ∧ but < k) (hE : entS (eE J p)) (hr : ∀ r s : Nat, (r : Int) < c → s < skn but k → P1 49 (4 * r + s) = eE J p (4 * sk but r + sk but s)) :
    ∀ i j : Nat, (0 : Int) ≤ i → (i : Int) < c → (0 : Int) ≤ j → (j : Int) < c → -(bq 0) ≤ P1 49 (4 * i + j) ∧ P1 49 (4 * i + j) ≤ bq 0 := by
  intro r s h1 h2 h3 h4
  rw [hr r s h2 (by unfold skn; split at hc <;> split <;> omega)]
  have a1 : sk but r ≤ 3 := by unfold sk; split at hc <;> split <;> omega
  have a2 : sk but s ≤ 3 := by unfold sk; split at hc <;> split <;> omega
  exact hE _ (by omega)
theorem bq_step {q x y z w last : Int} (hq : 0 ≤ q ∧ q ≤ 2) (hx : -(bq q) ≤ x ∧ x ≤ bq q) (hy : -(bq q) ≤ y ∧ y ≤ bq q) (hz : -(bq q) ≤ z ∧ z ≤ bq q) (hw : -(bq q) ≤ w ∧ w ≤ bq q) : -(bq (q + 1)) ≤ (x * y - z * w).tdiv last ∧ (x * y - z * w).tdiv last ≤ bq (q + 1) := by
  have m1 := mul_bd hx.1 hx.2 hy.1 hy.2
  have m2 := mul_bd hz.1 hz.2 hw.1 hw.2
  have key : bq q * bq q + bq q * bq q ≤ bq (q + 1) := by
    rcases (show q = 0 ∨ q = 1 ∨ q = 2 by omega) with rfl | rfl | rfl <;> decide
  exact tdiv_bd (by omega) (by omega)
theorem detOf_BB {q c last : Int} {P1 P2 : Nat → Nat → Int} (hq : 0 ≤ q ∧ q < c) (hc : c ≤ 4) (hB : ∀ i j : Nat, q ≤ i → (i : Int) < c → q ≤ j → (j : Int) < c → -(bq q) ≤ P1 49 (4 * i + j) ∧ P1 49 (4 * i + j) ≤ bq q)
    (hP2 : ∀ i j : Nat, q < i → (i : Int) < c → q < j → (j : Int) < c → P2 49 (4 * i + j) = bstep (fun i j => P1 49 (4 * i + j)) q.toNat last i j) :
    ∀ i j : Nat, q + 1 ≤ i → (i : Int) < c → q + 1 ≤ j → (j : Int) < c → -(bq (q + 1)) ≤ P2 49 (4 * i + j) ∧ P2 49 (4 * i + j) ≤ bq (q + 1) := by
  intro i j h1 h2 h3 h4
  rw [hP2 i j (by omega) h2 (by omega) h4]
  unfold bstep
  exact bq_step (by omega) (hB i j (by omega) h2 (by omega) h4) (hB q.toNat q.toNat (by omega) (by omega) (by omega) (by omega)) (hB i q.toNat (by omega) h2 (by omega) (by omega)) (hB q.toNat j (by omega) (by omega) (by omega) h4)
set_option maxHeartbeats 4000000 in
set_option maxRecDepth 100000 in
theorem cMX9_detOf {p k but : Int} (hp : 0 ≤ p ∧ p < 74) (hk : 0 ≤ k ∧ k ≤ 4) (hb : -1 ≤ but ∧ but < k) (hE : entS (eE J p)) : ZC g l MX9_detOf [.ref 42, .int (iZ p), .int (iZ k), .int (iZ but)] (KF Kd, zi J, zj P, RF Rd, n, s0) (fun rr hh => ∃ P', hh = (KF Kd, zi J, zj P', RF Rd, n, s0) ∧ rr = some (.long (lZ (detS (eE J p) k but))) ∧ ∀ a, a ≠ 49 → P' a = P a) := by
  refine ZC.of (by decide) (Nat.le_of_ble_eq_true rfl) ?_
  generalize hQ0 : (fun rr hh => ∃ P', hh = (KF Kd, zi J, zj P', RF Rd, n, s0) ∧ rr = some (.long (lZ (detS (eE J p) k but))) ∧ ∀ a, a ≠ 49 → P' a = P a : Option Value → ZH → Prop) = Q0
  show Z g l MX9_detOf 0 [some (.ref 42), some (.int (iZ p)), some (.int (iZ k)), some (.int (iZ but)), none, none, none, none, none, none] [] (KF Kd, zi J, zj P, RF Rd, n, s0) Q0
  refine c_iconst dX9_detOf_0 ?_
  refine z_istore dX9_detOf_1 (by decide) rfl ?_
  refine c_iconst dX9_detOf_3 ?_
  refine z_istore dX9_detOf_4 (by decide) rfl ?_
  have L6 : ∀ (m6 : Nat), ∀ (i c : Int) (P1 : Nat → Nat → Int), (k - i).toNat = m6 → (0 ≤ i ∧ i ≤ k) → (c = (if 0 ≤ but ∧ but < i then i - 1 else i)) → (∀ r s : Nat, (r : Int) < c → s < skn but k → P1 49 (4 * r + s) = eE J p (4 * sk but r + sk but s)) → (∀ a, a ≠ 49 → P1 a = P a) → Z g l MX9_detOf 6 [some (.ref 42), some (.int (iZ p)), some (.int (iZ k)), some (.int (iZ but)), some (.int (iZ c)), some (.int (iZ i)), none, none, none, none] [] (KF Kd, zi J, zj P1, RF Rd, n, s0) Q0 := by
    intro m6
    induction m6 using Nat.strongRecOn with
    | ind m6 ih6 =>
      intro i c P1 hm6 hi hc hr ho
      refine z_iload dX9_detOf_6 rfl ?_
      refine z_iload_n dX9_detOf_8 rfl rfl ?_
      refine c_icmp_ge (tgt := 83) dX9_detOf_9 (by decide) (by omega) (by omega) (fun h9 => ?_) (fun h9 => ?_)
      · refine c_lconst1 dX9_detOf_83 ?_
        refine z_lstore dX9_detOf_84 (by decide) rfl ?_
        refine c_iconst dX9_detOf_86 ?_
        refine z_istore dX9_detOf_87 (by decide) rfl ?_
        have L89 : ∀ (m89 : Nat), ∀ (q last : Int) (P1 : Nat → Nat → Int), (c - q).toNat = m89 → (0 ≤ q ∧ q ≤ c) → (1 ≤ last ∧ last ≤ 1200000000000000000) → (detB (c - q).toNat (fun i j => P1 49 (4 * i + j)) q.toNat last = detS (eE J p) k but) → (∀ i j : Nat, q ≤ i → (i : Int) < c → q ≤ j → (j : Int) < c → -(bq q) ≤ P1 49 (4 * i + j) ∧ P1 49 (4 * i + j) ≤ bq q) → (∀ a, a ≠ 49 → P1 a = P a) → Z g l MX9_detOf 89 [some (.ref 42), some (.int (iZ p)), some (.int (iZ k)), some (.int (iZ but)), some (.int (iZ c)), some (.long (lZ last)), none, some (.int (iZ q)), none, none] [] (KF Kd, zi J, zj P1, RF Rd, n, s0) Q0 := by
          intro m89
          induction m89 using Nat.strongRecOn with
          | ind m89 ih89 =>
            intro q last P1 hm89 hq hlast hD hB ho
            refine z_iload dX9_detOf_89 rfl ?_
            refine z_iload dX9_detOf_91 rfl ?_
            refine c_icmp_ge (tgt := 136) dX9_detOf_93 (by decide) (by omega) (by omega) (fun h93 => ?_) (fun h93 => ?_)
            · refine z_lload dX9_detOf_136 rfl ?_
              refine z_lreturn dX9_detOf_138 rfl ?_
              subst hQ0; refine ⟨P1, rfl, ?_, ho⟩; rw [← hD, show (c - q).toNat = 0 by omega]; rfl
            · refine z_aload_n dX9_detOf_96 rfl rfl ?_
              refine z_getR (ci := 9) (kf := 9) dX9_detOf_97 rfl (by decide) (by decide) rfl w_785 rfl ?_
              refine c_iconst dX9_detOf_100 ?_
              refine z_iload dX9_detOf_101 rfl ?_
              refine c_imul dX9_detOf_103 ?_
              refine c_lald dX9_detOf_104 rfl (by omega) (by decide) ?_
              refine z_lstore dX9_detOf_105 (by decide) rfl ?_
              have hpv : P1 49 (5 * q).toNat = P1 49 (4 * q.toNat + q.toNat) := by congr 1; omega
              have hbb := hB q.toNat q.toNat (by omega) (by omega) (by omega) (by omega)
              have hbq : bq q ≤ 1200000000000000000 := by unfold bq; split <;> (try split) <;> (try split) <;> omega
              have hdu : detB (c - q).toNat (fun i j => P1 49 (4 * i + j)) q.toNat last = if P1 49 (4 * q.toNat + q.toNat) ≤ 0 then 0 else detB (c - (q + 1)).toNat (bstep (fun i j => P1 49 (4 * i + j)) q.toNat last) (q.toNat + 1) (P1 49 (4 * q.toNat + q.toNat)) := by
                rw [show (c - q).toNat = (c - (q + 1)).toNat + 1 by omega]; rfl
              refine z_lload dX9_detOf_107 rfl ?_
              refine c_lconst0 dX9_detOf_109 ?_
              refine c_lif_gt (tgt := 116) dX9_detOf_110 dX9_detOf_111 (by decide) (by omega) (by omega) (fun h110 => ?_) (fun h110 => ?_)
              · refine z_aload_n dX9_detOf_116 rfl rfl ?_
                refine z_iload dX9_detOf_117 rfl ?_
                refine z_iload dX9_detOf_119 rfl ?_
                refine z_lload dX9_detOf_121 rfl ?_
                have hBq : ∀ x, (x < 16 ∧ q + 1 < c ∧ q ≤ ((x / 4 : Nat) : Int) ∧ ((x / 4 : Nat) : Int) < c ∧ q ≤ ((x % 4 : Nat) : Int) ∧ ((x % 4 : Nat) : Int) < c) → -2147483647 ≤ P1 49 x ∧ P1 49 x ≤ 2147483647 := by
                  intro x hx
                  have h1 := hB (x / 4) (x % 4) (by omega) (by omega) (by omega) (by omega)
                  rw [show 4 * (x / 4) + x % 4 = x by omega] at h1
                  have h2 : bq q ≤ 768476808 := by unfold bq; split <;> (try split) <;> (try split) <;> omega
                  omega
                refine z_callv (N := MX9_clearBelow) (ci := 9) (nas := 3) (as := [_, _, _]) dX9_detOf_123 w_929 w_926 w_928 ws_26 w_8 (by decide +kernel) rfl rfl rfl (by decide) (Nat.le_of_ble_eq_true rfl) (by decide) (by decide) (ZC.mono (cMX9_clearBelow (by omega) (by omega) hBq) ?_)
                rintro _ _ ⟨rfl, P2, rfl, hP2, hO2⟩
                refine z_lload dX9_detOf_126 rfl ?_
                refine z_lstore dX9_detOf_128 (by decide) rfl ?_
                refine c_iinc dX9_detOf_130 rfl (by decide) rfl ?_
                refine z_goto (tgt := 89) dX9_detOf_133 (by decide) ?_
                exact Z.fg2 (ih89 _ (by omega) _ _ _ rfl (by omega) (by omega) (by rw [← hD, hdu, if_neg (by omega), hpv, show (q + 1).toNat = q.toNat + 1 by omega]; exact detB_congr _ _ _ _ _ (fun i j g1 g2 g3 g4 => hP2 i j (by omega) (by omega) (by omega) (by omega))) (detOf_BB (by omega) (by omega) hB hP2) (fun a ha => by rw [hO2 a ha]; exact ho a ha)) (zs1 rfl (zs1 rfl (zs1 rfl (zs1 rfl (zs1 rfl (zs1 rfl (zsn (zs1 rfl (zsn (zsn zs0))))))))))
              · refine c_lconst0 dX9_detOf_114 ?_
                refine z_lreturn dX9_detOf_115 rfl ?_
                subst hQ0; refine ⟨P1, rfl, ?_, ho⟩; rw [← hD, hdu, if_pos (by omega)]
        exact Z.fg2 (L89 _ _ _ _ rfl (by split at hc <;> omega) (by omega) (detOf_D hc (by omega) hb hr) (detOf_B hc (by omega) hk hb hE hr) ho) (zs1 rfl (zs1 rfl (zs1 rfl (zs1 rfl (zs1 rfl (zs1 rfl (zsn (zs1 rfl (zsn (zsn zs0))))))))))
      · refine z_iload dX9_detOf_12 rfl ?_
        refine z_iload_n dX9_detOf_14 rfl rfl ?_
        refine c_icmp_eq (tgt := 77) dX9_detOf_15 (by decide) (by omega) (by omega) (fun h15 => ?_) (fun h15 => ?_)
        · refine c_iinc dX9_detOf_77 rfl (by decide) rfl ?_
          refine z_goto (tgt := 6) dX9_detOf_80 (by decide) ?_
          exact Z.fg2 (ih6 _ (by omega) _ _ _ rfl (by omega) (by split at hc <;> split <;> omega) (fun r s h1 h2 => by first | exact hr r s h1 h2 | exact detOf_row hc hm h15 (by omega) hi hr hrc r s h1 h2) ho) (zs1 rfl (zs1 rfl (zs1 rfl (zs1 rfl (zs1 rfl (zs1 rfl (zsn (zsn (zsn (zsn zs0))))))))))
        · refine c_iconst dX9_detOf_18 ?_
          refine z_istore dX9_detOf_19 (by decide) rfl ?_
          refine c_iconst dX9_detOf_21 ?_
          refine z_istore dX9_detOf_22 (by decide) rfl ?_
          have L24 : ∀ (m24 : Nat), ∀ (j m : Int) (P1 : Nat → Nat → Int), (k - j).toNat = m24 → (0 ≤ j ∧ j ≤ k) → (m = (if 0 ≤ but ∧ but < j then j - 1 else j)) → (∀ r s : Nat, (r : Int) < c → s < skn but k → P1 49 (4 * r + s) = eE J p (4 * sk but r + sk but s)) → (∀ s : Nat, (s : Int) < m → P1 49 (4 * c.toNat + s) = eE J p (4 * i.toNat + sk but s)) → (∀ a, a ≠ 49 → P1 a = P a) → Z g l MX9_detOf 24 [some (.ref 42), some (.int (iZ p)), some (.int (iZ k)), some (.int (iZ but)), some (.int (iZ c)), some (.int (iZ i)), some (.int (iZ m)), some (.int (iZ j)), none, none] [] (KF Kd, zi J, zj P1, RF Rd, n, s0) Q0 := by
            intro m24
            induction m24 using Nat.strongRecOn with
            | ind m24 ih24 =>
              intro j m P1 hm24 hj hm hr hrc ho
              refine z_iload dX9_detOf_24 rfl ?_
              refine z_iload_n dX9_detOf_26 rfl rfl ?_
              refine c_icmp_ge (tgt := 74) dX9_detOf_27 (by decide) (by omega) (by omega) (fun h27 => ?_) (fun h27 => ?_)
              · refine c_iinc dX9_detOf_74 rfl (by decide) rfl ?_
                refine c_iinc dX9_detOf_77 rfl (by decide) rfl ?_
                refine z_goto (tgt := 6) dX9_detOf_80 (by decide) ?_
                exact Z.fg2 (ih6 _ (by omega) _ _ _ rfl (by omega) (by split at hc <;> split <;> omega) (fun r s h1 h2 => by first | exact hr r s h1 h2 | exact detOf_row hc hm h15 (by omega) hi hr hrc r s h1 h2) ho) (zs1 rfl (zs1 rfl (zs1 rfl (zs1 rfl (zs1 rfl (zs1 rfl (zsn (zsn (zsn (zsn zs0))))))))))
              · refine z_aload_n dX9_detOf_30 rfl rfl ?_
                refine z_getR (ci := 9) (kf := 9) dX9_detOf_31 rfl (by decide) (by decide) rfl w_785 rfl ?_
                refine c_iconst dX9_detOf_34 ?_
                refine z_iload dX9_detOf_35 rfl ?_
                refine c_imul dX9_detOf_37 ?_
                refine z_iload dX9_detOf_38 rfl ?_
                refine c_iadd dX9_detOf_40 ?_
                refine z_aload_n dX9_detOf_41 rfl rfl ?_
                refine z_iload_n dX9_detOf_42 rfl rfl ?_
                refine z_iload dX9_detOf_43 rfl ?_
                refine z_iload dX9_detOf_45 rfl ?_
                refine z_callv (N := MX9_entryAt) (ci := 9) (nas := 3) (as := [_, _, _]) dX9_detOf_47 w_925 w_922 w_924 ws_25 w_8 (by decide +kernel) rfl rfl rfl (by decide) (Nat.le_of_ble_eq_true rfl) (by decide) (by decide) (ZC.mono (cMX9_entryAt (by omega)) ?_)
                rintro _ _ ⟨rfl, rfl⟩
                rw [eE_at (J := J) hp.1 (show 0 ≤ i by omega) (show 0 ≤ j by omega)]
                have b0 := hE (4 * i.toNat + j.toNat) (by omega)
                refine c_i2l dX9_detOf_50 (by omega) ?_
                refine c_last dX9_detOf_51 rfl (by omega) (by decide) ?_
                refine z_iload dX9_detOf_52 rfl ?_
                refine z_iload dX9_detOf_54 rfl ?_
                refine z_iload_n dX9_detOf_56 rfl rfl ?_
                refine c_icmp_eq (tgt := 64) dX9_detOf_57 (by decide) (by omega) (by omega) (fun h57 => ?_) (fun h57 => ?_)
                · refine c_iconst dX9_detOf_64 ?_
                  refine c_iadd dX9_detOf_65 ?_
                  refine z_istore dX9_detOf_66 (by decide) rfl ?_
                  refine c_iinc dX9_detOf_68 rfl (by decide) rfl ?_
                  refine z_goto (tgt := 24) dX9_detOf_71 (by decide) ?_
                  exact Z.fg2 (ih24 _ (by omega) _ _ _ rfl (by omega) (by split at hm <;> split <;> omega) (fun r s h1 h2 => by rw [show zup P1 49 (4 * c + m).toNat (eE J p (4 * i.toNat + j.toNat)) 49 (4 * r + s) = P1 49 (4 * r + s) by simp only [zup, if_true]; rw [if_neg (by unfold skn at h2; split at hm <;> split at hc <;> split at h2 <;> omega)]]; exact hr r s h1 h2) (fun s h1 => by simp only [zup, if_true]; split; (rename_i hx; congr 2; unfold sk; (split at hm <;> split at hc <;> split <;> omega)); exact hrc s (by split at hm <;> omega)) (fun a ha => by rw [zup_ne ha]; exact ho a ha)) (zs1 rfl (zs1 rfl (zs1 rfl (zs1 rfl (zs1 rfl (zs1 rfl (zs1 rfl (zs1 rfl (zsn (zsn zs0))))))))))
                · refine c_iconst dX9_detOf_60 ?_
                  refine z_goto (tgt := 65) dX9_detOf_61 (by decide) ?_
                  refine c_iadd dX9_detOf_65 ?_
                  refine z_istore dX9_detOf_66 (by decide) rfl ?_
                  refine c_iinc dX9_detOf_68 rfl (by decide) rfl ?_
                  refine z_goto (tgt := 24) dX9_detOf_71 (by decide) ?_
                  exact Z.fg2 (ih24 _ (by omega) _ _ _ rfl (by omega) (by split at hm <;> split <;> omega) (fun r s h1 h2 => by rw [show zup P1 49 (4 * c + m).toNat (eE J p (4 * i.toNat + j.toNat)) 49 (4 * r + s) = P1 49 (4 * r + s) by simp only [zup, if_true]; rw [if_neg (by unfold skn at h2; split at hm <;> split at hc <;> split at h2 <;> omega)]]; exact hr r s h1 h2) (fun s h1 => by simp only [zup, if_true]; split; (rename_i hx; congr 2; unfold sk; (split at hm <;> split at hc <;> split <;> omega)); exact hrc s (by split at hm <;> omega)) (fun a ha => by rw [zup_ne ha]; exact ho a ha)) (zs1 rfl (zs1 rfl (zs1 rfl (zs1 rfl (zs1 rfl (zs1 rfl (zs1 rfl (zs1 rfl (zsn (zsn zs0))))))))))
          exact Z.fg2 (L24 _ _ _ _ rfl (by omega) (by split <;> omega) hr (fun s h1 => absurd h1 (by omega)) ho) (zs1 rfl (zs1 rfl (zs1 rfl (zs1 rfl (zs1 rfl (zs1 rfl (zs1 rfl (zs1 rfl (zsn (zsn zs0))))))))))
  exact Z.fg2 (L6 _ _ _ _ rfl (by omega) (by split <;> omega) (fun r s h1 h2 => absurd h1 (by omega)) (fun _ _ => rfl)) (zs1 rfl (zs1 rfl (zs1 rfl (zs1 rfl (zs1 rfl (zs1 rfl (zsn (zsn (zsn (zsn zs0))))))))))
end Ref3
