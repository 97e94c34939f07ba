section Ref5
variable {g : ZG} {l : Launch} {Kd : ZK} {Rd : ZR} {n s0 : Nat} {J P : Nat → Nat → Int}
theorem b_in {v lo hi : Int} (hv : rL v) (ha : rL lo) (hb : rL hi) : ZC g l MX9_in [.long (lZ v), .long (lZ lo), .long (lZ hi)] (KF Kd, zi J, zj P, RF Rd, n, s0) (fun rr hh => ∃ b : Int, rr = some (.int (iZ b)) ∧ hh = (KF Kd, zi J, zj P, RF Rd, n, s0) ∧ ((b = 1 ∧ (lo ≤ v ∧ v ≤ hi)) ∨ (b = 0 ∧ ¬ (lo ≤ v ∧ v ≤ hi)))) := ZC.mono (cMX9_in hv ha hb) (by rintro _ _ ⟨rfl, rfl⟩; refine ⟨_, rfl, rfl, ?_⟩; split <;> omega)
theorem b_isSlot {v : Int} (hv : rI v) : ZC g l MX9_isSlot [.int (iZ v)] (KF Kd, zi J, zj P, RF Rd, n, s0) (fun rr hh => ∃ b : Int, rr = some (.int (iZ b)) ∧ hh = (KF Kd, zi J, zj P, RF Rd, n, s0) ∧ ((b = 1 ∧ (0 ≤ v ∧ v < 6)) ∨ (b = 0 ∧ ¬ (0 ≤ v ∧ v < 6)))) := ZC.mono (cMX9_isSlot hv) (by rintro _ _ ⟨rfl, rfl⟩; refine ⟨_, rfl, rfl, ?_⟩; split <;> omega)
theorem b_hasForm {s : Int} (hs : rI s) (hL : okJ J) : ZC g l MX9_hasForm [.ref 42, .int (iZ s)] (KF Kd, zi J, zj P, RF Rd, n, s0) (fun rr hh => ∃ b : Int, rr = some (.int (iZ b)) ∧ hh = (KF Kd, zi J, zj P, RF Rd, n, s0) ∧ ((b = 1 ∧ (0 ≤ s ∧ s < 6 ∧ 0 < J 44 s.toNat)) ∨ (b = 0 ∧ ¬ (0 ≤ s ∧ s < 6 ∧ 0 < J 44 s.toNat)))) := ZC.mono (cMX9_hasForm hs (fun q hq => okJ_let hL (by omega))) (by rintro _ _ ⟨rfl, rfl⟩; refine ⟨_, rfl, rfl, ?_⟩; split <;> omega)
theorem b_isLetter {p i : Int} (hi : rI i) (hp : 0 ≤ p ∧ p < 72) (hL : okJ J) : ZC g l MX9_isLetter [.ref 42, .int (iZ p), .int (iZ i)] (KF Kd, zi J, zj P, RF Rd, n, s0) (fun rr hh => ∃ b : Int, rr = some (.int (iZ b)) ∧ hh = (KF Kd, zi J, zj P, RF Rd, n, s0) ∧ ((b = 1 ∧ (0 ≤ i ∧ i < J 44 p.toNat)) ∨ (b = 0 ∧ ¬ (0 ≤ i ∧ i < J 44 p.toNat)))) := ZC.mono (cMX9_isLetter hi (by omega) (okJ_let hL (by omega))) (by rintro _ _ ⟨rfl, rfl⟩; refine ⟨_, rfl, rfl, ?_⟩; split <;> omega)
theorem j_copyTo {f t : Int} (hf : 0 ≤ f ∧ f < 74) (ht : 0 ≤ t ∧ t < 74) : ZC g l MX9_copyTo [.ref 42, .int (iZ f), .int (iZ t)] (KF Kd, zi J, zj P, RF Rd, n, s0) (fun rr hh => rr = none ∧ hh = (KF Kd, zi (jput J t.toNat (J 44 f.toNat) (eE J f)), zj P, RF Rd, n, s0)) := cMX9_copyTo hf ht
theorem j_clearAt {p : Int} (hp : 0 ≤ p ∧ p < 74) : ZC g l MX9_clearAt [.ref 42, .int (iZ p)] (KF Kd, zi J, zj P, RF Rd, n, s0) (fun rr hh => rr = none ∧ hh = (KF Kd, zi (jput J p.toNat 0 (fun _ => 0)), zj P, RF Rd, n, s0)) := cMX9_clearAt hp
theorem j_layEntry {p i j a nl : Int} {E : Nat → Int} (hp : 0 ≤ p ∧ p < 74) (hi : 0 ≤ i ∧ i < 4) (hj : 0 ≤ j ∧ j < 4) : ZC g l MX9_layEntry [.ref 42, .int (iZ p), .int (iZ i), .int (iZ j), .int (iZ a)] (KF Kd, zi (jput J p.toNat nl E), zj P, RF Rd, n, s0) (fun rr hh => rr = none ∧ hh = (KF Kd, zi (jput J p.toNat nl (setE E i.toNat j.toNat a)), zj P, RF Rd, n, s0)) := ZC.mono (cMX9_layEntry (by omega) (by omega)) (by
  rintro _ _ ⟨rfl, rfl⟩
  refine ⟨rfl, ?_⟩
  rw [show (16 * p + 4 * i + j).toNat = 16 * p.toNat + (4 * i.toNat + j.toNat) by omega, show (16 * p + 4 * j + i).toNat = 16 * p.toNat + (4 * j.toNat + i.toNat) by omega, jput_lay (by omega) (by omega)])
theorem lawS_new {J : Nat → Nat → Int} {nl : Int} {E : Nat → Int} (hn : nl ≤ 4) : lawS (jput J 72 nl E 44 (72 : Int).toNat) (eE (jput J 72 nl E) 72) ↔ lawS nl E := by
  rw [show (72 : Int).toNat = 72 from rfl, jput_let]
  exact lawS_congr hn (fun q hq => eE_jput rfl hq)
theorem detS_new {J : Nat → Nat → Int} {nl but : Int} {E : Nat → Int} (hn : nl ≤ 4) : detS (eE (jput J 72 nl E) 72) (jput J 72 nl E 44 (72 : Int).toNat) but = detS E nl but := by
  rw [show (72 : Int).toNat = 72 from rfl, jput_let]
  exact detS_congr hn (fun q hq => eE_jput rfl hq)
set_option maxHeartbeats 4000000 in
set_option maxRecDepth 100000 in
theorem cMX9_comes {s nl : Int} {E : Nat → Int} (hs : 0 ≤ s ∧ s < 72) (hn : 0 ≤ nl ∧ nl ≤ 4) (hR : ∀ k, k < 16 → -2147483647 ≤ E k ∧ E k ≤ 2147483647) : ZC g l MX9_comes [.ref 42, .int (iZ s)] (KF Kd, zi (jput J 72 nl E), zj P, RF Rd, n, s0) (fun rr hh => ∃ J' P' r, hh = (KF Kd, zi J', zj P', RF Rd, n, s0) ∧ rr = some (.int (iZ r)) ∧ ((lawS nl E ∧ r = detS E nl (-1) ∧ J' = jput (jput J 72 nl E) s.toNat nl E) ∨ (¬ lawS nl E ∧ r = -5 ∧ J' = jput J 72 nl E)) ∧ pp P P') := by
  refine ZC.of (by decide) (Nat.le_of_ble_eq_true rfl) ?_
  generalize hQ0 : (fun rr hh => ∃ J' P' r, hh = (KF Kd, zi J', zj P', RF Rd, n, s0) ∧ rr = some (.int (iZ r)) ∧ ((lawS nl E ∧ r = detS E nl (-1) ∧ J' = jput (jput J 72 nl E) s.toNat nl E) ∨ (¬ lawS nl E ∧ r = -5 ∧ J' = jput J 72 nl E)) ∧ pp P P' : Option Value → ZH → Prop) = Q0
  show Z g l MX9_comes 0 [some (.ref 42), some (.int (iZ s))] [] (KF Kd, zi (jput J 72 nl E), zj P, RF Rd, n, s0) Q0
  refine z_aload_n dX9_comes_0 rfl rfl ?_
  refine c_bipush dX9_comes_1 (by decide) ?_
  have hR3 : ∀ k, k < 16 → -2147483647 ≤ eE (jput J 72 nl E) 72 k ∧ eE (jput J 72 nl E) 72 k ≤ 2147483647 := fun k hk => by rw [eE_jput (p := 72) (r := 72) rfl hk]; exact hR k hk
  have hl72 : jput J 72 nl E 44 (72 : Int).toNat = nl := jput_let
  refine z_callv (N := MX9_isLawful) (ci := 9) (nas := 1) (as := [_]) dX9_comes_3 w_914 w_911 w_913 ws_23 w_8 (by decide +kernel) rfl rfl rfl (by decide) (Nat.le_of_ble_eq_true rfl) (by decide) (by decide) (ZC.mono (cMX9_isLawful (by omega) (by omega) hR3) ?_)
  rintro _ _ ⟨P3, b3, rfl, rfl, hb3, hl3, ho3⟩
  rw [lawS_new hn.2] at hb3 hl3
  refine c_if_ne (tgt := 12) dX9_comes_6 (by decide) (by omega) (fun h6 => ?_) (fun h6 => ?_)
  · have g3 := (hb3.resolve_right (fun z => by have := z.1; omega)).2
    clear hb3
    refine z_aload_n dX9_comes_12 rfl rfl ?_
    refine c_bipush dX9_comes_13 (by decide) ?_
    refine z_iload_n dX9_comes_15 rfl rfl ?_
    refine z_callv (N := MX9_copyTo) (ci := 9) (nas := 2) (as := [_, _]) dX9_comes_16 w_940 w_937 w_939 ws_27 w_8 (by decide +kernel) rfl rfl rfl (by decide) (Nat.le_of_ble_eq_true rfl) (by decide) (by decide) (ZC.mono (j_copyTo (by omega) (by omega)) ?_)
    rintro _ _ ⟨rfl, rfl⟩
    refine z_aload_n dX9_comes_19 rfl rfl ?_
    refine c_getL (ci := 9) (kf := 11) dX9_comes_20 rfl (by decide) (by decide) rfl w_787 ?_
    rw [(hl3 g3).1, detS_new hn.2]
    refine c_l2i dX9_comes_23 ?_
    refine c_ireturn dX9_comes_24 rfl ?_
    subst hQ0; refine ⟨_, _, _, rfl, rfl, Or.inl ⟨g3, rfl, ?_⟩, pp_off ho3⟩
    rw [hl72]; exact jput_ext (fun k hk => eE_jput rfl hk)
  · have g3 := (hb3.resolve_left (fun z => by have := z.1; omega)).2
    clear hb3
    refine c_bipush dX9_comes_9 (by decide) ?_
    refine c_ireturn dX9_comes_11 rfl ?_
    subst hQ0; refine ⟨_, _, -5, rfl, rfl, Or.inr ⟨g3, rfl, rfl⟩, pp_off ho3⟩
end Ref5
