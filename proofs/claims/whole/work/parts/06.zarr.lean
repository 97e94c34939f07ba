section ZArr
variable {g : ZG} {l : Launch} {M : ZM} {pc : Nat} {ls : List (Option Value)} {st : List Value} {Q : Option Value → ZH → Prop} {K : ZK} {I : ZI} {L : ZL} {R : ZR} {n s0 : Nat}
theorem zcell_1 {r len : Nat} (hK : K r = (1, len)) : zcell g K I L R r = .inl (g.2.1 1, len, .inl (I r)) := by simp only [zcell, hK]
theorem zcell_2 {r len : Nat} (hK : K r = (2, len)) : zcell g K I L R r = .inl (g.2.1 2, len, .inr (.inl (L r))) := by simp only [zcell, hK]
theorem zcell_3 {r len : Nat} (hK : K r = (3, len)) : zcell g K I L R r = .inl (g.2.1 3, len, .inl (I r)) := by simp only [zcell, hK]
theorem zcell_4 {r len : Nat} (hK : K r = (4, len)) : zcell g K I L R r = .inl (g.2.1 4, len, .inr (.inr (.inr (.inr (fun j => (R r j).map (zphi g)))))) := by simp only [zcell, hK]
theorem zcell_5 {r len : Nat} (hK : K r = (5, len)) : zcell g K I L R r = .inl (g.2.1 5, len, .inr (.inr (.inr (.inr (fun j => (R r j).map (zphi g)))))) := by simp only [zcell, hK]
theorem zmem_in' {H : Heap} (hm : zmem g H (K, I, L, R, n, s0)) {r k len : Nat} (hk : K r = (k, len)) (h0 : k ≠ 0) : 4 ≤ r ∧ r < n := zmem_in hm (k := k) (by rw [hk]) h0
theorem z_iald {a len : Nat} {i : Int32} (hd : decode M.2.1 pc = .ok (.iaload, 1)) (hK : K a = (1, len)) (hin : vp_in i len) (k : Z g l M (pc + 1) ls (.int (I a i.toNatClampNeg) :: st) (K, I, L, R, n, s0) Q) : Z g l M pc ls (.int i :: .ref a :: st) (K, I, L, R, n, s0) Q := by
  refine Z.step (fun X hm _ _ k => ?_) k
  have hr := zmem_in' hm hK (by omega)
  have hat := zws_at g (K, I, L, R, n, s0) hr.1 hr.2
  simp only [zcell_1 hK] at hat
  exact va_iald X.1 X.2.1 X.2.2.2.2.2.2.2.2.2.2.1.1 hm.2.2.2 (a - 4) 0 hat rfl hin hd k
theorem z_bald {a len : Nat} {i : Int32} (hd : decode M.2.1 pc = .ok (.baload, 1)) (hK : K a = (3, len)) (hin : vp_in i len) (k : Z g l M (pc + 1) ls (.int (I a i.toNatClampNeg) :: st) (K, I, L, R, n, s0) Q) : Z g l M pc ls (.int i :: .ref a :: st) (K, I, L, R, n, s0) Q := by
  refine Z.step (fun X hm _ _ k => ?_) k
  have hr := zmem_in' hm hK (by omega)
  have hat := zws_at g (K, I, L, R, n, s0) hr.1 hr.2
  simp only [zcell_3 hK] at hat
  exact va_bald X.1 X.2.1 X.2.2.2.2.2.2.2.2.2.2.1.1 hm.2.2.2 (a - 4) 2 hat rfl hin hd k
theorem z_lald {a len : Nat} {i : Int32} (hd : decode M.2.1 pc = .ok (.laload, 1)) (hK : K a = (2, len)) (hin : vp_in i len) (k : Z g l M (pc + 1) ls (.long (L a i.toNatClampNeg) :: st) (K, I, L, R, n, s0) Q) : Z g l M pc ls (.int i :: .ref a :: st) (K, I, L, R, n, s0) Q := by
  refine Z.step (fun X hm _ _ k => ?_) k
  have hr := zmem_in' hm hK (by omega)
  have hat := zws_at g (K, I, L, R, n, s0) hr.1 hr.2
  simp only [zcell_2 hK] at hat
  exact va_lald X.1 X.2.1 X.2.2.2.2.2.2.2.2.2.2.1.1 hm.2.2.2 (a - 4) 1 hat rfl hin hd k
theorem z_aaldV {a len t : Nat} {i : Int32} {v : Value} (hd : decode M.2.1 pc = .ok (.aaload, 1)) (hK : K a = (4, len) ∨ K a = (5, len)) (hin : vp_in i len) (hv : va_rf (R a i.toNatClampNeg) = v) (k : Z g l M (pc + 1) ls (v :: st) (K, I, L, R, n, s0) Q) : Z g l M pc ls (.int i :: .ref a :: st) (K, I, L, R, n, s0) Q := by
  refine Z.step (fun X hm _ _ k => ?_) k
  have e : zv g v = va_rf ((R a i.toNatClampNeg).map (zphi g)) := by rw [← hv]; cases R a i.toNatClampNeg <;> rfl
  simp only [List.map_cons, e] at k
  rcases hK with hK | hK
  · have hr := zmem_in' hm hK (by omega)
    have hat := zws_at g (K, I, L, R, n, s0) hr.1 hr.2
    simp only [zcell_4 hK] at hat
    exact va_aldq X.1 X.2.1 X.2.2.2.2.2.2.2.2.2.2.1.1 hm.2.2.2 (a - 4) 3 hat rfl hin hd k
  · have hr := zmem_in' hm hK (by omega)
    have hat := zws_at g (K, I, L, R, n, s0) hr.1 hr.2
    simp only [zcell_5 hK] at hat
    exact va_aldq X.1 X.2.1 X.2.2.2.2.2.2.2.2.2.2.1.1 hm.2.2.2 (a - 4) 4 hat rfl hin hd k
theorem z_aald {a len r : Nat} {i : Int32} (hd : decode M.2.1 pc = .ok (.aaload, 1)) (hK : K a = (4, len) ∨ K a = (5, len)) (hin : vp_in i len) (hv : R a i.toNatClampNeg = some r) (k : Z g l M (pc + 1) ls (.ref r :: st) (K, I, L, R, n, s0) Q) : Z g l M pc ls (.int i :: .ref a :: st) (K, I, L, R, n, s0) Q := z_aaldV (t := 0) hd hK hin (by rw [hv]; rfl) k
theorem z_aaldN {a len : Nat} {i : Int32} (hd : decode M.2.1 pc = .ok (.aaload, 1)) (hK : K a = (4, len) ∨ K a = (5, len)) (hin : vp_in i len) (hv : R a i.toNatClampNeg = none) (k : Z g l M (pc + 1) ls (.null :: st) (K, I, L, R, n, s0) Q) : Z g l M pc ls (.int i :: .ref a :: st) (K, I, L, R, n, s0) Q := z_aaldV (t := 0) hd hK hin (by rw [hv]; rfl) k
-- old arrays
theorem zphi_old {r : Nat} (h : r < 4) : zphi g r = g.2.2.1 r := by unfold zphi; rw [if_pos h]
theorem z_iald_old {r : Nat} {i : Int32} {h : ZH} (hd : decode M.2.1 pc = .ok (.iaload, 1)) (hr : r < 4) (hin : vp_in i (g.2.2.2.2 r).1) (k : Z g l M (pc + 1) ls (.int ((g.2.2.2.2 r).2 i.toNatClampNeg) :: st) h Q) : Z g l M pc ls (.int i :: .ref r :: st) h Q := by
  refine Z.step (fun X _ hS _ k => ?_) k
  have e : zv g (.ref r) = .ref (g.2.2.1 r) := by show Value.ref (zphi g r) = _; rw [zphi_old hr]
  simp only [List.map_cons, e]
  exact va_ti X.1 X.2.1 (X.2.2.2.2.2.2.2.2.2.2.2.1.1 r hr) hS hin rfl hd k
theorem z_alen_old {r : Nat} {h : ZH} (hd : decode M.2.1 pc = .ok (.arraylength, 1)) (hr : r < 4) (k : Z g l M (pc + 1) ls (.int (Int32.ofNat (g.2.2.2.2 r).1) :: st) h Q) : Z g l M pc ls (.ref r :: st) h Q := by
  refine Z.step (fun X _ hS _ k => ?_) k
  have e : zv g (.ref r) = .ref (g.2.2.1 r) := by show Value.ref (zphi g r) = _; rw [zphi_old hr]
  simp only [List.map_cons, e]
  exact va_tlen X.1 X.2.1 (X.2.2.2.2.2.2.2.2.2.2.2.1.1 r hr) hS rfl hd k
theorem z_static {r index : Nat} {nm : String} {h : ZH} (hd : decode M.2.1 pc = .ok (.getstatic index, 3)) (hr : (r = 1 ∧ nm = "RULE_ALL") ∨ (r = 2 ∧ nm = "RULE_ODD") ∨ (r = 3 ∧ nm = "RULE_PRIME")) (hw : Cond.fieldLink M.1.cls index RX8 nm "[I" ∈ gw) (k : Z g l M (pc + 3) ls (.ref r :: st) h Q) : Z g l M pc ls st h Q := by
  refine Z.step (fun X _ hS _ k => ?_) k
  have ho := X.2.2.2.2.2.2.2.2.2.2.2.1.2
  rcases hr with ⟨rfl, rfl⟩ | ⟨rfl, rfl⟩ | ⟨rfl, rfl⟩
  · exact va_gets X.1 X.2.1 ho.1 hS X.2.2.2.2.1 (X.2.2.2.2.2.1 _ hw) (fun _ h9 => h9) hd k
  · exact va_gets X.1 X.2.1 ho.2.1 hS X.2.2.2.2.1 (X.2.2.2.2.2.1 _ hw) (fun _ h9 => h9) hd k
  · exact va_gets X.1 X.2.1 ho.2.2 hS X.2.2.2.2.1 (X.2.2.2.2.2.1 _ hw) (fun _ h9 => h9) hd k
theorem z_alen {a len kd : Nat} (hd : decode M.2.1 pc = .ok (.arraylength, 1)) (hK : K a = (kd, len)) (hk : kd = 1 ∨ kd = 2 ∨ kd = 3) (k : Z g l M (pc + 1) ls (.int (Int32.ofNat len) :: st) (K, I, L, R, n, s0) Q) : Z g l M pc ls (.ref a :: st) (K, I, L, R, n, s0) Q := by
  refine Z.step (fun X hm _ _ k => ?_) k
  have hr := zmem_in' hm hK (by omega)
  have hat := zws_at g (K, I, L, R, n, s0) hr.1 hr.2
  rcases hk with rfl | rfl | rfl
  · simp only [zcell_1 hK] at hat
    exact va_alen X.1 X.2.1 X.2.2.2.2.2.2.2.2.2.2.1.1 hm.2.2.2 (a - 4) 0 hat rfl rfl hd k
  · simp only [zcell_2 hK] at hat
    exact va_alen X.1 X.2.1 X.2.2.2.2.2.2.2.2.2.2.1.1 hm.2.2.2 (a - 4) 1 hat rfl rfl hd k
  · simp only [zcell_3 hK] at hat
    exact va_alen X.1 X.2.1 X.2.2.2.2.2.2.2.2.2.2.1.1 hm.2.2.2 (a - 4) 2 hat rfl rfl hd k
-- stores
theorem z_iast {a len : Nat} {i x : Int32} (hd : decode M.2.1 pc = .ok (.iastore, 1)) (hK : K a = (1, len)) (hin : vp_in i len) (k : Z g l M (pc + 1) ls st (K, zup I a i.toNatClampNeg x, L, R, n, s0) Q) : Z g l M pc ls (.int x :: .int i :: .ref a :: st) (K, I, L, R, n, s0) Q := by
  refine Z.stepH (h := (K, I, L, R, n, s0)) (h1 := (K, zup I a i.toNatClampNeg x, L, R, n, s0)) rfl rfl (fun X hm hS _ kk => ?_) k
  have hr := zmem_in' hm hK (by omega)
  have hat := hm.2.2.2 (a - 4) _ (zws_at g (K, I, L, R, n, s0) hr.1 hr.2)
  simp only [zcell_1 hK] at hat
  refine W.iast X.1 X.2.1 hat ((X.2.2.2.2.2.2.2.2.2.2.1.1.2 0 _ rfl).1 len (fun j => .int (I a j))) (fun q => by cases q) (by show ¬ (i < 0 ∨ (arrV _ _ _).slots.size ≤ _); rw [arrV_size]; exact hin) rfl rfl hd fun H1 e z oq => ?_
  refine kk H1 _ (zmem_set hm hr ?_ (fun q hq => ⟨zup_ne hq, rfl, rfl⟩) z oq) (hS.put z oq (zA_phi hr.1))
  rw [zcell_1 hK]
  show H1[_]? = some (vp_cell _ _)
  rw [e, vp_cell_i, vp_cell_i, arrV_store]
  congr 2
  funext q
  simp only [updV, zup_eq]
  split <;> rfl
theorem z_bast {a len : Nat} {i x : Int32} (hd : decode M.2.1 pc = .ok (.bastore, 1)) (hK : K a = (3, len)) (hin : vp_in i len) (k : Z g l M (pc + 1) ls st (K, zup I a i.toNatClampNeg x.toInt8.toInt32, L, R, n, s0) Q) : Z g l M pc ls (.int x :: .int i :: .ref a :: st) (K, I, L, R, n, s0) Q := by
  refine Z.stepH (h := (K, I, L, R, n, s0)) (h1 := (K, zup I a i.toNatClampNeg x.toInt8.toInt32, L, R, n, s0)) rfl rfl (fun X hm hS _ kk => ?_) k
  have hr := zmem_in' hm hK (by omega)
  have hat := hm.2.2.2 (a - 4) _ (zws_at g (K, I, L, R, n, s0) hr.1 hr.2)
  simp only [zcell_3 hK] at hat
  refine W.bast X.1 X.2.1 hat ((X.2.2.2.2.2.2.2.2.2.2.1.1.2 2 _ rfl).1 len (fun j => .int (I a j))) (fun q => by cases q) (by show ¬ (i < 0 ∨ (arrV _ _ _).slots.size ≤ _); rw [arrV_size]; exact hin) rfl rfl hd fun H1 e z oq => ?_
  refine kk H1 _ (zmem_set hm hr ?_ (fun q hq => ⟨zup_ne hq, rfl, rfl⟩) z oq) (hS.put z oq (zA_phi hr.1))
  rw [zcell_3 hK]
  show H1[_]? = some (vp_cell _ _)
  rw [e, vp_cell_i, vp_cell_i, arrV_store]
  congr 2
  funext q
  simp only [updV, zup_eq]
  split <;> rfl
theorem z_last {a len : Nat} {i : Int32} {x : Int64} (hd : decode M.2.1 pc = .ok (.lastore, 1)) (hK : K a = (2, len)) (hin : vp_in i len) (k : Z g l M (pc + 1) ls st (K, I, zup L a i.toNatClampNeg x, R, n, s0) Q) : Z g l M pc ls (.long x :: .int i :: .ref a :: st) (K, I, L, R, n, s0) Q := by
  refine Z.stepH (h := (K, I, L, R, n, s0)) (h1 := (K, I, zup L a i.toNatClampNeg x, R, n, s0)) rfl rfl (fun X hm hS _ kk => ?_) k
  have hr := zmem_in' hm hK (by omega)
  have hat := hm.2.2.2 (a - 4) _ (zws_at g (K, I, L, R, n, s0) hr.1 hr.2)
  simp only [zcell_2 hK] at hat
  refine W.last X.1 X.2.1 hat ((X.2.2.2.2.2.2.2.2.2.2.1.1.2 1 _ rfl).1 len (fun j => .long (L a j))) (fun q => by cases q) (by show ¬ (i < 0 ∨ (arrV _ _ _).slots.size ≤ _); rw [arrV_size]; exact hin) rfl rfl hd fun H1 e z oq => ?_
  refine kk H1 _ (zmem_set hm hr ?_ (fun q hq => ⟨rfl, zup_ne hq, rfl⟩) z oq) (hS.put z oq (zA_phi hr.1))
  rw [zcell_2 hK]
  show H1[_]? = some (vp_cell _ _)
  rw [e, vp_cell_l, vp_cell_l, arrV_store]
  congr 2
  funext q
  simp only [updV, zup_eq]
  split <;> rfl
theorem z_aastN {a len : Nat} {i : Int32} (hd : decode M.2.1 pc = .ok (.aastore, 1)) (hK : K a = (4, len)) (hin : vp_in i len) (k : Z g l M (pc + 1) ls st (K, I, L, zup R a i.toNatClampNeg none, n, s0) Q) : Z g l M pc ls (.null :: .int i :: .ref a :: st) (K, I, L, R, n, s0) Q := by
  refine Z.stepH (h := (K, I, L, R, n, s0)) (h1 := (K, I, L, zup R a i.toNatClampNeg none, n, s0)) rfl rfl (fun X hm hS _ kk => ?_) k
  have hr := zmem_in' hm hK (by omega)
  have hat := hm.2.2.2 (a - 4) _ (zws_at g (K, I, L, R, n, s0) hr.1 hr.2)
  simp only [zcell_4 hK] at hat
  refine va_WaastN (C := RX3) X.1 X.2.1 hat ((X.2.2.2.2.2.2.2.2.2.2.1.1.2 3 _ rfl).1 len (fun j => va_rf ((R a j).map (zphi g)))) (fun q => by cases q) (by show ¬ (i < 0 ∨ (arrV _ _ _).slots.size ≤ _); rw [arrV_size]; exact hin) rfl rfl hd fun H1 e z oq => ?_
  refine kk H1 _ (zmem_set hm hr ?_ (fun q hq => ⟨rfl, rfl, zup_ne hq⟩) z oq) (hS.put z oq (zA_phi hr.1))
  rw [zcell_4 hK]
  show H1[_]? = some (vp_cell _ _)
  rw [e, vp_cell_q, vp_cell_q, arrV_store]
  congr 2
  funext q
  simp only [updV, zup_eq]
  split <;> rfl
theorem z_aast {a len r kd ci : Nat} {i : Int32} (hd : decode M.2.1 pc = .ok (.aastore, 1)) (hK : K a = (kd, len)) (hkc : (kd = 4 ∧ ci = 3) ∨ (kd = 5 ∧ ci = 5)) (hin : vp_in i len) (hv : (K r).1 = 10 + ci) (k : Z g l M (pc + 1) ls st (K, I, L, zup R a i.toNatClampNeg (some r), n, s0) Q) : Z g l M pc ls (.ref r :: .int i :: .ref a :: st) (K, I, L, R, n, s0) Q := by
  refine Z.stepH (h := (K, I, L, R, n, s0)) (h1 := (K, I, L, zup R a i.toNatClampNeg (some r), n, s0)) rfl rfl (fun {p e Rm s m args below meth c H locs cells slots lsA Qm} X hm hS _ kk => ?_) k
  have hr := zmem_in' hm hK (by omega)
  have hat := hm.2.2.2 (a - 4) _ (zws_at g (K, I, L, R, n, s0) hr.1 hr.2)
  have hr2 := zmem_in hm hv (by omega)
  have hat2 := hm.2.2.2 (r - 4) _ (zws_at g (K, I, L, R, n, s0) hr2.1 hr2.2)
  simp only [zcell_obj hv] at hat2
  have hlt : i.toNatClampNeg < len := Nat.not_le.mp fun q => hin (Or.inr q)
  have h0 : ¬ i < 0 := fun q => hin (Or.inl q)
  have hKt := X.2.2.2.2.2.2.2.2.2.2.1.1
  obtain ⟨r', hr', cellV, g1, g2, g3, -⟩ := hat2
  have main : ∀ (cA : ClassId), cA = g.2.1 kd → zcell g K I L R a = .inl (cA, len, .inr (.inr (.inr (.inr (fun j => (R a j).map (zphi g)))))) → zcell g K I L (zup R a i.toNatClampNeg (some r)) a = .inl (cA, len, .inr (.inr (.inr (.inr (fun j => (zup R a i.toNatClampNeg (some r) a j).map (zphi g)))))) → va_RA s cA (.object (zRR ci)) → ci < 10 → W p l e Rm s m args below meth c H locs cells slots Qm (F0 m pc lsA ((Value.ref r :: Value.int i :: Value.ref a :: st).map (zv g))) := by
    intro cA _ ec ec' hra hc10
    have hcls := (hKt.1 ci _ (zcl ci hc10)).2
    obtain ⟨kA, comp, k1, k2, k3, -⟩ := hra
    have hcomp : comp = g.1.1 ci := Option.some.inj (k3.symm.trans hcls.1)
    subst hcomp
    obtain ⟨kC, hkC, -⟩ := hcls.2
    simp only [ec] at hat
    refine W.aast X.1 X.2.1 hat (fun q h => by cases h) (fun h => by cases h) k1 k2 rfl hkC ⟨h0, by show _ < (arrV _ _ _).slots.size; rw [arrV_size]; exact hlt⟩ g1 (fun q h => by rw [g3] at h; cases h) (by rw [g2]; exact hkC) (by rw [g2]; exact va_assign hcls) rfl rfl hd fun H1 e z oq => ?_
    refine kk H1 _ (zmem_set hm hr ?_ (fun q hq => ⟨rfl, rfl, zup_ne hq⟩) z oq) (hS.put z oq (zA_phi hr.1))
    rw [ec']
    show H1[_]? = some (vp_cell _ _)
    rw [e, vp_cell_q, vp_cell_q, arrV_store]
    congr 2
    funext q
    simp only [updV, zup_eq]
    split <;> rfl
  rcases hkc with ⟨rfl, rfl⟩ | ⟨rfl, rfl⟩
  · exact main _ rfl (zcell_4 hK) (zcell_4 hK) (hKt.2 3 _ rfl).2 (by omega)
  · exact main _ rfl (zcell_5 hK) (zcell_5 hK) (hKt.2 4 _ rfl).2 (by omega)
end ZArr
