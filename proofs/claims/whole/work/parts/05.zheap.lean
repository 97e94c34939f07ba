section ZHeap
variable {g : ZG} {l : Launch} {M : ZM} {pc : Nat} {ls : List (Option Value)} {st : List Value} {Q : Option Value → ZH → Prop} {K : ZK} {I : ZI} {L : ZL} {R : ZR} {n s0 : Nat}
theorem zcell_congr {I' : ZI} {L' : ZL} {R' : ZR} {q : Nat} (h1 : I' q = I q) (h2 : L' q = L q) (h3 : R' q = R q) : zcell g K I' L' R' q = zcell g K I L R q := by
  simp only [zcell, h1, h2, h3]
  have e : ∀ ci k, zfv g I' L' R' ci q k = zfv g I L R ci q k := fun ci k => by simp only [zfv, h1, h2, h3]
  simp only [funext (e _)]
theorem zcell_congrK {K' : ZK} {I' : ZI} {L' : ZL} {R' : ZR} {q : Nat} (h0 : K' q = K q) (h1 : I' q = I q) (h2 : L' q = L q) (h3 : R' q = R q) : zcell g K' I' L' R' q = zcell g K I L R q := by
  rw [← zcell_congr (K := K) h1 h2 h3]
  simp only [zcell, h0]
theorem zup_ne {α : Type} {f : Nat → Nat → α} {r i q : Nat} {x : α} (h : q ≠ r) : zup f r i x q = f q := by funext j; simp [zup, h]
theorem zup_eq {α : Type} {f : Nat → Nat → α} {r i : Nat} {x : α} : zup f r i x r = fun j => if j = i then x else f r j := by funext j; simp [zup]
theorem zupA_ne {α : Type} {f : Nat → Nat → α} {r q : Nat} {x : Nat → α} (h : q ≠ r) : zupA f r x q = f q := by simp [zupA, h]
theorem zupA_eq {α : Type} {f : Nat → Nat → α} {r : Nat} {x : Nat → α} : zupA f r x r = x := by simp [zupA]
theorem zmem_in {H : Heap} (hm : zmem g H (K, I, L, R, n, s0)) {r k : Nat} (hk : (K r).1 = k) (h0 : k ≠ 0) : 4 ≤ r ∧ r < n := hm.2.1 r (by rw [hk]; exact h0)
theorem zmem_set {H H1 : Heap} {I' : ZI} {L' : ZL} {R' : ZR} {r : Nat} (hm : zmem g H (K, I, L, R, n, s0)) (hr : 4 ≤ r ∧ r < n) (he : va_at g.1 vwCl (zphi g r, zcell g K I' L' R' r) H1) (ho : ∀ q, q ≠ r → I' q = I q ∧ L' q = L q ∧ R' q = R q) (z : H1.size = H.size) (oq : ∀ q : Nat, q ≠ zphi g r → H1[q]? = H[q]?) : zmem g H1 (K, I', L', R', n, s0) := by
  refine ⟨hm.1, hm.2.1, z.trans hm.2.2.1, ?_⟩
  rw [← zws_set (g := g) (K := K) (I := I) (L := L) (R := R) hr.1 hr.2 rfl (fun q hq => zcell_congr (ho q hq).1 (ho q hq).2.1 (ho q hq).2.2)]
  exact va_P.set hm.2.2.2 (zws_D g _) (zws_at g (K, I, L, R, n, s0) hr.1 hr.2) he oq
theorem zA_phi {r : Nat} (h : 4 ≤ r) : zA g (zphi g r) := by rw [zphi_new g h]; exact Nat.le_add_right _ _
theorem Z.stepH {pc' : Nat} {st' : List Value} {h h1 : ZH} (e1 : h1.2.2.2.2.1 = h.2.2.2.2.1) (e2 : h1.2.2.2.2.2 = h.2.2.2.2.2) (hw : ∀ {p : Program} {e : Env} {R : Room} {s : State} {m : MethodId} {args : Array Value} {below : List Frame} {meth : Method} {c : Code} {H : Heap} {locs : List Loc} {cells slots : Nat} {lsA : Array Slot} {Qm : State → Prop}, ZX g M p R s m args meth c → zmem g H h → va_S (zA g) s.heap H locs → zl g lsA M.2.2.1 ls → (∀ (H1 : Heap) (locs1 : List Loc), zmem g H1 h1 → va_S (zA g) s.heap H1 locs1 → W p l e R s m args below meth c H1 locs1 cells slots Qm (F0 m pc' lsA (st'.map (zv g)))) → W p l e R s m args below meth c H locs cells slots Qm (F0 m pc lsA (st.map (zv g)))) (k : Z g l M pc' ls st' h1 Q) : Z g l M pc ls st h Q := by
  obtain ⟨v, h', dc, ds, hq, hn, hs, kk⟩ := k
  exact ⟨v, h', dc, ds, hq, by rw [hn, e1], by rw [hs, e2], fun p e R s m args below meth c X H locs cells slots lsA hm hS hl h1 h2 => hw X hm hS hl (fun H1 locs1 hm1 hS1 => kk p e R s m args below meth c X H1 locs1 cells slots lsA hm1 hS1 hl h1 h2)⟩
theorem Z.stepN {pc' N : Nat} {st' : List Value} {h h1 : ZH} (e1 : h1.2.2.2.2.1 = h.2.2.2.2.1 + 1) (e2 : h1.2.2.2.2.2 = h.2.2.2.2.2 + N) (hw : ∀ {p : Program} {e : Env} {R : Room} {s : State} {m : MethodId} {args : Array Value} {below : List Frame} {meth : Method} {c : Code} {H : Heap} {locs : List Loc} {cells slots : Nat} {lsA : Array Slot} {Qm : State → Prop}, ZX g M p R s m args meth c → zmem g H h → va_S (zA g) s.heap H locs → zl g lsA M.2.2.1 ls → cells + 1 ≤ R.cells → slots + N ≤ R.slots → (∀ (H1 : Heap), zmem g H1 h1 → va_S (zA g) s.heap H1 locs → W p l e R s m args below meth c H1 locs (cells + 1) (slots + N) Qm (F0 m pc' lsA (st'.map (zv g)))) → W p l e R s m args below meth c H locs cells slots Qm (F0 m pc lsA (st.map (zv g)))) (k : Z g l M pc' ls st' h1 Q) : Z g l M pc ls st h Q := by
  obtain ⟨v, h', dc, ds, hq, hn, hs, kk⟩ := k
  refine ⟨v, h', 1 + dc, N + ds, hq, by rw [hn, e1]; omega, by rw [hs, e2]; omega, fun p e R s m args below meth c X H locs cells slots lsA hm hS hl h1 h2 => hw X hm hS hl (by omega) (by omega) (fun H1 hm1 hS1 => ?_)⟩
  rw [← Nat.add_assoc, ← Nat.add_assoc]
  exact kk p e R s m args below meth c X H1 locs (cells + 1) (slots + N) lsA hm1 hS1 hl (by omega) (by omega)
-- the classes
def zTT (ci : Nat) : u_T := match ci with
  | 0 => TX0
  | 1 => TX1
  | 2 => TX2
  | 3 => TX3
  | 4 => TX4
  | 5 => TX5
  | 6 => TX6
  | 7 => TX7
  | 8 => TX8
  | _ => TX9
def zRR (ci : Nat) : String := match ci with
  | 0 => RX0
  | 1 => RX1
  | 2 => RX2
  | 3 => RX3
  | 4 => RX4
  | 5 => RX5
  | 6 => RX6
  | 7 => RX7
  | 8 => RX8
  | _ => RX9
theorem zcl : ∀ ci, ci < 10 → vwCl[ci]? = some (zRR ci, zTT ci, zN ci)
  | 0, _ => rfl | 1, _ => rfl | 2, _ => rfl | 3, _ => rfl | 4, _ => rfl | 5, _ => rfl | 6, _ => rfl | 7, _ => rfl | 8, _ => rfl | 9, _ => rfl
  | k + 10, h => absurd h (by omega)
theorem ztyok : ∀ ci, ci < 10 → ∀ k, k < zN ci → parseFieldDescriptor (zTT ci k).2.2.1 = some (zty ci k)
  | 0, _ => tyX0_ok | 1, _ => tyX1_ok | 2, _ => tyX2_ok | 3, _ => tyX3_ok | 4, _ => tyX4_ok | 5, _ => tyX5_ok | 6, _ => tyX6_ok | 7, _ => tyX7_ok | 8, _ => tyX8_ok | 9, _ => tyX9_ok
  | k + 10, h => absurd h (by omega)
theorem znm : ∀ ci, ci < 10 → ∀ a, a < zN ci → ∀ b, b < zN ci → a ≠ b → (zTT ci a).2.1 ≠ (zTT ci b).2.1
  | 0, _ => nmX0 | 1, _ => nmX1 | 2, _ => nmX2 | 3, _ => nmX3 | 4, _ => nmX4 | 5, _ => nmX5 | 6, _ => nmX6 | 7, _ => nmX7 | 8, _ => nmX8 | 9, _ => nmX9
  | k + 10, h => absurd h (by omega)
theorem zuw0 : ((List.range 10).all (fun ci => (u_ws (zRR ci) (zTT ci) (zN ci)).all (fun w => decide (w ∈ lw_tbl) && goodWord w))) = true := by decide +kernel
theorem zuw {ci : Nat} (hc : ci < 10) : ∀ w ∈ u_ws (zRR ci) (zTT ci) (zN ci), w ∈ gw := by
  intro w hw
  have h1 := List.all_eq_true.mp (List.all_eq_true.mp zuw0 ci (List.mem_range.mpr hc)) w hw
  simp only [Bool.and_eq_true, decide_eq_true_eq] at h1
  exact gw_in h1.1 h1.2
theorem zcell_obj {r ci : Nat} (hK : (K r).1 = 10 + ci) : zcell g K I L R r = .inr (ci, (List.range (zN ci)).map (zfv g I L R ci r)) := by
  unfold zcell
  rw [hK]
  split <;> first | omega | rw [show 10 + ci - 10 = ci by omega]
theorem zfs_at {r ci k : Nat} (hk : k < zN ci) : ((List.range (zN ci)).map (zfv g I L R ci r))[k]? = some (zfv g I L R ci r k) := by
  rw [List.getElem?_map, List.getElem?_range hk]; rfl
theorem z_getV {a ci kf index : Nat} {v : Value} (hd : decode M.2.1 pc = .ok (.getfield index, 3)) (hK : (K a).1 = 10 + ci) (hc : ci < 10) (hk : kf < zN ci) (hv : zfv g I L R ci a kf = zv g v) (hw : Cond.fieldLink M.1.cls index (zTT ci kf).1 (zTT ci kf).2.1 (zTT ci kf).2.2.1 ∈ gw) (k : Z g l M (pc + 3) ls (v :: st) (K, I, L, R, n, s0) Q) : Z g l M pc ls (.ref a :: st) (K, I, L, R, n, s0) Q := by
  refine Z.step (fun X hm _ _ k => ?_) k
  have hr := zmem_in hm hK (by omega)
  have hat := zws_at g (K, I, L, R, n, s0) hr.1 hr.2
  simp only [zcell_obj hK] at hat
  exact va_get X.1 X.2.1 X.2.2.2.2.2.1 (zuw hc) X.2.2.2.2.1 X.2.2.2.2.2.2.2.2.2.2.1.1 hm.2.2.2 (a - 4) hat (zcl ci hc) kf hk (X.2.2.2.2.2.1 _ hw) (fun _ h9 => h9) (by rw [zfs_at hk, hv]) hd k
theorem z_getI {a ci kf index : Nat} (hd : decode M.2.1 pc = .ok (.getfield index, 3)) (hK : (K a).1 = 10 + ci) (hc : ci < 10) (hk : kf < zN ci) (hs : zsort (zty ci kf) = 0) (hw : Cond.fieldLink M.1.cls index (zTT ci kf).1 (zTT ci kf).2.1 (zTT ci kf).2.2.1 ∈ gw) (k : Z g l M (pc + 3) ls (.int (I a kf) :: st) (K, I, L, R, n, s0) Q) : Z g l M pc ls (.ref a :: st) (K, I, L, R, n, s0) Q := z_getV hd hK hc hk (by simp only [zfv, hs]; rfl) hw k
theorem z_getL {a ci kf index : Nat} (hd : decode M.2.1 pc = .ok (.getfield index, 3)) (hK : (K a).1 = 10 + ci) (hc : ci < 10) (hk : kf < zN ci) (hs : zsort (zty ci kf) = 1) (hw : Cond.fieldLink M.1.cls index (zTT ci kf).1 (zTT ci kf).2.1 (zTT ci kf).2.2.1 ∈ gw) (k : Z g l M (pc + 3) ls (.long (L a kf) :: st) (K, I, L, R, n, s0) Q) : Z g l M pc ls (.ref a :: st) (K, I, L, R, n, s0) Q := z_getV hd hK hc hk (by simp only [zfv, hs]; rfl) hw k
theorem z_getR {a ci kf index r : Nat} (hd : decode M.2.1 pc = .ok (.getfield index, 3)) (hK : (K a).1 = 10 + ci) (hc : ci < 10) (hk : kf < zN ci) (hs : zsort (zty ci kf) = 2) (hw : Cond.fieldLink M.1.cls index (zTT ci kf).1 (zTT ci kf).2.1 (zTT ci kf).2.2.1 ∈ gw) (hr : R a kf = some r) (k : Z g l M (pc + 3) ls (.ref r :: st) (K, I, L, R, n, s0) Q) : Z g l M pc ls (.ref a :: st) (K, I, L, R, n, s0) Q := z_getV hd hK hc hk (by simp only [zfv, hs, hr]; rfl) hw k
theorem z_getRN {a ci kf index : Nat} (hd : decode M.2.1 pc = .ok (.getfield index, 3)) (hK : (K a).1 = 10 + ci) (hc : ci < 10) (hk : kf < zN ci) (hs : zsort (zty ci kf) = 2) (hw : Cond.fieldLink M.1.cls index (zTT ci kf).1 (zTT ci kf).2.1 (zTT ci kf).2.2.1 ∈ gw) (hr : R a kf = none) (k : Z g l M (pc + 3) ls (.null :: st) (K, I, L, R, n, s0) Q) : Z g l M pc ls (.ref a :: st) (K, I, L, R, n, s0) Q := z_getV hd hK hc hk (by simp only [zfv, hs, hr]; rfl) hw k
theorem zV_at {r ci j : Nat} (hj : j < zN ci) : vp_V ((List.range (zN ci)).map (zfv g I L R ci r)) j = zfv g I L R ci r j := by
  unfold vp_V
  rw [List.getD_eq_getElem?_getD, zfs_at hj]; rfl
/-- a store into an object's field, final or not -/
theorem z_putV {a ci kf index : Nat} {v : Value} {I' : ZI} {L' : ZL} {R' : ZR} (hd : decode M.2.1 pc = .ok (.putfield index, 3)) (hK : (K a).1 = 10 + ci) (hc : ci < 10) (hk : kf < zN ci) (hf : (zTT ci kf).2.2.2 = false ∨ ((zTT ci kf).2.2.2 = true ∧ M.1.name = "<init>" ∧ (zTT ci kf).1 = M.1.cls)) (hn : narrow (zty ci kf) (zv g v) = zv g v) (hfit : fits (zty ci kf) (zv g v) = true) (hw : Cond.fieldLink M.1.cls index (zTT ci kf).1 (zTT ci kf).2.1 (zTT ci kf).2.2.1 ∈ gw)
    (hz : ∀ j, j < zN ci → (if j = kf then zv g v else zfv g I L R ci a j) = zfv g I' L' R' ci a j) (ho : ∀ q, q ≠ a → I' q = I q ∧ L' q = L q ∧ R' q = R q) (k : Z g l M (pc + 3) ls st (K, I', L', R', n, s0) Q) : Z g l M pc ls (v :: .ref a :: st) (K, I, L, R, n, s0) Q := by
  refine Z.stepH (h := (K, I, L, R, n, s0)) (h1 := (K, I', L', R', n, s0)) rfl rfl (fun {p e Rm s m args below meth c H locs cells slots lsA Qm} X hm hS _ kk => ?_) k
  have hr := zmem_in hm hK (by omega)
  have hat := zws_at g (K, I, L, R, n, s0) hr.1 hr.2
  simp only [zcell_obj hK] at hat
  have hts := X.2.2.2.2.2.1
  have hown := X.2.2.2.2.1
  have hKt := X.2.2.2.2.2.2.2.2.2.2.1.1
  have hap := va_apart (own := M.1.cls) hts (zuw hc) (zty ci) (ztyok ci hc) (znm ci hc) hKt (zcl ci hc)
  obtain ⟨r, h1, cell, q1, q2, q3, q4⟩ := hm.2.2.2 (a - 4) _ hat
  have hre : r = (zRR ci, zTT ci, zN ci) := Option.some.inj (h1.symm.trans (zcl ci hc))
  subst hre
  obtain ⟨hSl, hfc, kC, hkC, hkind⟩ := hKt.1 ci _ (zcl ci hc)
  obtain ⟨cf, kf', fi, f, hi, hsl⟩ := hSl kf hk
  have hst := (u_facts hfc hkC (u_lays hts (zuw hc) hk) hi).1
  have hlay := hts _ (zuw hc _ (u_in_lay hk))
  have fin : ∀ H' : Heap, H'[zphi g a]? = some (cell.setSlot f.slot (zv g v)) → H'.size = H.size → (∀ q, q ≠ zphi g a → H'[q]? = H[q]?) → W p l e Rm s m args below meth c H' (locs ++ [⟨zphi g a, f.slot⟩]) cells slots Qm (F0 m (pc + 3) lsA (st.map (zv g))) := by
    intro H' e1 e2 e3
    refine kk H' _ (zmem_set hm hr ?_ ho e2 e3) (hS.put e2 e3 (zA_phi hr.1))
    rw [zcell_obj hK]
    rw [hsl] at e1
    exact ⟨_, zcl ci hc, t_OB.to (V := updV (vp_V ((List.range (zN ci)).map (zfv g I L R ci a))) kf (zv g v)) ⟨_, e1, q2, q3, t_set q4 hap hk (zv g v)⟩ (fun j hj => by
      rw [zV_at hj, ← hz j hj]
      unfold updV
      by_cases hjk : j = kf
      · rw [if_pos hjk, if_pos hjk]
      · rw [if_neg hjk, if_neg hjk, zV_at hj])⟩
  rcases hf with hfin | ⟨hfin, hin2, hdecl⟩
  · unfold u_lay at hlay
    rw [if_neg (by rw [hfin]; decide)] at hlay
    have h6 := u_store hfc hkC hkind hlay hi (ztyok ci hc kf hk) hn hfit
    exact W.putK X.1 X.2.1 (f := f) ⟨hown, hts _ hw, ⟨_, _, _, hi⟩, hst⟩ (by rw [q2]; exact h6) q1 q3 (by rw [hsl]; exact k2_hasslot (q4 kf hk)) rfl rfl hd fin
  · unfold u_lay at hlay
    rw [if_pos hfin] at hlay
    have hcf : m.cls = cf := by
      obtain ⟨_, _, c', _, _, _, -, -, hf', -, -, -, hown2, -⟩ := Cond.laysFinal_spec hlay
      have e1 : c' = cf := by have := hi.symm.trans hf'; simp at this; exact this.1.symm
      rw [hdecl] at hown2
      rw [← e1]; exact Option.some.inj (hown.symm.trans hown2)
    have h6 := u_fits hfc hkC hkind (Or.inr hlay) hi (ztyok ci hc kf hk) hn hfit
    exact W.putFinK X.1 X.2.1 hown (hts _ hw) hi hst hcf (X.2.2.2.2.2.2.2.1.trans hin2) (by rw [q2]; exact h6) q1 q3 (by rw [hsl]; exact k2_hasslot (q4 kf hk)) rfl rfl hd fin
/-- may be written here: not final, or by its own class's constructor -/
def zfinok (M : ZM) (ci kf : Nat) : Bool := !(zTT ci kf).2.2.2 || (M.1.name == "<init>" && (zTT ci kf).1 == M.1.cls)
theorem zfinok_spec {ci kf : Nat} (h : zfinok M ci kf = true) : (zTT ci kf).2.2.2 = false ∨ ((zTT ci kf).2.2.2 = true ∧ M.1.name = "<init>" ∧ (zTT ci kf).1 = M.1.cls) := by
  unfold zfinok at h
  cases hb : (zTT ci kf).2.2.2 with
  | false => exact Or.inl rfl
  | true => rw [hb] at h; simp at h; exact Or.inr ⟨rfl, h.1, h.2⟩
theorem zfv_upI {a ci kf j : Nat} {x : Int32} (hs : zsort (zty ci kf) = 0) : (if j = kf then zv g (.int x) else zfv g I L R ci a j) = zfv g (zup I a kf x) L R ci a j := by
  by_cases h : j = kf
  · subst h
    simp only [if_true, zfv, hs, zup_eq]; rfl
  · simp only [if_neg h, zfv, zup_eq]
theorem zfv_upL {a ci kf j : Nat} {x : Int64} (hs : zsort (zty ci kf) = 1) : (if j = kf then zv g (.long x) else zfv g I L R ci a j) = zfv g I (zup L a kf x) R ci a j := by
  by_cases h : j = kf
  · subst h
    simp only [if_true, zfv, hs, zup_eq]; rfl
  · simp only [if_neg h, zfv, zup_eq]
theorem zfv_upR {a ci kf j : Nat} {x : Option Nat} (hs : zsort (zty ci kf) = 2) : (if j = kf then zv g (va_rf x) else zfv g I L R ci a j) = zfv g I L (zup R a kf x) ci a j := by
  by_cases h : j = kf
  · subst h
    simp only [if_true, zfv, hs, zup_eq]
    cases x <;> rfl
  · simp only [if_neg h, zfv, zup_eq]
theorem z_putI {a ci kf index : Nat} {x : Int32} (hd : decode M.2.1 pc = .ok (.putfield index, 3)) (hK : (K a).1 = 10 + ci) (hc : ci < 10) (hk : kf < zN ci) (hs : zsort (zty ci kf) = 0) (hf : zfinok M ci kf = true) (hn : narrow (zty ci kf) (.int x) = .int x) (hfit : fits (zty ci kf) (.int x) = true) (hw : Cond.fieldLink M.1.cls index (zTT ci kf).1 (zTT ci kf).2.1 (zTT ci kf).2.2.1 ∈ gw) (k : Z g l M (pc + 3) ls st (K, zup I a kf x, L, R, n, s0) Q) : Z g l M pc ls (.int x :: .ref a :: st) (K, I, L, R, n, s0) Q :=
  z_putV hd hK hc hk (zfinok_spec hf) hn hfit hw (fun _ _ => zfv_upI hs) (fun _ hq => ⟨zup_ne hq, rfl, rfl⟩) k
theorem z_putL {a ci kf index : Nat} {x : Int64} (hd : decode M.2.1 pc = .ok (.putfield index, 3)) (hK : (K a).1 = 10 + ci) (hc : ci < 10) (hk : kf < zN ci) (hs : zsort (zty ci kf) = 1) (hf : zfinok M ci kf = true) (hn : narrow (zty ci kf) (.long x) = .long x) (hfit : fits (zty ci kf) (.long x) = true) (hw : Cond.fieldLink M.1.cls index (zTT ci kf).1 (zTT ci kf).2.1 (zTT ci kf).2.2.1 ∈ gw) (k : Z g l M (pc + 3) ls st (K, I, zup L a kf x, R, n, s0) Q) : Z g l M pc ls (.long x :: .ref a :: st) (K, I, L, R, n, s0) Q :=
  z_putV hd hK hc hk (zfinok_spec hf) hn hfit hw (fun _ _ => zfv_upL hs) (fun _ hq => ⟨rfl, zup_ne hq, rfl⟩) k
theorem z_putR {a ci kf index x : Nat} (hd : decode M.2.1 pc = .ok (.putfield index, 3)) (hK : (K a).1 = 10 + ci) (hc : ci < 10) (hk : kf < zN ci) (hs : zsort (zty ci kf) = 2) (hf : zfinok M ci kf = true) (hn : ∀ y, narrow (zty ci kf) (.ref y) = .ref y) (hfit : ∀ y, fits (zty ci kf) (.ref y) = true) (hw : Cond.fieldLink M.1.cls index (zTT ci kf).1 (zTT ci kf).2.1 (zTT ci kf).2.2.1 ∈ gw) (k : Z g l M (pc + 3) ls st (K, I, L, zup R a kf (some x), n, s0) Q) : Z g l M pc ls (.ref x :: .ref a :: st) (K, I, L, R, n, s0) Q :=
  z_putV hd hK hc hk (zfinok_spec hf) (hn _) (hfit _) hw (fun _ _ => zfv_upR (x := some x) hs) (fun _ hq => ⟨rfl, rfl, zup_ne hq⟩) k
theorem z_putRN {a ci kf index : Nat} (hd : decode M.2.1 pc = .ok (.putfield index, 3)) (hK : (K a).1 = 10 + ci) (hc : ci < 10) (hk : kf < zN ci) (hs : zsort (zty ci kf) = 2) (hf : zfinok M ci kf = true) (hn : narrow (zty ci kf) .null = .null) (hfit : fits (zty ci kf) .null = true) (hw : Cond.fieldLink M.1.cls index (zTT ci kf).1 (zTT ci kf).2.1 (zTT ci kf).2.2.1 ∈ gw) (k : Z g l M (pc + 3) ls st (K, I, L, zup R a kf none, n, s0) Q) : Z g l M pc ls (.null :: .ref a :: st) (K, I, L, R, n, s0) Q :=
  z_putV hd hK hc hk (zfinok_spec hf) hn hfit hw (fun _ _ => zfv_upR (x := none) hs) (fun _ hq => ⟨rfl, rfl, zup_ne hq⟩) k
end ZHeap
