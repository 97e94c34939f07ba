section ZNew
variable {g : ZG} {l : Launch} {M : ZM} {pc : Nat} {ls : List (Option Value)} {st : List Value} {Q : Option Value → ZH → Prop} {K : ZK} {I : ZI} {L : ZL} {R : ZR} {n s0 : Nat}
theorem zkp_ne {r q : Nat} {x : Nat × Nat} (h : q ≠ r) : zkp K r x q = K q := by simp [zkp, h]
theorem zkp_eq {r : Nat} {x : Nat × Nat} : zkp K r x r = x := by simp [zkp]
theorem zmem_push {H H1 : Heap} {K' : ZK} {I' : ZI} {L' : ZL} {R' : ZR} {s1 kd len : Nat} (hm : zmem g H (K, I, L, R, n, s0)) (hKe : K' = zkp K n (kd, len)) (he : va_at g.1 vwCl (zphi g n, zcell g K' I' L' R' n) H1) (ho : ∀ q, q ≠ n → I' q = I q ∧ L' q = L q ∧ R' q = R q) (z : H1.size = H.size + 1) (oq : ∀ q : Nat, q < H.size → H1[q]? = H[q]?) : zmem g H1 (K', I', L', R', n + 1, s1) := by
  subst hKe
  have h4 : 4 ≤ n := hm.1
  have hz : H.size = g.2.2.2.1 + (n - 4) := hm.2.2.1
  refine ⟨by show 4 ≤ n + 1; omega, fun a ha => ?_, by show H1.size = _ + (n + 1 - 4); rw [z, hz]; omega, ?_⟩
  · show 4 ≤ a ∧ a < n + 1
    by_cases hq : a = n
    · subst hq; omega
    · have h1 := hm.2.1 a (by have ha' : (zkp K n (kd, len) a).1 ≠ 0 := ha; rw [zkp_ne hq] at ha'; exact ha')
      have : a < n := h1.2
      exact ⟨h1.1, by omega⟩
  · rw [← zws_push (g := g) (K := K) (I := I) (L := L) (R := R) (s := s0) h4 rfl (fun q hq => zcell_congrK (zkp_ne hq) (ho q hq).1 (ho q hq).2.1 (ho q hq).2.2)]
    refine va_P.app (va_P.kept hm.2.2.2 (fun k q hk => oq q.1 ((hm.2.2.2 k q hk).lt))) (fun k x hx => ?_)
    have hz1 : k < 1 := (List.getElem?_eq_some_iff.mp hx).1
    rw [show k = 0 by omega] at hx
    cases hx
    rw [← zphi_new g h4]
    exact he
theorem va_S_grow {A : Nat → Prop} {H0 H H1 : Heap} {locs : List Loc} (hS : va_S A H0 H locs) (z : H.size ≤ H1.size) (oq : ∀ q : Nat, q < H.size → H1[q]? = H[q]?) : va_S A H0 H1 locs :=
  ⟨Nat.le_trans hS.1 z, fun x h1 h2 => (oq x (Nat.lt_of_lt_of_le h1 hS.1)).trans (hS.2.1 x h1 h2), hS.2.2⟩
theorem z_newi {N : Nat} {x : Int32} (hd : decode M.2.1 pc = .ok (.newarray .int, 2)) (hw : Cond.arrayClass .int ∈ gw) (h0 : ¬ x < 0) (hN : x.toNatClampNeg = N) (hb : N ≤ 100000000) (k : Z g l M (pc + 2) ls (.ref n :: st) (zkp K n (1, N), zupA I n (fun _ => 0), L, R, n + 1, s0 + N) Q) : Z g l M pc ls (.int x :: st) (K, I, L, R, n, s0) Q := by
  refine Z.stepN (N := N) (h := (K, I, L, R, n, s0)) (h1 := (zkp K n (1, N), zupA I n (fun _ => 0), L, R, n + 1, s0 + N)) rfl rfl (fun X hm hS _ hc hs kk => ?_) k
  have hz : _ = g.2.2.2.1 + (n - 4) := hm.2.2.1
  refine va_newaK X.1 X.2.1 (atype := .int) (X.2.2.2.2.2.1 _ hw) rfl hd rfl h0 hN (by show N * 4 ≤ _; omega) hc hs (hz.trans (zphi_new g hm.1).symm) fun H1 cA e1 z1 o1 hAr hNm => ?_
  have hcA : cA = g.2.1 1 := Option.some.inj (hNm.symm.trans (X.2.2.2.2.2.2.2.2.2.2.1.1.2 0 _ rfl).2)
  subst hcA
  rw [← hz.trans (zphi_new g hm.1).symm] at z1 o1
  refine kk H1 (zmem_push hm rfl ?_ (fun q hq => ⟨zupA_ne hq, rfl, rfl⟩) z1 o1) (va_S_grow hS (by omega) o1)
  rw [zcell_1 zkp_eq, zupA_eq]
  exact e1
theorem z_newb {N : Nat} {x : Int32} (hd : decode M.2.1 pc = .ok (.newarray .byte, 2)) (hw : Cond.arrayClass .byte ∈ gw) (h0 : ¬ x < 0) (hN : x.toNatClampNeg = N) (hb : N ≤ 100000000) (k : Z g l M (pc + 2) ls (.ref n :: st) (zkp K n (3, N), zupA I n (fun _ => 0), L, R, n + 1, s0 + N) Q) : Z g l M pc ls (.int x :: st) (K, I, L, R, n, s0) Q := by
  refine Z.stepN (N := N) (h := (K, I, L, R, n, s0)) (h1 := (zkp K n (3, N), zupA I n (fun _ => 0), L, R, n + 1, s0 + N)) rfl rfl (fun X hm hS _ hc hs kk => ?_) k
  have hz : _ = g.2.2.2.1 + (n - 4) := hm.2.2.1
  refine va_newaK X.1 X.2.1 (atype := .byte) (X.2.2.2.2.2.1 _ hw) rfl hd rfl h0 hN (by show N * 1 ≤ _; omega) hc hs (hz.trans (zphi_new g hm.1).symm) fun H1 cA e1 z1 o1 hAr hNm => ?_
  have hcA : cA = g.2.1 3 := Option.some.inj (hNm.symm.trans (X.2.2.2.2.2.2.2.2.2.2.1.1.2 2 _ rfl).2)
  subst hcA
  rw [← hz.trans (zphi_new g hm.1).symm] at z1 o1
  refine kk H1 (zmem_push hm rfl ?_ (fun q hq => ⟨zupA_ne hq, rfl, rfl⟩) z1 o1) (va_S_grow hS (by omega) o1)
  rw [zcell_3 zkp_eq, zupA_eq]
  exact e1
theorem z_newl {N : Nat} {x : Int32} (hd : decode M.2.1 pc = .ok (.newarray .long, 2)) (hw : Cond.arrayClass .long ∈ gw) (h0 : ¬ x < 0) (hN : x.toNatClampNeg = N) (hb : N ≤ 60000000) (k : Z g l M (pc + 2) ls (.ref n :: st) (zkp K n (2, N), I, zupA L n (fun _ => 0), R, n + 1, s0 + N) Q) : Z g l M pc ls (.int x :: st) (K, I, L, R, n, s0) Q := by
  refine Z.stepN (N := N) (h := (K, I, L, R, n, s0)) (h1 := (zkp K n (2, N), I, zupA L n (fun _ => 0), R, n + 1, s0 + N)) rfl rfl (fun X hm hS _ hc hs kk => ?_) k
  have hz : _ = g.2.2.2.1 + (n - 4) := hm.2.2.1
  refine va_newaK X.1 X.2.1 (atype := .long) (X.2.2.2.2.2.1 _ hw) rfl hd rfl h0 hN (by show N * 8 ≤ _; omega) hc hs (hz.trans (zphi_new g hm.1).symm) fun H1 cA e1 z1 o1 hAr hNm => ?_
  have hcA : cA = g.2.1 2 := Option.some.inj (hNm.symm.trans (X.2.2.2.2.2.2.2.2.2.2.1.1.2 1 _ rfl).2)
  subst hcA
  rw [← hz.trans (zphi_new g hm.1).symm] at z1 o1
  refine kk H1 (zmem_push hm rfl ?_ (fun q hq => ⟨rfl, zupA_ne hq, rfl⟩) z1 o1) (va_S_grow hS (by omega) o1)
  rw [zcell_2 zkp_eq, zupA_eq]
  exact e1
theorem z_newq {N index kd ci : Nat} {x : Int32} (hd : decode M.2.1 pc = .ok (.anewarray index, 3)) (hkc : (kd = 4 ∧ ci = 3) ∨ (kd = 5 ∧ ci = 5)) (hw : Cond.classLink M.1.cls index (zRR ci) ∈ gw) (h0 : ¬ x < 0) (hN : x.toNatClampNeg = N) (hb : N ≤ 100000000) (k : Z g l M (pc + 3) ls (.ref n :: st) (zkp K n (kd, N), I, L, zupA R n (fun _ => none), n + 1, s0 + N) Q) : Z g l M pc ls (.int x :: st) (K, I, L, R, n, s0) Q := by
  refine Z.stepN (N := N) (h := (K, I, L, R, n, s0)) (h1 := (zkp K n (kd, N), I, L, zupA R n (fun _ => none), n + 1, s0 + N)) rfl rfl (fun {p e Rm s m args below meth c H locs cells slots lsA Qm} X hm hS _ hc hs kk => ?_) k
  have hz : H.size = g.2.2.2.1 + (n - 4) := hm.2.2.1
  subst hN
  have hKt := X.2.2.2.2.2.2.2.2.2.2.1
  have hAO : va_AO (zRR ci) s := by
    rcases hkc with ⟨-, rfl⟩ | ⟨-, rfl⟩
    · exact hKt.2.2.2.1
    · exact hKt.2.2.2.2
  refine W.anew X.1 X.2.1 X.2.2.2.2.1 (X.2.2.2.2.2.1 _ hw) (va_AO.use hAO) rfl hd rfl h0 (by omega) hc hs fun cA kA comp f1 f2 f3 f4 => ?_
  generalize hH1 : H.push ({ cls := cA, slots := Array.replicate x.toNatClampNeg .null, vm := .none } : Cell) = H1
  have z1 : H1.size = H.size + 1 := by rw [← hH1, Array.size_push]
  have e1 : H1[H.size]? = some (arrV cA x.toNatClampNeg (fun _ => .null)) := by rw [← hH1, Array.getElem?_push_size, ← arrV_new]
  have o1 : ∀ q : Nat, q < H.size → H1[q]? = H[q]? := fun q hq => by rw [← hH1, Array.getElem?_push, if_neg (Nat.ne_of_lt hq)]
  have hcA : cA = g.2.1 kd := by
    rcases hkc with ⟨rfl, rfl⟩ | ⟨rfl, rfl⟩
    · obtain ⟨_, _, -, -, -, r4⟩ := (hKt.1.2 3 _ rfl).2
      exact Option.some.inj (f1.symm.trans r4)
    · obtain ⟨_, _, -, -, -, r4⟩ := (hKt.1.2 4 _ rfl).2
      exact Option.some.inj (f1.symm.trans r4)
  subst hcA
  have hp := hz.trans (zphi_new g hm.1).symm
  have k2 := kk H1 (zmem_push hm rfl ?_ (fun q hq => ⟨rfl, rfl, zupA_ne hq⟩) z1 o1) (va_S_grow hS (by omega) o1)
  · rw [hp]
    exact k2
  · rw [hp] at e1
    rcases hkc with ⟨rfl, rfl⟩ | ⟨rfl, rfl⟩
    · rw [zcell_4 zkp_eq, zupA_eq]
      exact e1
    · rw [zcell_5 zkp_eq, zupA_eq]
      exact e1
def znf : FieldType → Bool
  | .float => false
  | .double => false
  | _ => true
theorem znf0 : ((List.range 10).all (fun ci => (List.range (zN ci)).all (fun j => znf (zty ci j)))) = true := by decide +kernel
theorem znf1 {ci j : Nat} (hc : ci < 10) (hj : j < zN ci) : znf (zty ci j) = true := List.all_eq_true.mp (List.all_eq_true.mp znf0 ci (List.mem_range.mpr hc)) j (List.mem_range.mpr hj)
theorem z_new {index ci : Nat} (hd : decode M.2.1 pc = .ok (.new index, 3)) (hc : ci < 10) (hw : Cond.classLink M.1.cls index (zRR ci) ∈ gw) (hi : Cond.instantiable (zRR ci) (zN ci) ∈ gw) (hini : Cond.initialized (zRR ci) ∈ gw) (k : Z g l M (pc + 3) ls (.ref n :: st) (zkp K n (10 + ci, 0), zupA I n (fun _ => 0), zupA L n (fun _ => 0), zupA R n (fun _ => none), n + 1, s0 + zN ci) Q) : Z g l M pc ls st (K, I, L, R, n, s0) Q := by
  refine Z.stepN (N := zN ci) (h := (K, I, L, R, n, s0)) (h1 := (zkp K n (10 + ci, 0), zupA I n (fun _ => 0), zupA L n (fun _ => 0), zupA R n (fun _ => none), n + 1, s0 + zN ci)) rfl rfl (fun X hm hS _ hcc hss kk => ?_) k
  have hz : _ = g.2.2.2.1 + (n - 4) := hm.2.2.1
  have hp := hz.trans (zphi_new g hm.1).symm
  have hts := X.2.2.2.2.2.1
  have hKn := X.2.2.2.2.2.2.2.2.2.2.1.1.1 ci _ (zcl ci hc)
  refine W.newcK X.1 X.2.1 X.2.2.2.2.1 (hts _ hw) (hts _ hi) (hts _ hini) rfl hd hcc hss hKn.2.1 hp fun H1 kC hkC e1 z1 o1 => ?_
  rw [← hp] at z1 o1
  refine kk H1 (zmem_push hm rfl ?_ (fun q hq => ⟨zupA_ne hq, zupA_ne hq, zupA_ne hq⟩) z1 o1) (va_S_grow hS (by omega) o1)
  rw [zcell_obj (ci := ci) (by rw [zkp_eq])]
  refine ⟨_, zcl ci hc, (u_born (zty ci) hts (zuw hc) hKn hkC e1 (ztyok ci hc)).to (fun j hj => ?_)⟩
  rw [zV_at hj]
  simp only [zfv, zupA_eq]
  have hnf := znf1 hc hj
  revert hnf
  cases zty ci j <;> intro hnf <;> first | rfl | cases hnf
/-- a copy of ints from one array into another -/
theorem z_copyi {a b la lb index : Nat} {sp dp m : Int32} (hd : decode M.2.1 pc = .ok (.invokestatic index, 3)) (hl : Cond.methodLink M.1.cls index arraycopyName ∈ gw) (hnat : Cond.native arraycopyName ∈ gw) (hsta : Cond.static arraycopyName ∈ gw) (hini : Cond.initialized "java/lang/System" ∈ gw) (hKa : K a = (1, la)) (hKb : K b = (1, lb))
    (h1 : ¬ sp < 0) (h2 : ¬ dp < 0) (h3 : ¬ m < 0) (h4 : sp.toNatClampNeg + m.toNatClampNeg ≤ la) (h5 : dp.toNatClampNeg + m.toNatClampNeg ≤ lb) (hfr : 1 ≤ M.2.2.2.2.1) (hlo : (st.map fun v => v.category).sum + (nativeFrameWords "java/lang/System" "arraycopy" 5 + 11) ≤ M.2.2.2.2.2)
    (k : Z g l M (pc + 3) ls st (K, zupA I b (va_cpy (I a) (I b) sp.toNatClampNeg dp.toNatClampNeg m.toNatClampNeg), L, R, n, s0) Q) : Z g l M pc ls (.int m :: .int dp :: .ref b :: .int sp :: .ref a :: st) (K, I, L, R, n, s0) Q := by
  refine Z.stepH (h := (K, I, L, R, n, s0)) (h1 := (K, zupA I b (va_cpy (I a) (I b) sp.toNatClampNeg dp.toNatClampNeg m.toNatClampNeg), L, R, n, s0)) rfl rfl (fun {p e Rm s mm args below meth c H locs cells slots lsA Qm} X hm hS hls kk => ?_) k
  have nn : ∀ z : Int32, ¬ z < 0 → z.toInt = (z.toNatClampNeg : Int) := by
    intro z hz
    have hz0 : (0 : Int) ≤ z.toInt := by
      have := Int32.not_lt.mp hz
      simpa using Int32.le_iff_toInt_le.mp this
    show z.toInt = ((z.toInt.toNat : Nat) : Int)
    omega
  have hra := zmem_in' hm hKa (by omega)
  have hrb := zmem_in' hm hKb (by omega)
  have hc0 := hm.2.2.2 (a - 4) _ (zws_at g (K, I, L, R, n, s0) hra.1 hra.2)
  have hc1 := hm.2.2.2 (b - 4) _ (zws_at g (K, I, L, R, n, s0) hrb.1 hrb.2)
  simp only [zcell_1 hKa] at hc0
  simp only [zcell_1 hKb] at hc1
  have hc0 : H[zphi g a]? = some (vp_cell (g.2.1 1) (la, .inl (I a))) := hc0
  have hc1 : H[zphi g b]? = some (vp_cell (g.2.1 1) (lb, .inl (I b))) := hc1
  have hKt := X.2.2.2.2.2.2.2.2.2.2.1.1
  have hts := X.2.2.2.2.2.1
  obtain ⟨-, k0, hk0, cm0, hkk0⟩ := (hKt.2 0 _ rfl).1 la (fun j => .int (I a j))
  have esum : ((st.map (zv g)).map fun v => v.category).sum = (st.map fun v => v.category).sum := by
    rw [List.map_map]; congr 1; exact List.map_congr_left (fun v _ => zv_cat g v)
  intro T hT XX
  obtain ⟨vm', X', step⟩ := XX.arraycopy X.1 X.2.2.2.2.1 (hts _ hl) (hts _ hnat) (hts _ hsta) (hts _ hini) (src := zphi g a) (dst := zphi g b) (cs := vp_cell (g.2.1 1) (la, .inl (I a))) (cd := vp_cell (g.2.1 1) (lb, .inl (I b))) (srcPos := sp) (destPos := dp) (n := m) (by rw [hT]; exact hc0) (by rw [hT]; exact hc1)
    (fun _ h => by cases h) (fun _ h => by cases h) (fun h => by cases h) (fun h => by cases h) hk0 hk0 hkk0 hkk0 (by simp [refKind]) h1 h2 h3
    (by rw [nn sp h1, nn m h3]; show ¬ _ > ((arrV _ la (fun j => .int (I a j))).slots.size : Int); rw [arrV_size]; omega)
    (by rw [nn dp h2, nn m h3]; show ¬ _ > ((arrV _ lb (fun j => .int (I b j))).slots.size : Int); rw [arrV_size]; omega)
    (fun vm₁ _ i hi => by
      have e : (vp_cell (g.2.1 1) (la, .inl (I a))).slots.getD (sp.toNatClampNeg + i) .null = .int (I a (sp.toNatClampNeg + i)) := by
        show (arrV _ la (fun j => .int (I a j))).slots.getD _ _ = _
        rw [Array.getD_eq_getD_getElem?, arrV_read _ _ (by omega)]
        rfl
      refine ⟨?_, ?_⟩
      · rw [e]; rfl
      · rw [e]
        exact trivial)
    (g := F0 mm pc lsA (.int m :: .int dp :: .ref (zphi g b) :: .int sp :: .ref (zphi g a) :: st.map (zv g))) rfl (by rw [X.2.2.2.1]; exact hls.1) (rest := st.map (zv g)) rfl (by rw [X.2.1]; exact hd) (Nat.le_trans hfr X.2.2.2.2.2.2.2.2.1) (by show 2 * 0 + _ + _ ≤ _; rw [esum]; have := X.2.2.2.2.2.2.2.2.2.1; omega)
  have e1 : copied (vp_cell (g.2.1 1) (la, .inl (I a))) (vp_cell (g.2.1 1) (lb, .inl (I b))) sp dp m = vp_cell (g.2.1 1) (lb, .inl (va_cpy (I a) (I b) sp.toNatClampNeg dp.toNatClampNeg m.toNatClampNeg)) := va_copied (fun z => .int z) _ _ (I a) (I b) h4
  rw [e1] at X' step
  have hlt : zphi g b < H.size := (Array.getElem?_eq_some_iff.mp hc1).1
  have hheap : ((T.setVm vm').setCell (zphi g b) (vp_cell (g.2.1 1) (lb, .inl (va_cpy (I a) (I b) sp.toNatClampNeg dp.toNatClampNeg m.toNatClampNeg)))).heap = H.setIfInBounds (zphi g b) (vp_cell (g.2.1 1) (lb, .inl (va_cpy (I a) (I b) sp.toNatClampNeg dp.toNatClampNeg m.toNatClampNeg))) := by rw [← hT]; rfl
  have oq : ∀ q : Nat, q ≠ zphi g b → (H.setIfInBounds (zphi g b) (vp_cell (g.2.1 1) (lb, .inl (va_cpy (I a) (I b) sp.toNatClampNeg dp.toNatClampNeg m.toNatClampNeg))))[q]? = H[q]? := fun q hq => by simp [Array.getElem?_setIfInBounds, Ne.symm hq]
  have zz : (H.setIfInBounds (zphi g b) (vp_cell (g.2.1 1) (lb, .inl (va_cpy (I a) (I b) sp.toNatClampNeg dp.toNatClampNeg m.toNatClampNeg)))).size = H.size := by simp
  obtain ⟨t, a1, b1⟩ := kk _ _ (zmem_set hm hrb (by rw [zcell_1 hKb, zupA_eq]; show (H.setIfInBounds (zphi g b) _)[zphi g b]? = some _; simp [Array.getElem?_setIfInBounds, hlt]) (fun q hq => ⟨zupA_ne hq, rfl, rfl⟩) zz oq) ⟨by rw [zz]; exact hS.1, fun q g1 g2 => by
      rw [oq q (fun e => g2 (by rw [e]; exact zA_phi hrb.1))]
      exact hS.2.1 q g1 g2, fun q hq => by
      rcases List.mem_append.mp hq with h | h
      · exact hS.2.2 q h
      · obtain ⟨z, -, hz⟩ := List.mem_map.mp h
        rw [← hz]
        exact zA_phi hrb.1⟩ _ hheap X'
  exact ⟨t, step t a1, b1⟩
theorem z_castA {a len index : Nat} (hd : decode M.2.1 pc = .ok (.checkcast index, 3)) (hw : Cond.classLink M.1.cls index "[I" ∈ gw) (hK : K a = (1, len)) (k : Z g l M (pc + 3) ls (.ref a :: st) (K, I, L, R, n, s0) Q) : Z g l M pc ls (.ref a :: st) (K, I, L, R, n, s0) Q := by
  refine Z.step (fun X hm _ _ k => ?_) k
  have hr := zmem_in' hm hK (by omega)
  have hat := zws_at g (K, I, L, R, n, s0) hr.1 hr.2
  simp only [zcell_1 hK] at hat
  exact va_castA X.1 X.2.1 X.2.2.2.2.1 (X.2.2.2.2.2.1 _ hw) hm.2.2.2 (a - 4) hat (X.2.2.2.2.2.2.2.2.2.2.1.1.2 0 _ rfl).2 hd k
theorem z_clone {a len index : Nat} (hd : decode M.2.1 pc = .ok (.invokevirtual index, 3)) (hl : Cond.methodLink M.1.cls index ⟨"[I", "clone", "()Ljava/lang/Object;"⟩ ∈ gw) (hsm : Cond.sameMethod "[I" "java/lang/Object" "clone" "()Ljava/lang/Object;" ∈ gw) (hnat : Cond.native ⟨"java/lang/Object", "clone", "()Ljava/lang/Object;"⟩ ∈ gw) (hinst : Cond.instanceMethod ⟨"java/lang/Object", "clone", "()Ljava/lang/Object;"⟩ ∈ gw)
    (hsel : Cond.selects "[I" ⟨"[I", "clone", "()Ljava/lang/Object;"⟩ ⟨"java/lang/Object", "clone", "()Ljava/lang/Object;"⟩ ∈ gw) (hK : K a = (1, len)) (hfr : 1 ≤ M.2.2.2.2.1) (hlo : (st.map fun v => v.category).sum + 14 ≤ M.2.2.2.2.2)
    (k : Z g l M (pc + 3) ls (.ref n :: st) (zkp K n (1, len), zupA I n (I a), L, R, n + 1, s0 + len) Q) : Z g l M pc ls (.ref a :: st) (K, I, L, R, n, s0) Q := by
  refine Z.stepN (N := len) (h := (K, I, L, R, n, s0)) (h1 := (zkp K n (1, len), zupA I n (I a), L, R, n + 1, s0 + len)) rfl rfl (fun {p e Rm s m args below meth c H locs cells slots lsA Qm} X hm hS hls hcc hss kk => ?_) k
  have hz : H.size = g.2.2.2.1 + (n - 4) := hm.2.2.1
  have hp := hz.trans (zphi_new g hm.1).symm
  have hr := zmem_in' hm hK (by omega)
  have hc0 := hm.2.2.2 (a - 4) _ (zws_at g (K, I, L, R, n, s0) hr.1 hr.2)
  simp only [zcell_1 hK] at hc0
  have hc0 : H[zphi g a]? = some (arrV (g.2.1 1) len (fun j => .int (I a j))) := hc0
  have hKt := X.2.2.2.2.2.2.2.2.2.2.1
  have hts := X.2.2.2.2.2.1
  have hnm : s.vm.findClass "[I" = some (g.2.1 1) := (hKt.1.2 0 _ rfl).2
  obtain ⟨c0, t0', f1, f2, f3⟩ := Cond.castable_spec (va_Nw.use (A := args) rfl hKt.2.2.1)
  cases hnm.symm.trans f1
  have esum : ((st.map (zv g)).map fun v => v.category).sum = (st.map fun v => v.category).sum := by
    rw [List.map_map]; congr 1; exact List.map_congr_left (fun v _ => zv_cat g v)
  intro T hT XX
  have hcellT : T.heap[zphi g a]? = some (arrV (g.2.1 1) len (fun j => .int (I a j))) := by rw [hT]; exact hc0
  obtain ⟨-, kA, hkA, comp, hkind⟩ := State.isArrayOf_alike XX.warmed.alike ((hKt.1.2 0 _ rfl).1 0 (fun _ => .null))
  obtain ⟨-, kS, hkS, compS, hkindS⟩ := (hKt.1.2 0 _ rfl).1 0 (fun _ => .null)
  obtain ⟨vm', X', step⟩ := XX.cloneArray X.1 X.2.2.2.2.1 (hts _ hl) (hts _ hsm) (hts _ hnat) (hts _ hinst) (hts _ hsel) (a := zphi g a) (cell := arrV (g.2.1 1) len (fun j => .int (I a j))) hcellT (fun k h => by cases h) (fun h => by cases h) hnm f2 f3
    (fun i v hv => by
      have hk' : T.vm.classes[g.2.1 1]? = some kA := hkA
      have hf : fits .int v = true := va_fit (cA := g.2.1 1) (n := len) (F := fun j => .int (I a j)) (ty := .int) (fun _ _ => rfl) i v hv
      show T.fitsSlot (g.2.1 1) .none i v = true
      simpa [State.fitsSlot, State.slotType?, hk', hkind] using hf)
    (g := F0 m pc lsA (.ref (zphi g a) :: st.map (zv g))) rfl (by rw [X.2.2.2.1]; exact hls.1) rfl (by rw [X.2.1]; exact hd) (Nat.le_trans hfr X.2.2.2.2.2.2.2.2.1) (by show 2 * 0 + _ + 14 ≤ _; rw [esum]; have := X.2.2.2.2.2.2.2.2.2.1; omega) hcc (by rw [arrV_size]; exact hss) (hloader := Vm.clonesLoader_of_array hkS hkindS)
  rw [arrV_size] at X'
  generalize hH1 : H.push (arrV (g.2.1 1) len (fun j => .int (I a j))) = H1
  have z1 : H1.size = H.size + 1 := by rw [← hH1, Array.size_push]
  have e1 : H1[H.size]? = some (arrV (g.2.1 1) len (fun j => .int (I a j))) := by rw [← hH1, Array.getElem?_push_size]
  have o1 : ∀ q : Nat, q < H.size → H1[q]? = H[q]? := fun q hq => by rw [← hH1, Array.getElem?_push, if_neg (Nat.ne_of_lt hq)]
  obtain ⟨t, b1, b2⟩ := kk H1 (zmem_push hm rfl (by rw [zcell_1 zkp_eq, zupA_eq, ← hp]; exact e1) (fun q hq => ⟨zupA_ne hq, rfl, rfl⟩) z1 o1) (va_S_grow hS (by omega) o1) ((T.setVm vm').pushCell (arrV (g.2.1 1) len (fun j => .int (I a j)))) (by rw [← hH1, ← hT]; rfl) X'
  refine ⟨t, step t ?_, b2⟩
  rw [hT, hp]
  exact b1
end ZNew
