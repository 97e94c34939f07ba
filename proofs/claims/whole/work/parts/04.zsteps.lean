section ZRules
variable {g : ZG} {l : Launch} {M : ZM} {pc : Nat} {ls : List (Option Value)} {st : List Value} {h : ZH} {Q : Option Value → ZH → Prop}
theorem Z.step {pc' : Nat} {st' : List Value} (hw : ∀ {p : Program} {e : Env} {R : Room} {s : State} {m : MethodId} {args : Array Value} {below : List Frame} {meth : Method} {c : Code} {H : Heap} {locs : List Loc} {cells slots : Nat} {lsA : Array Slot} {Qm : State → Prop}, ZX g M p R s m args meth c → zmem g H h → va_S (zA g) s.heap H locs → zl g lsA M.2.2.1 ls → W p l e R s m args below meth c H locs cells slots Qm (F0 m pc' lsA (st'.map (zv g))) → W p l e R s m args below meth c H locs cells slots Qm (F0 m pc lsA (st.map (zv g)))) (k : Z g l M pc' ls st' h Q) : Z g l M pc ls st h Q := by
  obtain ⟨v, h', dc, ds, hq, hn, hs, kk⟩ := k
  exact ⟨v, h', dc, ds, hq, hn, hs, fun p e R s m args below meth c X H locs cells slots lsA hm hS hl h1 h2 => hw X hm hS hl (kk p e R s m args below meth c X H locs cells slots lsA hm hS hl h1 h2)⟩
theorem Z.stepL {pc' : Nat} {st' : List Value} {ls' : List (Option Value)} (hw : ∀ {p : Program} {e : Env} {R : Room} {s : State} {m : MethodId} {args : Array Value} {below : List Frame} {meth : Method} {c : Code} {H : Heap} {locs : List Loc} {cells slots : Nat} {lsA : Array Slot} {Qm : State → Prop}, ZX g M p R s m args meth c → zl g lsA M.2.2.1 ls → (∀ lsB : Array Slot, zl g lsB M.2.2.1 ls' → W p l e R s m args below meth c H locs cells slots Qm (F0 m pc' lsB (st'.map (zv g)))) → W p l e R s m args below meth c H locs cells slots Qm (F0 m pc lsA (st.map (zv g)))) (k : Z g l M pc' ls' st' h Q) : Z g l M pc ls st h Q := by
  obtain ⟨v, h', dc, ds, hq, hn, hs, kk⟩ := k
  exact ⟨v, h', dc, ds, hq, hn, hs, fun p e R s m args below meth c X H locs cells slots lsA hm hS hl h1 h2 => hw X hl (fun lsB hB => kk p e R s m args below meth c X H locs cells slots lsB hm hS hB h1 h2)⟩
theorem Z.forget {ls' : List (Option Value)} (k : Z g l M pc ls' st h Q) (hs : ∀ (i : Nat) (v : Value), ls'[i]? = some (some v) → ls[i]? = some (some v)) : Z g l M pc ls st h Q := by
  obtain ⟨v, h', dc, ds, hq, hn, hss, kk⟩ := k
  exact ⟨v, h', dc, ds, hq, hn, hss, fun p e R s m args below meth c X H locs cells slots lsA hm hS hl h1 h2 => kk p e R s m args below meth c X H locs cells slots lsA hm hS ⟨hl.1, hl.2.1, fun i v hv => hl.2.2 i v (hs i v hv)⟩ h1 h2⟩
def zlp (g : ZG) (ls : List (Option Value)) : List (Nat × Value) := (List.range ls.length).filterMap (fun i => match ls[i]? with
  | some (some v) => some (i, zv g v)
  | _ => none)
theorem zlp_mem {ls : List (Option Value)} {i : Nat} {v : Value} (hv : ls[i]? = some (some v)) : (i, zv g v) ∈ zlp g ls := by
  have hl : i < ls.length := (List.getElem?_eq_some_iff.mp hv).1
  exact List.mem_filterMap.mpr ⟨i, List.mem_range.mpr hl, by rw [hv]⟩
theorem zlp_has {lsA : Array Slot} {nL : Nat} {ls : List (Option Value)} (hl : zl g lsA nL ls) : lv_has lsA nL (zlp g ls) := by
  refine ⟨hl.1, hl.2.1, fun q hq => ?_⟩
  obtain ⟨i, -, hi⟩ := List.mem_filterMap.mp hq
  cases hv : ls[i]? with
  | none => rw [hv] at hi; cases hi
  | some o =>
    cases o with
    | none => rw [hv] at hi; cases hi
    | some v => rw [hv] at hi; cases hi; exact hl.2.2 i v hv
/-- the place ahead of a store holds no long -/
def znl (ls : List (Option Value)) (i : Nat) : Bool := match i with
  | 0 => true
  | k + 1 => match ls[k]? with
    | some (some (.long _)) => false
    | some (some (.double _)) => false
    | _ => true
theorem znl_cat {ls : List (Option Value)} {i j : Nat} {v : Value} (hz : znl ls i = true) (hj : j + 1 = i) (hv : ls[j]? = some (some v)) : v.category ≠ 2 := by
  subst hj
  simp only [znl] at hz
  rw [hv] at hz
  cases v <;> simp_all [Value.category]
theorem zl_set1 {lsB : Array Slot} {nL i : Nat} {ls : List (Option Value)} {v : Value} (hz : znl ls i = true) (hB : lv_has lsB nL ((i, zv g v) :: (zlp g ls).filter (fun q => !(q.1 == i) && !(q.1 + 1 == i && q.2.category == 2)))) : zl g lsB nL (ls.set i (some v)) := by
  refine ⟨hB.1, hB.2.1, fun j w hw => ?_⟩
  by_cases hj : j = i
  · subst hj
    have hl : j < (ls.set j (some v)).length := (List.getElem?_eq_some_iff.mp hw).1
    rw [List.length_set] at hl
    rw [List.getElem?_set_self hl] at hw
    cases hw
    exact hB.2.2 (j, zv g v) List.mem_cons_self
  · rw [List.getElem?_set_ne (Ne.symm hj)] at hw
    refine hB.2.2 (j, zv g w) (List.mem_cons_of_mem _ (List.mem_filter.mpr ⟨zlp_mem hw, ?_⟩))
    by_cases h1 : j + 1 = i
    · have := znl_cat hz h1 hw
      simp [hj, zv_cat, this]
    · simp [hj, h1]
theorem zl_set2 {lsB : Array Slot} {nL i : Nat} {ls : List (Option Value)} {v : Value} (hz : znl ls i = true) (hB : lv_has lsB nL ((i, zv g v) :: (zlp g ls).filter (fun q => !(q.1 == i) && (!(q.1 == i + 1) && !(q.1 + 1 == i && q.2.category == 2))))) : zl g lsB nL ((ls.set i (some v)).set (i + 1) none) := by
  refine ⟨hB.1, hB.2.1, fun j w hw => ?_⟩
  by_cases hj2 : j = i + 1
  · subst hj2
    have hl := (List.getElem?_eq_some_iff.mp hw).1
    rw [List.length_set] at hl
    rw [List.getElem?_set_self hl] at hw
    cases hw
  · rw [List.getElem?_set_ne (Ne.symm hj2)] at hw
    by_cases hj : j = i
    · subst hj
      have hl : j < (ls.set j (some v)).length := (List.getElem?_eq_some_iff.mp hw).1
      rw [List.length_set] at hl
      rw [List.getElem?_set_self hl] at hw
      cases hw
      exact hB.2.2 (j, zv g v) List.mem_cons_self
    · rw [List.getElem?_set_ne (Ne.symm hj)] at hw
      refine hB.2.2 (j, zv g w) (List.mem_cons_of_mem _ (List.mem_filter.mpr ⟨zlp_mem hw, ?_⟩))
      by_cases h1 : j + 1 = i
      · have := znl_cat hz h1 hw
        simp [hj, hj2, zv_cat, this]
      · simp [hj, hj2, h1]
theorem z_iconst {n : Int} (hd : decode M.2.1 pc = .ok (.iconst n, 1)) {v : Int32} (hv : Int32.ofInt n = v) (k : Z g l M (pc + 1) ls (.int v :: st) h Q) : Z g l M pc ls st h Q := Z.step (fun X _ _ _ k => lv_iconst X.1 X.2.1 hd hv k) k
theorem z_bipush {n : Int} (hd : decode M.2.1 pc = .ok (.bipush n, 2)) {v : Int32} (hv : (Int8.ofInt n).toInt32 = v) (k : Z g l M (pc + 2) ls (.int v :: st) h Q) : Z g l M pc ls st h Q := Z.step (fun X _ _ _ k => lv_bipush X.1 X.2.1 hd hv k) k
theorem z_sipush {n : Int} (hd : decode M.2.1 pc = .ok (.sipush n, 3)) {v : Int32} (hv : (Int16.ofInt n).toInt32 = v) (k : Z g l M (pc + 3) ls (.int v :: st) h Q) : Z g l M pc ls st h Q := Z.step (fun X _ _ _ k => lv_sipush X.1 X.2.1 hd hv k) k
theorem z_lconst {n : Fin 2} (hd : decode M.2.1 pc = .ok (.lconst n, 1)) {v : Int64} (hv : Int64.ofNat (n : Nat) = v) (k : Z g l M (pc + 1) ls (.long v :: st) h Q) : Z g l M pc ls st h Q := Z.step (fun X _ _ _ k => lv_lconst X.1 X.2.1 hd hv k) k
theorem z_ldc {index : Nat} (hd : decode M.2.1 pc = .ok (.ldc index, 2)) {v : Int32} (hc : Cond.constant M.1.cls index v ∈ gw) (k : Z g l M (pc + 2) ls (.int v :: st) h Q) : Z g l M pc ls st h Q := Z.step (fun X _ _ _ k => lv_ldc X.1 X.2.1 X.2.2.2.2.1 (X.2.2.2.2.2.1 _ hc) hd k) k
theorem z_ldc2 {index : Nat} (hd : decode M.2.1 pc = .ok (.ldc2_w index, 3)) {v : Int64} (hc : Cond.constantLong M.1.cls index v ∈ gw) (k : Z g l M (pc + 3) ls (.long v :: st) h Q) : Z g l M pc ls st h Q := Z.step (fun X _ _ _ k => lv_ldc2 X.1 X.2.1 X.2.2.2.2.1 (X.2.2.2.2.2.1 _ hc) hd k) k
theorem z_null (hd : decode M.2.1 pc = .ok (.aconst_null, 1)) (k : Z g l M (pc + 1) ls (.null :: st) h Q) : Z g l M pc ls st h Q := Z.step (fun X _ _ _ k => lv_null X.1 X.2.1 hd k) k
theorem z_iload_n {kf : Fin 4} {i : Nat} {x : Int32} (hd : decode M.2.1 pc = .ok (.iload_n kf, 1)) (hi : (kf : Nat) = i) (hx : ls[i]? = some (some (.int x))) (k : Z g l M (pc + 1) ls (.int x :: st) h Q) : Z g l M pc ls st h Q := Z.step (fun X _ _ hl k => lv_iload_n X.1 X.2.1 hd hi (hl.2.2 i _ hx) k) k
theorem z_iload {i : Nat} {x : Int32} (hd : decode M.2.1 pc = .ok (.iload i, 2)) (hx : ls[i]? = some (some (.int x))) (k : Z g l M (pc + 2) ls (.int x :: st) h Q) : Z g l M pc ls st h Q := Z.step (fun X _ _ hl k => lv_iload X.1 X.2.1 hd (hl.2.2 i _ hx) k) k
theorem z_lload_n {kf : Fin 4} {i : Nat} {x : Int64} (hd : decode M.2.1 pc = .ok (.lload_n kf, 1)) (hi : (kf : Nat) = i) (hx : ls[i]? = some (some (.long x))) (k : Z g l M (pc + 1) ls (.long x :: st) h Q) : Z g l M pc ls st h Q := Z.step (fun X _ _ hl k => lv_lload_n X.1 X.2.1 hd hi (hl.2.2 i _ hx) k) k
theorem z_lload {i : Nat} {x : Int64} (hd : decode M.2.1 pc = .ok (.lload i, 2)) (hx : ls[i]? = some (some (.long x))) (k : Z g l M (pc + 2) ls (.long x :: st) h Q) : Z g l M pc ls st h Q := Z.step (fun X _ _ hl k => lv_lload X.1 X.2.1 hd (hl.2.2 i _ hx) k) k
theorem z_aload_n {kf : Fin 4} {i : Nat} {x : Nat} (hd : decode M.2.1 pc = .ok (.aload_n kf, 1)) (hi : (kf : Nat) = i) (hx : ls[i]? = some (some (.ref x))) (k : Z g l M (pc + 1) ls (.ref x :: st) h Q) : Z g l M pc ls st h Q := Z.step (fun X _ _ hl k => lv_aload_n X.1 X.2.1 hd hi (hl.2.2 i _ hx) k) k
theorem z_aload {i : Nat} {x : Nat} (hd : decode M.2.1 pc = .ok (.aload i, 2)) (hx : ls[i]? = some (some (.ref x))) (k : Z g l M (pc + 2) ls (.ref x :: st) h Q) : Z g l M pc ls st h Q := Z.step (fun X _ _ hl k => lv_aload X.1 X.2.1 hd (hl.2.2 i _ hx) k) k
theorem z_aload_nN {kf : Fin 4} {i : Nat} (hd : decode M.2.1 pc = .ok (.aload_n kf, 1)) (hi : (kf : Nat) = i) (hx : ls[i]? = some (some .null)) (k : Z g l M (pc + 1) ls (.null :: st) h Q) : Z g l M pc ls st h Q := Z.step (fun X _ _ hl k => lv_aload_nN X.1 X.2.1 hd hi (hl.2.2 i _ hx) k) k
theorem z_aloadN {i : Nat} (hd : decode M.2.1 pc = .ok (.aload i, 2)) (hx : ls[i]? = some (some .null)) (k : Z g l M (pc + 2) ls (.null :: st) h Q) : Z g l M pc ls st h Q := Z.step (fun X _ _ hl k => lv_aloadN X.1 X.2.1 hd (hl.2.2 i _ hx) k) k
theorem z_istore_n {kf : Fin 4} {i : Nat} {x : Int32} (hd : decode M.2.1 pc = .ok (.istore_n kf, 1)) (hi : (kf : Nat) = i) (hn : i < M.2.2.1) (hz : znl ls i = true) (k : Z g l M (pc + 1) (ls.set i (some (.int x))) st h Q) : Z g l M pc ls (.int x :: st) h Q := Z.stepL (fun X hl kk => lv_istore_n X.1 X.2.1 hd hi (zlp_has hl) hn rfl (fun lsB hB => kk lsB (zl_set1 (v := .int x) hz hB))) k
theorem z_istore {i : Nat} {x : Int32} (hd : decode M.2.1 pc = .ok (.istore i, 2)) (hn : i < M.2.2.1) (hz : znl ls i = true) (k : Z g l M (pc + 2) (ls.set i (some (.int x))) st h Q) : Z g l M pc ls (.int x :: st) h Q := Z.stepL (fun X hl kk => lv_istore X.1 X.2.1 hd (zlp_has hl) hn rfl (fun lsB hB => kk lsB (zl_set1 (v := .int x) hz hB))) k
theorem z_astore_n {kf : Fin 4} {i : Nat} {x : Nat} (hd : decode M.2.1 pc = .ok (.astore_n kf, 1)) (hi : (kf : Nat) = i) (hn : i < M.2.2.1) (hz : znl ls i = true) (k : Z g l M (pc + 1) (ls.set i (some (.ref x))) st h Q) : Z g l M pc ls (.ref x :: st) h Q := Z.stepL (fun X hl kk => lv_astore_n X.1 X.2.1 hd hi (zlp_has hl) hn rfl (fun lsB hB => kk lsB (zl_set1 (v := .ref x) hz hB))) k
theorem z_astore {i : Nat} {x : Nat} (hd : decode M.2.1 pc = .ok (.astore i, 2)) (hn : i < M.2.2.1) (hz : znl ls i = true) (k : Z g l M (pc + 2) (ls.set i (some (.ref x))) st h Q) : Z g l M pc ls (.ref x :: st) h Q := Z.stepL (fun X hl kk => lv_astore X.1 X.2.1 hd (zlp_has hl) hn rfl (fun lsB hB => kk lsB (zl_set1 (v := .ref x) hz hB))) k
theorem z_astore_nN {kf : Fin 4} {i : Nat} (hd : decode M.2.1 pc = .ok (.astore_n kf, 1)) (hi : (kf : Nat) = i) (hn : i < M.2.2.1) (hz : znl ls i = true) (k : Z g l M (pc + 1) (ls.set i (some .null)) st h Q) : Z g l M pc ls (.null :: st) h Q := Z.stepL (fun X hl kk => lv_astore_nN X.1 X.2.1 hd hi (zlp_has hl) hn rfl (fun lsB hB => kk lsB (zl_set1 (v := .null) hz hB))) k
theorem z_astoreN {i : Nat} (hd : decode M.2.1 pc = .ok (.astore i, 2)) (hn : i < M.2.2.1) (hz : znl ls i = true) (k : Z g l M (pc + 2) (ls.set i (some .null)) st h Q) : Z g l M pc ls (.null :: st) h Q := Z.stepL (fun X hl kk => lv_astoreN X.1 X.2.1 hd (zlp_has hl) hn rfl (fun lsB hB => kk lsB (zl_set1 (v := .null) hz hB))) k
theorem z_lstore_n {kf : Fin 4} {i : Nat} {x : Int64} (hd : decode M.2.1 pc = .ok (.lstore_n kf, 1)) (hi : (kf : Nat) = i) (hn : i + 1 < M.2.2.1) (hz : znl ls i = true) (k : Z g l M (pc + 1) ((ls.set i (some (.long x))).set (i + 1) none) st h Q) : Z g l M pc ls (.long x :: st) h Q := Z.stepL (fun X hl kk => lv_lstore_n X.1 X.2.1 hd hi (zlp_has hl) hn rfl (fun lsB hB => kk lsB (zl_set2 (v := .long x) hz hB))) k
theorem z_lstore {i : Nat} {x : Int64} (hd : decode M.2.1 pc = .ok (.lstore i, 2)) (hn : i + 1 < M.2.2.1) (hz : znl ls i = true) (k : Z g l M (pc + 2) ((ls.set i (some (.long x))).set (i + 1) none) st h Q) : Z g l M pc ls (.long x :: st) h Q := Z.stepL (fun X hl kk => lv_lstore X.1 X.2.1 hd (zlp_has hl) hn rfl (fun lsB hB => kk lsB (zl_set2 (v := .long x) hz hB))) k
theorem zlp_find {ls : List (Option Value)} {i : Nat} {v : Value} (hv : ls[i]? = some (some v)) : ∃ k : Nat, (zlp g ls)[k]? = some (i, zv g v) := List.getElem?_of_mem (zlp_mem hv)
theorem z_iinc {i : Nat} {n : Int} {x : Int32} (hd : decode M.2.1 pc = .ok (.iinc i n, 3)) (hx : ls[i]? = some (some (.int x))) (hn : i < M.2.2.1) (hz : znl ls i = true) (k : Z g l M (pc + 3) (ls.set i (some (.int (x + Int32.ofInt n)))) st h Q) : Z g l M pc ls st h Q := Z.stepL (fun X hl kk => by
    obtain ⟨j, hj⟩ := zlp_find (g := g) hx
    exact lv_iinc X.1 X.2.1 hd (zlp_has hl) hj rfl hn rfl (fun lsB hB => kk lsB (zl_set1 (v := .int (x + Int32.ofInt n)) hz hB))) k
theorem z_iadd {x y : Int32} (hd : decode M.2.1 pc = .ok (.iadd, 1)) (k : Z g l M (pc + 1) ls (.int (x + y) :: st) h Q) : Z g l M pc ls (.int y :: .int x :: st) h Q := Z.step (fun X _ _ _ k => lv_iadd X.1 X.2.1 hd k) k
theorem z_isub {x y : Int32} (hd : decode M.2.1 pc = .ok (.isub, 1)) (k : Z g l M (pc + 1) ls (.int (x - y) :: st) h Q) : Z g l M pc ls (.int y :: .int x :: st) h Q := Z.step (fun X _ _ _ k => lv_isub X.1 X.2.1 hd k) k
theorem z_imul {x y : Int32} (hd : decode M.2.1 pc = .ok (.imul, 1)) (k : Z g l M (pc + 1) ls (.int (x * y) :: st) h Q) : Z g l M pc ls (.int y :: .int x :: st) h Q := Z.step (fun X _ _ _ k => lv_imul X.1 X.2.1 hd k) k
theorem z_iand {x y : Int32} (hd : decode M.2.1 pc = .ok (.iand, 1)) (k : Z g l M (pc + 1) ls (.int (x &&& y) :: st) h Q) : Z g l M pc ls (.int y :: .int x :: st) h Q := Z.step (fun X _ _ _ k => lv_iand X.1 X.2.1 hd k) k
theorem z_ior {x y : Int32} (hd : decode M.2.1 pc = .ok (.ior, 1)) (k : Z g l M (pc + 1) ls (.int (x ||| y) :: st) h Q) : Z g l M pc ls (.int y :: .int x :: st) h Q := Z.step (fun X _ _ _ k => lv_ior X.1 X.2.1 hd k) k
theorem z_ixor {x y : Int32} (hd : decode M.2.1 pc = .ok (.ixor, 1)) (k : Z g l M (pc + 1) ls (.int (x ^^^ y) :: st) h Q) : Z g l M pc ls (.int y :: .int x :: st) h Q := Z.step (fun X _ _ _ k => lv_ixor X.1 X.2.1 hd k) k
theorem z_ishl {x y : Int32} (hd : decode M.2.1 pc = .ok (.ishl, 1)) (k : Z g l M (pc + 1) ls (.int (x <<< (y &&& 31)) :: st) h Q) : Z g l M pc ls (.int y :: .int x :: st) h Q := Z.step (fun X _ _ _ k => lv_ishl X.1 X.2.1 hd k) k
theorem z_ishr {x y : Int32} (hd : decode M.2.1 pc = .ok (.ishr, 1)) (k : Z g l M (pc + 1) ls (.int (x >>> (y &&& 31)) :: st) h Q) : Z g l M pc ls (.int y :: .int x :: st) h Q := Z.step (fun X _ _ _ k => lv_ishr X.1 X.2.1 hd k) k
theorem z_idiv {x y : Int32} (hd : decode M.2.1 pc = .ok (.idiv, 1)) (hne : ¬ y = 0) (k : Z g l M (pc + 1) ls (.int (x / y) :: st) h Q) : Z g l M pc ls (.int y :: .int x :: st) h Q := Z.step (fun X _ _ _ k => lv_idiv X.1 X.2.1 hd hne k) k
theorem z_irem {x y : Int32} (hd : decode M.2.1 pc = .ok (.irem, 1)) (hne : ¬ y = 0) (k : Z g l M (pc + 1) ls (.int (x - x / y * y) :: st) h Q) : Z g l M pc ls (.int y :: .int x :: st) h Q := Z.step (fun X _ _ _ k => lv_irem X.1 X.2.1 hd hne k) k
theorem z_ineg {x : Int32} (hd : decode M.2.1 pc = .ok (.ineg, 1)) (k : Z g l M (pc + 1) ls (.int (-x) :: st) h Q) : Z g l M pc ls (.int x :: st) h Q := Z.step (fun X _ _ _ k => lv_ineg X.1 X.2.1 hd k) k
theorem z_ladd {x y : Int64} (hd : decode M.2.1 pc = .ok (.ladd, 1)) (k : Z g l M (pc + 1) ls (.long (x + y) :: st) h Q) : Z g l M pc ls (.long y :: .long x :: st) h Q := Z.step (fun X _ _ _ k => lv_ladd X.1 X.2.1 hd k) k
theorem z_lsub {x y : Int64} (hd : decode M.2.1 pc = .ok (.lsub, 1)) (k : Z g l M (pc + 1) ls (.long (x - y) :: st) h Q) : Z g l M pc ls (.long y :: .long x :: st) h Q := Z.step (fun X _ _ _ k => lv_lsub X.1 X.2.1 hd k) k
theorem z_lmul {x y : Int64} (hd : decode M.2.1 pc = .ok (.lmul, 1)) (k : Z g l M (pc + 1) ls (.long (x * y) :: st) h Q) : Z g l M pc ls (.long y :: .long x :: st) h Q := Z.step (fun X _ _ _ k => lv_lmul X.1 X.2.1 hd k) k
theorem z_lxor {x y : Int64} (hd : decode M.2.1 pc = .ok (.lxor, 1)) (k : Z g l M (pc + 1) ls (.long (x ^^^ y) :: st) h Q) : Z g l M pc ls (.long y :: .long x :: st) h Q := Z.step (fun X _ _ _ k => lv_lxor X.1 X.2.1 hd k) k
theorem z_ldiv {x y : Int64} (hd : decode M.2.1 pc = .ok (.ldiv, 1)) (hne : ¬ y = 0) (k : Z g l M (pc + 1) ls (.long (x / y) :: st) h Q) : Z g l M pc ls (.long y :: .long x :: st) h Q := Z.step (fun X _ _ _ k => lv_ldiv X.1 X.2.1 hd hne k) k
theorem z_lrem {x y : Int64} (hd : decode M.2.1 pc = .ok (.lrem, 1)) (hne : ¬ y = 0) (k : Z g l M (pc + 1) ls (.long (x - x / y * y) :: st) h Q) : Z g l M pc ls (.long y :: .long x :: st) h Q := Z.step (fun X _ _ _ k => lv_lrem X.1 X.2.1 hd hne k) k
theorem z_lneg {x : Int64} (hd : decode M.2.1 pc = .ok (.lneg, 1)) (k : Z g l M (pc + 1) ls (.long (-x) :: st) h Q) : Z g l M pc ls (.long x :: st) h Q := Z.step (fun X _ _ _ k => lv_lneg X.1 X.2.1 hd k) k
theorem z_lshr {x : Int64} {y : Int32} (hd : decode M.2.1 pc = .ok (.lshr, 1)) (k : Z g l M (pc + 1) ls (.long (x >>> (y.toInt64 &&& 63)) :: st) h Q) : Z g l M pc ls (.int y :: .long x :: st) h Q := Z.step (fun X _ _ _ k => lv_lshr X.1 X.2.1 hd rfl k) k
theorem z_i2l {x : Int32} (hd : decode M.2.1 pc = .ok (.i2l, 1)) (k : Z g l M (pc + 1) ls (.long x.toInt64 :: st) h Q) : Z g l M pc ls (.int x :: st) h Q := Z.step (fun X _ _ _ k => lv_i2l X.1 X.2.1 hd rfl k) k
theorem z_l2i {x : Int64} (hd : decode M.2.1 pc = .ok (.l2i, 1)) (k : Z g l M (pc + 1) ls (.int x.toInt32 :: st) h Q) : Z g l M pc ls (.long x :: st) h Q := Z.step (fun X _ _ _ k => lv_l2i X.1 X.2.1 hd rfl k) k
theorem z_i2b {x : Int32} (hd : decode M.2.1 pc = .ok (.i2b, 1)) (k : Z g l M (pc + 1) ls (.int x.toInt8.toInt32 :: st) h Q) : Z g l M pc ls (.int x :: st) h Q := Z.step (fun X _ _ _ k => lv_i2b X.1 X.2.1 hd rfl k) k
theorem z_lcmp {x y : Int64} (hd : decode M.2.1 pc = .ok (.lcmp, 1)) (k : Z g l M (pc + 1) ls (.int (lg_cmp x y) :: st) h Q) : Z g l M pc ls (.long y :: .long x :: st) h Q := Z.step (fun X _ _ _ k => W.lcmp X.1 X.2.1 hd k) k
theorem z_dup {a : Value} (hd : decode M.2.1 pc = .ok (.dup, 1)) (ha : a.category = 1) (k : Z g l M (pc + 1) ls (a :: a :: st) h Q) : Z g l M pc ls (a :: st) h Q := Z.step (fun X _ _ _ k => lv_dup X.1 X.2.1 hd (by rw [zv_cat]; exact ha) k) k
theorem z_pop {a : Value} (hd : decode M.2.1 pc = .ok (.pop, 1)) (ha : a.category = 1) (k : Z g l M (pc + 1) ls st h Q) : Z g l M pc ls (a :: st) h Q := Z.step (fun X _ _ _ k => lv_pop X.1 X.2.1 hd (by rw [zv_cat]; exact ha) k) k
theorem z_dup2 {a b : Value} (hd : decode M.2.1 pc = .ok (.dup2, 1)) (ha : a.category = 1) (hb : b.category = 1) (k : Z g l M (pc + 1) ls (a :: b :: a :: b :: st) h Q) : Z g l M pc ls (a :: b :: st) h Q := Z.step (fun X _ _ _ k => lv_dup2_11 X.1 X.2.1 hd (by rw [zv_cat]; exact ha) (by rw [zv_cat]; exact hb) k) k
theorem Z.br {pt pf : Nat} {st' : List Value} {P : Prop} (hw : ∀ {p : Program} {e : Env} {R : Room} {s : State} {m : MethodId} {args : Array Value} {below : List Frame} {meth : Method} {c : Code} {H : Heap} {locs : List Loc} {cells slots : Nat} {lsA : Array Slot} {Qm : State → Prop}, ZX g M p R s m args meth c → (P → W p l e R s m args below meth c H locs cells slots Qm (F0 m pt lsA (st'.map (zv g)))) → (¬ P → W p l e R s m args below meth c H locs cells slots Qm (F0 m pf lsA (st'.map (zv g)))) → W p l e R s m args below meth c H locs cells slots Qm (F0 m pc lsA (st.map (zv g)))) (kt : P → Z g l M pt ls st' h Q) (kf : ¬ P → Z g l M pf ls st' h Q) : Z g l M pc ls st h Q := by
  by_cases hP : P
  · obtain ⟨v, h', dc, ds, hq, hn, hs, kk⟩ := kt hP
    exact ⟨v, h', dc, ds, hq, hn, hs, fun p e R s m args below meth c X H locs cells slots lsA hm hS hl h1 h2 => hw X (fun _ => kk p e R s m args below meth c X H locs cells slots lsA hm hS hl h1 h2) (fun hN => absurd hP hN)⟩
  · obtain ⟨v, h', dc, ds, hq, hn, hs, kk⟩ := kf hP
    exact ⟨v, h', dc, ds, hq, hn, hs, fun p e R s m args below meth c X H locs cells slots lsA hm hS hl h1 h2 => hw X (fun hN => absurd hN hP) (fun _ => kk p e R s m args below meth c X H locs cells slots lsA hm hS hl h1 h2)⟩
theorem z_if_eq {x : Int32} {off : Int} {tgt : Nat} (hd : decode M.2.1 pc = .ok (.ifCond .eq off, 3)) (ht : (pc : Int) + off = (tgt : Int)) (kt : x = 0 → Z g l M tgt ls st h Q) (kf : ¬ (x = 0) → Z g l M (pc + 3) ls st h Q) : Z g l M pc ls (.int x :: st) h Q := Z.br (st' := st) (fun X a b => lv_if_eq X.1 X.2.1 hd ht a b) kt kf
theorem z_icmp_eq {x y : Int32} {off : Int} {tgt : Nat} (hd : decode M.2.1 pc = .ok (.if_icmp .eq off, 3)) (ht : (pc : Int) + off = (tgt : Int)) (kt : x = y → Z g l M tgt ls st h Q) (kf : ¬ (x = y) → Z g l M (pc + 3) ls st h Q) : Z g l M pc ls (.int y :: .int x :: st) h Q := Z.br (st' := st) (fun X a b => lv_icmp_eq X.1 X.2.1 hd ht a b) kt kf
theorem z_if_ne {x : Int32} {off : Int} {tgt : Nat} (hd : decode M.2.1 pc = .ok (.ifCond .ne off, 3)) (ht : (pc : Int) + off = (tgt : Int)) (kt : ¬ x = 0 → Z g l M tgt ls st h Q) (kf : ¬ (¬ x = 0) → Z g l M (pc + 3) ls st h Q) : Z g l M pc ls (.int x :: st) h Q := Z.br (st' := st) (fun X a b => lv_if_ne X.1 X.2.1 hd ht a (fun q => b (fun z => absurd q z))) kt kf
theorem z_icmp_ne {x y : Int32} {off : Int} {tgt : Nat} (hd : decode M.2.1 pc = .ok (.if_icmp .ne off, 3)) (ht : (pc : Int) + off = (tgt : Int)) (kt : ¬ x = y → Z g l M tgt ls st h Q) (kf : ¬ (¬ x = y) → Z g l M (pc + 3) ls st h Q) : Z g l M pc ls (.int y :: .int x :: st) h Q := Z.br (st' := st) (fun X a b => lv_icmp_ne X.1 X.2.1 hd ht a (fun q => b (fun z => absurd q z))) kt kf
theorem z_if_lt {x : Int32} {off : Int} {tgt : Nat} (hd : decode M.2.1 pc = .ok (.ifCond .lt off, 3)) (ht : (pc : Int) + off = (tgt : Int)) (kt : x < 0 → Z g l M tgt ls st h Q) (kf : ¬ (x < 0) → Z g l M (pc + 3) ls st h Q) : Z g l M pc ls (.int x :: st) h Q := Z.br (st' := st) (fun X a b => lv_if_lt X.1 X.2.1 hd ht a b) kt kf
theorem z_icmp_lt {x y : Int32} {off : Int} {tgt : Nat} (hd : decode M.2.1 pc = .ok (.if_icmp .lt off, 3)) (ht : (pc : Int) + off = (tgt : Int)) (kt : x < y → Z g l M tgt ls st h Q) (kf : ¬ (x < y) → Z g l M (pc + 3) ls st h Q) : Z g l M pc ls (.int y :: .int x :: st) h Q := Z.br (st' := st) (fun X a b => lv_icmp_lt X.1 X.2.1 hd ht a b) kt kf
theorem z_if_ge {x : Int32} {off : Int} {tgt : Nat} (hd : decode M.2.1 pc = .ok (.ifCond .ge off, 3)) (ht : (pc : Int) + off = (tgt : Int)) (kt : 0 ≤ x → Z g l M tgt ls st h Q) (kf : ¬ (0 ≤ x) → Z g l M (pc + 3) ls st h Q) : Z g l M pc ls (.int x :: st) h Q := Z.br (st' := st) (fun X a b => lv_if_ge X.1 X.2.1 hd ht a b) kt kf
theorem z_icmp_ge {x y : Int32} {off : Int} {tgt : Nat} (hd : decode M.2.1 pc = .ok (.if_icmp .ge off, 3)) (ht : (pc : Int) + off = (tgt : Int)) (kt : y ≤ x → Z g l M tgt ls st h Q) (kf : ¬ (y ≤ x) → Z g l M (pc + 3) ls st h Q) : Z g l M pc ls (.int y :: .int x :: st) h Q := Z.br (st' := st) (fun X a b => lv_icmp_ge X.1 X.2.1 hd ht a b) kt kf
theorem z_if_gt {x : Int32} {off : Int} {tgt : Nat} (hd : decode M.2.1 pc = .ok (.ifCond .gt off, 3)) (ht : (pc : Int) + off = (tgt : Int)) (kt : 0 < x → Z g l M tgt ls st h Q) (kf : ¬ (0 < x) → Z g l M (pc + 3) ls st h Q) : Z g l M pc ls (.int x :: st) h Q := Z.br (st' := st) (fun X a b => lv_if_gt X.1 X.2.1 hd ht a b) kt kf
theorem z_icmp_gt {x y : Int32} {off : Int} {tgt : Nat} (hd : decode M.2.1 pc = .ok (.if_icmp .gt off, 3)) (ht : (pc : Int) + off = (tgt : Int)) (kt : y < x → Z g l M tgt ls st h Q) (kf : ¬ (y < x) → Z g l M (pc + 3) ls st h Q) : Z g l M pc ls (.int y :: .int x :: st) h Q := Z.br (st' := st) (fun X a b => lv_icmp_gt X.1 X.2.1 hd ht a b) kt kf
theorem z_if_le {x : Int32} {off : Int} {tgt : Nat} (hd : decode M.2.1 pc = .ok (.ifCond .le off, 3)) (ht : (pc : Int) + off = (tgt : Int)) (kt : x ≤ 0 → Z g l M tgt ls st h Q) (kf : ¬ (x ≤ 0) → Z g l M (pc + 3) ls st h Q) : Z g l M pc ls (.int x :: st) h Q := Z.br (st' := st) (fun X a b => lv_if_le X.1 X.2.1 hd ht a b) kt kf
theorem z_icmp_le {x y : Int32} {off : Int} {tgt : Nat} (hd : decode M.2.1 pc = .ok (.if_icmp .le off, 3)) (ht : (pc : Int) + off = (tgt : Int)) (kt : x ≤ y → Z g l M tgt ls st h Q) (kf : ¬ (x ≤ y) → Z g l M (pc + 3) ls st h Q) : Z g l M pc ls (.int y :: .int x :: st) h Q := Z.br (st' := st) (fun X a b => lv_icmp_le X.1 X.2.1 hd ht a b) kt kf
theorem z_goto {off : Int} {tgt : Nat} (hd : decode M.2.1 pc = .ok (.goto off, 3)) (ht : (pc : Int) + off = (tgt : Int)) (k : Z g l M tgt ls st h Q) : Z g l M pc ls st h Q := Z.step (fun X _ _ _ k => lv_goto X.1 X.2.1 hd ht k) k
theorem z_ifnonnull {x : Nat} {off : Int} {tgt : Nat} (hd : decode M.2.1 pc = .ok (.ifnonnull off, 3)) (ht : (pc : Int) + off = (tgt : Int)) (k : Z g l M tgt ls st h Q) : Z g l M pc ls (.ref x :: st) h Q := Z.step (fun X _ _ _ k => lv_ifnonnull X.1 X.2.1 hd ht k) k
theorem z_ifnonnullN {off : Int} (hd : decode M.2.1 pc = .ok (.ifnonnull off, 3)) (k : Z g l M (pc + 3) ls st h Q) : Z g l M pc ls (.null :: st) h Q := Z.step (fun X _ _ _ k => lv_ifnonnullN X.1 X.2.1 hd k) k
theorem z_ifnull {x : Nat} {off : Int} (hd : decode M.2.1 pc = .ok (.ifnull off, 3)) (k : Z g l M (pc + 3) ls st h Q) : Z g l M pc ls (.ref x :: st) h Q := Z.step (fun X _ _ _ k => lv_ifnull X.1 X.2.1 hd k) k
theorem z_ifnullN {off : Int} {tgt : Nat} (hd : decode M.2.1 pc = .ok (.ifnull off, 3)) (ht : (pc : Int) + off = (tgt : Int)) (k : Z g l M tgt ls st h Q) : Z g l M pc ls (.null :: st) h Q := Z.step (fun X _ _ _ k => lv_ifnullN X.1 X.2.1 hd ht k) k
theorem z_tableOut {dflt lo hi : Int} {offs : Array Int} {len : Nat} {x : Int32} {tgt : Nat} (hd : decode M.2.1 pc = .ok (.tableswitch dflt lo hi offs, len)) (hx : x.toInt < lo ∨ hi < x.toInt) (ht : (pc : Int) + dflt = (tgt : Int)) (k : Z g l M tgt ls st h Q) : Z g l M pc ls (.int x :: st) h Q := Z.step (fun X _ _ _ k => lv_tableOut X.1 X.2.1 hd hx ht k) k
theorem z_tableIn {dflt lo hi : Int} {offs : Array Int} {len : Nat} {x : Int32} {off : Int} {tgt : Nat} (hd : decode M.2.1 pc = .ok (.tableswitch dflt lo hi offs, len)) (h1 : ¬ x.toInt < lo) (h2 : ¬ hi < x.toInt) (ho : offs[(x.toInt - lo).toNat]? = some off) (ht : (pc : Int) + off = (tgt : Int)) (k : Z g l M tgt ls st h Q) : Z g l M pc ls (.int x :: st) h Q := Z.step (fun X _ _ _ k => lv_tableIn X.1 X.2.1 hd h1 h2 ho ht k) k
end ZRules
