section ZCalls
variable {g : ZG} {l : Launch} {M N : ZM} {pc : Nat} {ls : List (Option Value)} {st : List Value} {Q : Option Value → ZH → Prop} {h : ZH}
-- answers
theorem z_ret0 {v : Option Value} (hq : Q v h) (hw : ∀ {p : Program} {e : Env} {R : Room} {s : State} {m : MethodId} {args : Array Value} {below : List Frame} {meth : Method} {c : Code} {H : Heap} {locs : List Loc} {cells slots : Nat} {lsA : Array Slot}, ZX g M p R s m args meth c → (∀ t : State, t.heap = H → s.WarmedH t.vm → zQ g v h args s (.returned (v.map (zv g))) t) → (∀ q ∈ locs, zA g q.base) → W p l e R s m args below meth c H locs cells slots (MQ below (zQ g v h) args s cells slots (zA g)) (F0 m pc lsA (st.map (zv g)))) : Z g l M pc ls st h Q := by
  refine ⟨v, h, 0, 0, hq, rfl, rfl, fun p e R s m args below meth c X H locs cells slots lsA hm hS hl h1 h2 => ?_⟩
  exact hw X (fun t ht _ => ⟨rfl, by rw [ht]; exact hm, hS.F ht⟩) hS.2.2
theorem z_ireturn {x : Int32} (hd : decode M.2.1 pc = .ok (.ireturn, 1)) (hr : M.2.2.2.1 = some .int) (hq : Q (some (.int x)) h) : Z g l M pc ls [.int x] h Q :=
  z_ret0 (v := some (.int x)) hq (fun X a b => W.iret (v := x) X.1 X.2.1 (X.2.2.1.trans hr) a b hd X.2.2.2.2.2.2.1)
theorem z_zreturn {x : Int32} (hd : decode M.2.1 pc = .ok (.ireturn, 1)) (hr : M.2.2.2.1 = some .boolean) (hx : x &&& 1 = x) (hq : Q (some (.int x)) h) : Z g l M pc ls [.int x] h Q :=
  z_ret0 (v := some (.int x)) hq (fun X a b => W.zret (v := x) X.1 X.2.1 (X.2.2.1.trans hr) (show Value.int (x &&& 1) = _ by rw [hx]) a b hd X.2.2.2.2.2.2.1)
theorem z_lreturn {x : Int64} (hd : decode M.2.1 pc = .ok (.lreturn, 1)) (hr : M.2.2.2.1 = some .long) (hq : Q (some (.long x)) h) : Z g l M pc ls [.long x] h Q :=
  z_ret0 (v := some (.long x)) hq (fun X a b => W.lret (v := x) X.1 X.2.1 (X.2.2.1.trans hr) a b hd X.2.2.2.2.2.2.1)
theorem z_return (hd : decode M.2.1 pc = .ok (.return_, 1)) (hr : M.2.2.2.1 = none) (hq : Q none h) : Z g l M pc ls [] h Q :=
  z_ret0 (v := none) hq (fun X a b => W.vret X.1 X.2.1 (X.2.2.1.trans hr) a b hd X.2.2.2.2.2.2.1)
theorem z_areturn {x : Nat} {rt : FieldType} (hd : decode M.2.1 pc = .ok (.areturn, 1)) (hr : M.2.2.2.1 = some rt) (hrt : (∃ n, rt = .object n) ∨ ∃ t, rt = .array t) (hq : Q (some (.ref x)) h) : Z g l M pc ls [.ref x] h Q :=
  z_ret0 (v := some (.ref x)) hq (fun X a b => W.aret X.1 X.2.1 (X.2.2.1.trans hr) hrt (Or.inr ⟨_, rfl⟩) a b hd X.2.2.2.2.2.2.1)
theorem z_areturnN {rt : FieldType} (hd : decode M.2.1 pc = .ok (.areturn, 1)) (hr : M.2.2.2.1 = some rt) (hrt : (∃ n, rt = .object n) ∨ ∃ t, rt = .array t) (hq : Q (some .null) h) : Z g l M pc ls [.null] h Q :=
  z_ret0 (v := some .null) hq (fun X a b => W.aret X.1 X.2.1 (X.2.2.1.trans hr) hrt (Or.inl rfl) a b hd X.2.2.2.2.2.2.1)
/-- two references that are the same or not -/
theorem z_acmp_eq {x : Option Nat} {y : Nat} {off : Int} {tgt : Nat} (hd : decode M.2.1 pc = .ok (.if_acmp .eq off, 3)) (ht : (pc : Int) + off = (tgt : Int)) (hx : ∀ a, x = some a → 4 ≤ a) (hy : 4 ≤ y) (kt : x = some y → Z g l M tgt ls st h Q) (kf : ¬ x = some y → Z g l M (pc + 3) ls st h Q) : Z g l M pc ls (.ref y :: va_rf x :: st) h Q := by
  refine Z.br (P := x = some y) (st' := st) (fun X a b => ?_) kt kf
  have e : (Value.ref y :: va_rf x :: st).map (zv g) = va_rf (some (zphi g y)) :: va_rf (x.map (zphi g)) :: st.map (zv g) := by cases x <;> rfl
  rw [e]
  refine lv_acmp_eq X.1 X.2.1 hd ht (fun q => a ?_) (fun q => b ?_)
  · cases x with
    | none => cases q
    | some z => exact congrArg some (zphi_inj (g := g) (hx z rfl) hy (Option.some.inj q))
  · intro z; apply q; rw [z]; rfl
theorem z_objInit {a index : Nat} (hd : decode M.2.1 pc = .ok (.invokespecial index, 3)) (hl : Cond.methodLink M.1.cls index objectInit ∈ gw) (hi : Cond.instanceMethod objectInit ∈ gw) (hc : Cond.code objectInit ⟨#[0xb1]⟩ 1 none ∈ gw) (hfr : 1 ≤ M.2.2.2.2.1) (hlo : (st.map fun v => v.category).sum + 12 ≤ M.2.2.2.2.2) (k : Z g l M (pc + 3) ls st h Q) : Z g l M pc ls (.ref a :: st) h Q := by
  refine Z.step (fun X _ _ hls k => ?_) k
  have hts := X.2.2.2.2.2.1
  have esum : ((st.map (zv g)).map fun v => v.category).sum = (st.map fun v => v.category).sum := by
    rw [List.map_map]; congr 1; exact List.map_congr_left (fun v _ => zv_cat g v)
  exact W.objInit X.1 X.2.1 X.2.2.2.2.1 (hts _ hl) (hts _ hi) (hts _ hc) rfl (by rw [X.2.2.2.1]; exact hls.1) rfl hd (Nat.le_trans hfr X.2.2.2.2.2.2.2.2.1) (by show 2 * 0 + _ + 12 ≤ _; rw [esum]; have := X.2.2.2.2.2.2.2.2.2.1; omega) k
-- a method's contract out of its walk
theorem zT_moved {s U : State} (hW : s.WarmedH U.vm) (hT : zT g s) : zT g U :=
  ⟨va_K.moved hW.alike hT.1, fun q hq => va_Nw.warmM hW (hT.2.1 q hq), va_Nw.warmC hW hT.2.2.1, va_AO.moved hW.alike hT.2.2.2.1, va_AO.moved hW.alike hT.2.2.2.2⟩
theorem zold_moved {s U : State} {H : Heap} (hvm : s.vm.Alike U.vm) (hO : zold g s H) : zold g U H :=
  ⟨fun r hr => va_T.moved hvm (hO.1 r hr), va_Z.moved hvm hO.2.1, va_Z.moved hvm hO.2.2.1, va_Z.moved hvm hO.2.2.2⟩
theorem zold_kept {s : State} {H H1 : Heap} (hO : zold g s H) (hq : ∀ a : Nat, a < H.size → ¬ zA g a → H1[a]? = H[a]?) : zold g s H1 :=
  ⟨fun r hr => va_T.kept (hO.1 r hr) hq, va_Z.kept hO.2.1 hq, va_Z.kept hO.2.2.1 hq, va_Z.kept hO.2.2.2 hq⟩
theorem zpre_blind (as : List Value) : FrameBlind (va_Pc (as.map (zv g)) (fun U => zpre g U h)) := by
  intro a U f mk hp
  obtain ⟨h1, h2, h3, h4⟩ := hp
  refine ⟨h1, ?_, ?_, h4⟩
  · obtain ⟨k1, k2, k3, k4, k5⟩ := h2
    exact ⟨va_K.moved (u := U) (U := U.calling f mk a) (Vm.Alike.refl U.vm) k1, fun q hq => va_Nw.same rfl rfl (k2 q hq), va_Nw.same rfl rfl k3, k4, k5⟩
  · exact zold_moved (s := U) (U := U.calling f mk a) (Vm.Alike.refl U.vm) h3
theorem zl_entry {as : List Value} {nL : Nat} {ls : List (Option Value)} {lsA : Array Slot} (hA : lv_has lsA nL (lv_args 0 (as.map (zv g)))) (hls : ∀ (i : Nat) (v : Value), ls[i]? = some (some v) → (i, v) ∈ lv_args 0 as) : zl g lsA nL ls := by
  refine ⟨hA.1, hA.2.1, fun i v hv => hA.2.2 (i, zv g v) ?_⟩
  have key : ∀ (as : List Value) (k : Nat), (i, v) ∈ lv_args k as → (i, zv g v) ∈ lv_args k (as.map (zv g)) := by
    intro as
    induction as with
    | nil => intro k hk; cases hk
    | cons w as ih =>
      intro k hk
      simp only [List.map_cons, lv_args, List.mem_cons, zv_cat] at hk ⊢
      rcases hk with hk | hk
      · left; cases hk; rfl
      · right; exact ih _ hk
  exact key as 0 (hls i v hv)
/-- the locals at a method's entry -/
def zargs : List Value → List (Option Value)
  | [] => []
  | v :: vs => if v.category = 2 then some v :: none :: zargs vs else some v :: zargs vs
theorem zargs_in : ∀ (as : List Value) (k i : Nat) (v : Value), (zargs as)[i]? = some (some v) → (k + i, v) ∈ lv_args k as
  | [], k, i, v, hv => by simp [zargs] at hv
  | w :: as, k, i, v, hv => by
    unfold zargs at hv
    unfold lv_args
    by_cases hc : w.category = 2
    · rw [if_pos hc] at hv
      rw [if_pos hc]
      match i, hv with
      | 0, hv => simp at hv; subst hv; exact List.mem_cons_self
      | 1, hv => simp at hv
      | i + 2, hv =>
        have := zargs_in as (k + 2) i v (by simpa using hv)
        rw [show k + (i + 2) = k + 2 + i by omega]
        exact List.mem_cons_of_mem _ this
    · rw [if_neg hc] at hv
      rw [if_neg hc]
      match i, hv with
      | 0, hv => simp at hv; subst hv; exact List.mem_cons_self
      | i + 1, hv =>
        have := zargs_in as (k + 1) i v (by simpa using hv)
        rw [show k + (i + 1) = k + 1 + i by omega]
        exact List.mem_cons_of_mem _ this
theorem zargs_len : ∀ as : List Value, (lg_sl (as.map (zv g))).length = (zargs as).length
  | [] => rfl
  | v :: as => by
    have ih := zargs_len as
    simp only [lg_sl, zargs, List.map_cons, List.flatMap_cons, List.length_append, zv_cat] at ih ⊢
    split <;> simp [ih] <;> omega
theorem zargs_pad {as : List Value} {k : Nat} : ∀ (i : Nat) (v : Value), (zargs as ++ List.replicate k none)[i]? = some (some v) → (i, v) ∈ lv_args 0 as := by
  intro i v hv
  by_cases hl : i < (zargs as).length
  · rw [List.getElem?_append_left hl] at hv
    have := zargs_in as 0 i v hv
    rwa [Nat.zero_add] at this
  · rw [List.getElem?_append_right (by omega), List.getElem?_replicate] at hv
    split at hv <;> cases hv
theorem ZC.of {as : List Value} (hy : plainName M.1.cls = true) (hn : (zargs as).length ≤ M.2.2.1) (k : Z g l M 0 (zargs as ++ List.replicate (M.2.2.1 - (zargs as).length) none) [] h Q) : ZC g l M as h Q := by
  obtain ⟨v, h', dc, ds, hq, e1, e2, kk⟩ := k
  refine ⟨v, h', dc, ds, hq, e1, e2, ?_⟩
  refine Met.ofW (cc := M.2.1) (maxL := M.2.2.1) (ret := M.2.2.2.1) (ws' := gw) hy rfl ?_
  intro p e s m args below meth c s₁ B hml hv
  obtain ⟨rfl, hT, hO, hm⟩ := hv
  have hts := atoms_spec (ws := zw M) B.pre
  have X : ZX g M p (headSpec (zw M) { frames := M.2.2.2.2.1, cells := dc, slots := ds, locals := M.2.2.2.2.2 }).room s m (as.map (zv g)).toArray meth c :=
    ⟨B.exec, B.bytes, B.returns, hml, findClass_of_methodNamed B.named, fun w hw => hts w (List.mem_cons_of_mem _ hw), B.notSynchronized, (name_of_methodNamed B.named B.method).1, Nat.le_refl _, Nat.le_refl _, hT, hO, by rw [hm.2.2.1]; exact Nat.le_add_right _ _⟩
  have hl := lv_entry (as.map (zv g)) (n := M.2.2.1) (by rw [zargs_len]; exact hn)
  rw [lg_entry_eq]
  have k1 := kk p e _ s m (as.map (zv g)).toArray below meth c X s.heap [] 0 0 _ hm va_S.rf (zl_entry hl zargs_pad) (by show 0 + dc ≤ dc; omega) (by show 0 + ds ≤ ds; omega)
  rw [Nat.zero_add, Nat.zero_add] at k1
  exact k1
-- calls
theorem zw_good (hc : Cond.code N.1 N.2.1 N.2.2.1 N.2.2.2.1 ∈ gw) : GoodIn gw (zw N) := fun w hw => by
  rcases List.mem_cons.mp hw with rfl | hw
  · exact ⟨hc, gw_good hc⟩
  · exact ⟨hw, gw_good hw⟩
theorem Z.call {as rest : List Value} {hp : Prop} (hrun : ∀ {v : Option Value} {h' : ZH} {dc ds : Nat} {p : Program} {e : Env} {R : Room} {s : State} {m : MethodId} {args : Array Value} {below : List Frame} {meth : Method} {c : Code} {H : Heap} {locs : List Loc} {cells slots : Nat} {lsA : Array Slot}, Met l N.1 (zw N) { frames := N.2.2.2.2.1, cells := dc, slots := ds, locals := N.2.2.2.2.2 } (va_Pc (as.map (zv g)) (fun U => zpre g U h)) (zQ g v h') dc ds (zA g) → ZX g M p R s m args meth c → zmem g H h → va_S (zA g) s.heap H locs → zl g lsA M.2.2.1 ls → cells + dc ≤ R.cells → slots + ds ≤ R.slots →
      va_Run p l e R s m args below meth c H locs cells slots dc ds (F0 m pc lsA (st.map (zv g))) (rest.map (zv g)) (zQ g v h' (as.map (zv g)).toArray) (zA g))
    (k : ZC g l N as h (fun v h' => Z g l M (pc + 3) ls (v.toList ++ rest) h' Q)) : Z g l M pc ls st h Q := by
  obtain ⟨v, h', dc, ds, ⟨v2, h2, dc2, ds2, hq, f1, f2, kk⟩, e1, e2, hM⟩ := k
  refine ⟨v2, h2, dc + dc2, ds + ds2, hq, by rw [f1, e1]; omega, by rw [f2, e2]; omega, ?_⟩
  intro p e R s m args below meth c X H locs cells slots lsA hm hS hl c1 c2
  have hr := hrun hM (e := e) (below := below) X hm hS hl (cells := cells) (slots := slots) (by omega) (by omega)
  intro T hT XX
  obtain ⟨w, st₀, t, T', Lc, h0, X', hL, t1, t2, ⟨q1, q2, q3, q4⟩, go⟩ := hr T hT XX
  have hw : w = v.map (zv g) := by injection q1
  subst hw
  rw [h0] at q3 q4
  have key := kk p e R s m args below meth c X T'.heap (locs ++ Lc) (cells + dc) (slots + ds) lsA (by rw [t1]; exact q2) ⟨Nat.le_trans hS.1 (by rw [t1]; exact q3), fun q g1 g2 => by rw [t1, q4 q (Nat.lt_of_lt_of_le g1 hS.1) g2]; exact hS.2.1 q g1 g2, fun q hq => by
      rcases List.mem_append.mp hq with z | z
      · exact hS.2.2 q z
      · exact hL q z⟩ hl (by omega) (by omega)
  rw [Nat.add_assoc, Nat.add_assoc] at key
  obtain ⟨t3, a1, b1⟩ := key T' rfl X'
  refine ⟨t3, go t3 ?_, b1⟩
  have e5 : (v.map (zv g)).toList ++ rest.map (zv g) = (v.toList ++ rest).map (zv g) := by cases v <;> simp
  show Steps p.tables e below (T'.setTop { F0 m pc lsA (st.map (zv g)) with pc := pc + 3, stack := (v.map (zv g)).toList ++ rest.map (zv g) }) t3
  rw [e5]
  exact a1
theorem zroom {rest : List Value} (hc : (rest.map fun v => v.category).sum ≤ 8) : ((rest.map (zv g)).map fun v => v.category).sum ≤ 8 := by
  rw [List.map_map]
  rw [show List.map ((fun v : Value => v.category) ∘ zv g) rest = rest.map (fun v => v.category) from List.map_congr_left (fun v _ => zv_cat g v)]
  exact hc
def zparams (y : MethodName) (n : Nat) : Bool := y.cls != "java/lang/invoke/MethodHandle" && y.cls != "java/lang/invoke/VarHandle" && (parseMethodDescriptor y.desc).map (fun d => d.parameters.length) == some n
theorem zparams_spec {y : MethodName} {n : Nat} (h : zparams y n = true) : y.cls ≠ "java/lang/invoke/MethodHandle" ∧ y.cls ≠ "java/lang/invoke/VarHandle" ∧ (parseMethodDescriptor y.desc).map (fun d => d.parameters.length) = some n := by
  unfold zparams at h
  simp only [Bool.and_eq_true, bne_iff_ne, beq_iff_eq] at h
  exact ⟨h.1.1, h.1.2, h.2⟩
theorem zpre_of {p : Program} {R : Room} {s : State} {m : MethodId} {args : Array Value} {meth : Method} {c : Code} {H : Heap} {locs : List Loc} (as : List Value) (X : ZX g M p R s m args meth c) (hm : zmem g H h) (hS : va_S (zA g) s.heap H locs) : ∀ U : State, U.heap = H → s.WarmedH U.vm → va_Pc (as.map (zv g)) (fun U => zpre g U h) (as.map (zv g)).toArray U := by
  intro U hU hW
  refine ⟨rfl, zT_moved hW X.2.2.2.2.2.2.2.2.2.2.1, ?_, by rw [hU]; exact hm⟩
  rw [hU]
  exact zold_kept (zold_moved hW.alike X.2.2.2.2.2.2.2.2.2.2.2.1) hS.2.1
theorem z_calls {as rest : List Value} {index nas : Nat} (hd : decode M.2.1 pc = .ok (.invokestatic index, 3)) (hcode : Cond.code N.1 N.2.1 N.2.2.1 N.2.2.2.1 ∈ gw) (hl : Cond.methodLink M.1.cls index N.1 ∈ gw) (hs : Cond.static N.1 ∈ gw) (hi : Cond.initialized N.1.cls ∈ gw) (hp : zparams N.1 nas = true) (hn : as.length = nas) (hst : st = as.reverse ++ rest) (hro : (rest.map fun v => v.category).sum ≤ 8) (hfr : N.2.2.2.2.1 + 1 ≤ M.2.2.2.2.1) (hlo : 8 + (N.2.2.1 + 11) + N.2.2.2.2.2 ≤ M.2.2.2.2.2)
    (k : ZC g l N as h (fun v h' => Z g l M (pc + 3) ls (v.toList ++ rest) h' Q)) : Z g l M pc ls st h Q := by
  subst hst
  refine Z.call (hp := True) (fun hM X hm hS hls c1 c2 => ?_) k
  have hts := X.2.2.2.2.2.1
  have hsp := zparams_spec hp
  exact va_runS (As := as.map (zv g)) (rest := rest.map (zv g)) ⟨X.1, X.2.1, X.2.2.2.1, X.2.2.2.2.1, hts⟩ hM ⟨callB_of nas hts (zw_good hcode) rfl rfl rfl (hts _ hi) (hts _ hl) hsp ⟨Nat.le_trans hfr X.2.2.2.2.2.2.2.2.1, Nat.le_trans hlo X.2.2.2.2.2.2.2.2.2.1⟩, hts _ hs⟩ ⟨zpre_blind as, zpre_of as X hm hS⟩ rfl (by rw [List.length_map]; exact hn) hls.1 (by show (as.reverse ++ rest).map (zv g) = _; rw [List.map_append, List.map_reverse]) (lv_room (zroom hro)) hd ⟨c1, c2⟩
theorem z_callsN {as rest : List Value} {index nas : Nat} {host : String} (hd : decode M.2.1 pc = .ok (.invokestatic index, 3)) (hcode : Cond.code N.1 N.2.1 N.2.2.1 N.2.2.2.1 ∈ gw) (hl : (M.1.cls, index, N.1, host) ∈ znest) (hs : Cond.static N.1 ∈ gw) (hi : Cond.initialized N.1.cls ∈ gw) (hp : zparams N.1 nas = true) (hn : as.length = nas) (hst : st = as.reverse ++ rest) (hro : (rest.map fun v => v.category).sum ≤ 8) (hfr : N.2.2.2.2.1 + 1 ≤ M.2.2.2.2.1) (hlo : 8 + (N.2.2.1 + 11) + N.2.2.2.2.2 ≤ M.2.2.2.2.2)
    (k : ZC g l N as h (fun v h' => Z g l M (pc + 3) ls (v.toList ++ rest) h' Q)) : Z g l M pc ls st h Q := by
  subst hst
  refine Z.call (hp := True) (fun hM X hm hS hls c1 c2 => ?_) k
  have hts := X.2.2.2.2.2.1
  have hsp := zparams_spec hp
  exact va_runSN (As := as.map (zv g)) (rest := rest.map (zv g)) ⟨X.1, X.2.1, X.2.2.2.1, X.2.2.2.2.1, hts⟩ hM ⟨va_cnB nas hts (zw_good hcode) rfl rfl rfl (X.2.2.2.2.2.2.2.2.2.2.1.2.1 _ hl) (hts _ hi) hsp ⟨Nat.le_trans hfr X.2.2.2.2.2.2.2.2.1, Nat.le_trans hlo X.2.2.2.2.2.2.2.2.2.1⟩, hts _ hs, trivial⟩ ⟨zpre_blind as, zpre_of as X hm hS⟩ rfl (by rw [List.length_map]; exact hn) hls.1 (by show (as.reverse ++ rest).map (zv g) = _; rw [List.map_append, List.map_reverse]) (lv_room (zroom hro)) hd ⟨c1, c2⟩
theorem z_callv {as rest : List Value} {index nas b ci : Nat} {K : ZK} {I : ZI} {L : ZL} {R : ZR} {n s0 : Nat} (hd : decode M.2.1 pc = .ok (.invokevirtual index, 3)) (hcode : Cond.code N.1 N.2.1 N.2.2.1 N.2.2.2.1 ∈ gw) (hl : Cond.methodLink M.1.cls index N.1 ∈ gw) (hs : Cond.instanceMethod N.1 ∈ gw) (hse : Cond.selects (zRR ci) N.1 N.1 ∈ gw) (hi : Cond.initialized N.1.cls ∈ gw) (hp : zparams N.1 nas = true) (hn : as.length = nas) (hst : st = as.reverse ++ .ref b :: rest) (hK : (K b).1 = 10 + ci) (hc : ci < 10) (hro : (rest.map fun v => v.category).sum ≤ 8) (hfr : N.2.2.2.2.1 + 1 ≤ M.2.2.2.2.1) (hlo : 8 + (N.2.2.1 + 11) + N.2.2.2.2.2 ≤ M.2.2.2.2.2)
    (k : ZC g l N (.ref b :: as) (K, I, L, R, n, s0) (fun v h' => Z g l M (pc + 3) ls (v.toList ++ rest) h' Q)) : Z g l M pc ls st (K, I, L, R, n, s0) Q := by
  subst hst
  refine Z.call (hp := True) (fun hM X hm hS hls c1 c2 => ?_) k
  have hts := X.2.2.2.2.2.1
  have hsp := zparams_spec hp
  have hr := zmem_in hm hK (by omega)
  have hat := zws_at g (K, I, L, R, n, s0) hr.1 hr.2
  simp only [zcell_obj hK] at hat
  exact va_runV (As := as.map (zv g)) (rest := rest.map (zv g)) (C := zRR ci) (b := zphi g b) ⟨X.1, X.2.1, X.2.2.2.1, X.2.2.2.2.1, hts⟩ hM ⟨callB_of nas hts (zw_good hcode) rfl rfl rfl (hts _ hi) (hts _ hl) hsp ⟨Nat.le_trans hfr X.2.2.2.2.2.2.2.2.1, Nat.le_trans hlo X.2.2.2.2.2.2.2.2.2.1⟩, hts _ hs, hts _ hse⟩ ⟨zpre_blind (.ref b :: as), va_recv X.2.2.2.2.2.2.2.2.2.2.1.1 hm.2.2.2 (zcl ci hc) hat, zpre_of (.ref b :: as) X hm hS⟩ rfl (by rw [List.length_map]; exact hn) hls.1 (by show (as.reverse ++ .ref b :: rest).map (zv g) = _; rw [List.map_append, List.map_reverse]; rfl) (lv_room (zroom hro)) hd ⟨c1, c2⟩
theorem z_calli {as rest : List Value} {index nas b : Nat} (hd : decode M.2.1 pc = .ok (.invokespecial index, 3)) (hret : N.2.2.2.1 = none) (hnm : N.1.name = "<init>") (hcode : Cond.code N.1 N.2.1 N.2.2.1 N.2.2.2.1 ∈ gw) (hl : Cond.methodLink M.1.cls index N.1 ∈ gw) (hs : Cond.instanceMethod N.1 ∈ gw) (hi : Cond.initialized N.1.cls ∈ gw) (hp : zparams N.1 nas = true) (hn : as.length = nas) (hst : st = as.reverse ++ .ref b :: rest) (hro : (rest.map fun v => v.category).sum ≤ 8) (hfr : N.2.2.2.2.1 + 1 ≤ M.2.2.2.2.1) (hlo : 8 + (N.2.2.1 + 11) + N.2.2.2.2.2 ≤ M.2.2.2.2.2)
    (k : ZC g l N (.ref b :: as) h (fun v h' => Z g l M (pc + 3) ls (v.toList ++ rest) h' Q)) : Z g l M pc ls st h Q := by
  subst hst
  refine Z.call (hp := True) (fun hM X hm hS hls c1 c2 => ?_) k
  have hts := X.2.2.2.2.2.1
  have hsp := zparams_spec hp
  have hw : zw N = Cond.code N.1 N.2.1 N.2.2.1 none :: gw := by rw [← hret]; rfl
  exact va_runI (As := as.map (zv g)) (rest := rest.map (zv g)) (b := zphi g b) ⟨X.1, X.2.1, X.2.2.2.1, X.2.2.2.2.1, hts⟩ hM ⟨callB_of nas hts (zw_good hcode) hw rfl rfl (hts _ hi) (hts _ hl) hsp ⟨Nat.le_trans hfr X.2.2.2.2.2.2.2.2.1, Nat.le_trans hlo X.2.2.2.2.2.2.2.2.2.1⟩, hnm, hts _ hs⟩ ⟨zpre_blind (.ref b :: as), zpre_of (.ref b :: as) X hm hS⟩ rfl (by rw [List.length_map]; exact hn) hls.1 (by show (as.reverse ++ .ref b :: rest).map (zv g) = _; rw [List.map_append, List.map_reverse]; rfl) (lv_room (zroom hro)) hd ⟨c1, c2⟩
theorem z_calliN {as rest : List Value} {index nas b : Nat} {host : String} (hd : decode M.2.1 pc = .ok (.invokespecial index, 3)) (hret : N.2.2.2.1 = none) (hnm : N.1.name = "<init>") (hcode : Cond.code N.1 N.2.1 N.2.2.1 N.2.2.2.1 ∈ gw) (hl : (M.1.cls, index, N.1, host) ∈ znest) (hs : Cond.instanceMethod N.1 ∈ gw) (hi : Cond.initialized N.1.cls ∈ gw) (hp : zparams N.1 nas = true) (hn : as.length = nas) (hst : st = as.reverse ++ .ref b :: rest) (hro : (rest.map fun v => v.category).sum ≤ 8) (hfr : N.2.2.2.2.1 + 1 ≤ M.2.2.2.2.1) (hlo : 8 + (N.2.2.1 + 11) + N.2.2.2.2.2 ≤ M.2.2.2.2.2)
    (k : ZC g l N (.ref b :: as) h (fun v h' => Z g l M (pc + 3) ls (v.toList ++ rest) h' Q)) : Z g l M pc ls st h Q := by
  subst hst
  refine Z.call (hp := True) (fun hM X hm hS hls c1 c2 => ?_) k
  have hts := X.2.2.2.2.2.1
  have hsp := zparams_spec hp
  have hw : zw N = Cond.code N.1 N.2.1 N.2.2.1 none :: gw := by rw [← hret]; rfl
  exact va_runIN (As := as.map (zv g)) (rest := rest.map (zv g)) (b := zphi g b) ⟨X.1, X.2.1, X.2.2.2.1, X.2.2.2.2.1, hts⟩ hM ⟨va_cnB nas hts (zw_good hcode) hw rfl rfl (X.2.2.2.2.2.2.2.2.2.2.1.2.1 _ hl) (hts _ hi) hsp ⟨Nat.le_trans hfr X.2.2.2.2.2.2.2.2.1, Nat.le_trans hlo X.2.2.2.2.2.2.2.2.2.1⟩, hnm, hts _ hs⟩ ⟨zpre_blind (.ref b :: as), zpre_of (.ref b :: as) X hm hS⟩ rfl (by rw [List.length_map]; exact hn) hls.1 (by show (as.reverse ++ .ref b :: rest).map (zv g) = _; rw [List.map_append, List.map_reverse]; rfl) (lv_room (zroom hro)) hd ⟨c1, c2⟩
end ZCalls
