def R_law : String := "EscalatedFormsLaw"
def lw_P (b : Addr) (xs : List Int32) (args : Array Value) (s : State) : Prop := args = #[.ref b] ∧ s.IntsAt b xs ∧ xs.length ≤ 3072 ∧ (Jvm.Cond.and given_1 narrow_1).before args s = true
def lw_Q (_ : Array Value) (s : State) (o : Outcome) (t : State) : Prop := o = .returned (some (.int 1)) ∧ Framed s o t [] 600000 7302250
def lw_Z (below : List Frame) (a : Array Value) (s : State) : State → Prop := fun t => ∃ o, t.status = .running ∧ Ended t below o ∧ lw_Q a s o t
/-- the law's own end, with 1 on the stack, nothing written that was there before, its room as the claim has it -/
theorem lw_ret {p : Program} {l : Launch} {e : Env} {s : State} {m : MethodId} {below : List Frame} {meth : Method} {c : Code} {b : Nat} (hx : p.tables.exec = Jvm.exec) (hb : c.code = code) (hr : meth.sig.returnType = ret) (hlocks : meth.locks = false) {pc : Nat} {H : Heap} {ls : Array Slot} (hdg : decode code pc = .ok (.ireturn, 1)) : W p l e room_1 s m #[Value.ref b] below meth c H [] 600000 7302250 (lw_Z below #[Value.ref b] s) (F0 m pc ls [.int 1]) := by
  intro T hT X
  obtain ⟨fs, hret, hrun, hended, hW, hframe⟩ := X.leave (v := some (.int 1)) (hlocks := hlocks) (fun h => by rw [hr] at h; cases h)
  have hmeth' : T.vm.method? m = some meth := X.method'
  refine ⟨T.setFrames fs, ?_, .returned (some (.int 1)), hrun, hended, rfl, ⟨_, rfl⟩, hW, hframe⟩
  jvm_step X.here [X.here.top, hx, hb, hdg, hmeth', hr, ret, narrow_b1]
  (try refine ⟨rfl, ?_⟩); (try refine ⟨rfl, ?_⟩)
  first | (intro acts; rw [hret _ acts rfl rfl rfl]) | rw [hret _ _ rfl rfl rfl]
  exact Steps.refl _
/-- what holds at the law's entry: the machine, the code, the tables' words (any of lw_tbl by 'hts w (by decide +kernel)'), the script of L ints xs at the cell b, what the Statement gives of the start (any of its parts by flat_of_before) -/
def lw_At (p : Program) (s : State) (m : MethodId) (meth : Method) (c : Code) (b L : Nat) (xs : Nat → Int32) : Prop :=
  p.tables.exec = Jvm.exec ∧ c.code = code ∧ meth.sig.returnType = ret ∧ c.maxLocals = 4 ∧ s.vm.findClass R_law = some m.cls ∧ (∀ w ∈ lw_tbl, w.before #[Value.ref b] s = true) ∧ va_X b L xs s s.heap ∧ b < s.heap.size ∧ meth.locks = false ∧ (Jvm.Cond.and given_1 narrow_1).before #[Value.ref b] s = true ∧ meth.name = "law"
set_option maxRecDepth 100000 in
set_option maxHeartbeats 4000000 in
theorem whole_start {p : Program} {e : Env} {s : State} {m : MethodId} {below : List Frame} {meth : Method} {c : Code} (l : Launch) (hflags : l.flags = flags0) {b L : Nat} {xs : Nat → Int32} (hL : L ≤ 3072) (C0 : lw_At p s m meth c b L xs) : W p l e room_1 s m #[Value.ref b] below meth c s.heap [] 0 0 (lw_Z below #[Value.ref b] s) (entryFrame m ([Value.ref b] : List Value).toArray 4) := by
  obtain ⟨hx, hb, hr, hml, hown, hts, hX, hbl, hlocks, hgv, hnm⟩ := id C0
  have hgw : ∀ w ∈ gw, w.before #[Value.ref b] s = true := fun w hw => hts w (List.mem_filter.mp hw).1
  have hA : ∀ a : Nat, a < s.heap.size → ¬ (fun q : Nat => s.heap.size ≤ q) a := fun a ha => Nat.not_le.mpr ha
  obtain ⟨dC, dI, hKc⟩ := st_classes hgw
  obtain ⟨c1, hc1⟩ := st_arr (fun C z => by cases z) (hgw _ w_51)
  obtain ⟨c2, hc2⟩ := st_arr (fun C z => by cases z) (hgw _ w_104)
  obtain ⟨c3, hc3⟩ := st_arr (fun C z => by cases z) (hgw _ w_160)
  have ho4 := hts (.arrayOver (.object RX3)) (List.mem_append_right _ (List.mem_of_getElem? (i := 23) (by decide +kernel)))
  have ho5 := hts (.arrayOver (.object RX5)) (List.mem_append_right _ (List.mem_of_getElem? (i := 53) (by decide +kernel)))
  obtain ⟨c4, hc4⟩ := st_obj ho4
  obtain ⟨c5, hc5⟩ := st_obj ho5
  obtain ⟨t1, hz1, ht1⟩ := st_rule0 hgv hts hA
  obtain ⟨t2, hz2, ht2⟩ := st_rule1 hgv hts hA
  obtain ⟨t3, hz3, ht3⟩ := st_rule2 hgv hts hA
  let g : ZG := ((dC, dI), (fun k => match k with | 1 => c1 | 2 => c2 | 3 => c3 | 4 => c4 | _ => c5), (fun r => match r with | 0 => b | 1 => t1 | 2 => t2 | _ => t3), s.heap.size, (fun r => match r with | 0 => (L, xs) | 1 => (9, fun j => iZ (ruleA 0 (j : Int))) | 2 => (7, fun j => iZ (ruleA 1 (j : Int))) | _ => (17, fun j => iZ (ruleA 2 (j : Int)))))
  have hS : g.2.2.2.2 0 = (L, fun j => iZ ((fun j => (xs j).toInt) j)) := by
    show (L, xs) = _
    congr 1
    funext j; exact iZ_of (xs j)
  have hF : ∀ j, rI ((fun j => (xs j).toInt) j) := fun j => ⟨Int32.le_toInt _, by have := Int32.toInt_lt (xs j); show (xs j).toInt ≤ 2147483647; omega⟩
  have hO : ORUL g := fun r h0 h3 => by
    rcases (show r = 0 ∨ r = 1 ∨ r = 2 by omega) with rfl | rfl | rfl <;> rfl
  obtain ⟨v, h', dc, ds, ⟨hv, hn, hs⟩, e1, e2, kk⟩ := law_Z (g := g) (l := l) hS hL hF hO
  have hT : zT g s := by
    refine ⟨⟨hKc, fun k q hk => ?_⟩, fun q hq => ?_, ?_, va_AO.of ho4, va_AO.of ho5⟩
    · match k, hk with
      | 0, hk => cases hk; exact hc1
      | 1, hk => cases hk; exact hc2
      | 2, hk => cases hk; exact hc3
      | 3, hk => cases hk; exact hc4
      | 4, hk => cases hk; exact hc5
      | k + 5, hk => simp [ztys] at hk
    · simp only [znest, List.mem_cons, List.not_mem_nil, or_false] at hq
      rcases hq with rfl | rfl | rfl | rfl | rfl | rfl | rfl | rfl
      · exact va_Nw.of rfl (hts _ (List.mem_append_right _ (List.mem_of_getElem? (i := 26) (by decide +kernel))))
      · exact va_Nw.of rfl (hts _ (List.mem_append_right _ (List.mem_of_getElem? (i := 55) (by decide +kernel))))
      · exact va_Nw.of rfl (hts _ (List.mem_append_right _ (List.mem_of_getElem? (i := 73) (by decide +kernel))))
      · exact va_Nw.of rfl (hts _ (List.mem_append_right _ (List.mem_of_getElem? (i := 107) (by decide +kernel))))
      · exact va_Nw.of rfl (hts _ (List.mem_append_right _ (List.mem_of_getElem? (i := 149) (by decide +kernel))))
      · exact va_Nw.of rfl (hts _ (List.mem_append_right _ (List.mem_of_getElem? (i := 163) (by decide +kernel))))
      · exact va_Nw.of rfl (hts _ (List.mem_append_right _ (List.mem_of_getElem? (i := 257) (by decide +kernel))))
      · exact va_Nw.of rfl (hts _ (List.mem_append_right _ (List.mem_of_getElem? (i := 464) (by decide +kernel))))
    · exact va_Nw.of rfl (hts _ (List.mem_append_right _ (List.mem_of_getElem? (i := 272) (by decide +kernel))))
  have hold : zold g s s.heap := by
    refine ⟨fun r hr4 => ?_, hz1, hz2, hz3⟩
    rcases (show r = 0 ∨ r = 1 ∨ r = 2 ∨ r = 3 by omega) with rfl | rfl | rfl | rfl
    · obtain ⟨scr, x1, x2, x3, x4, x5⟩ := hX
      exact ⟨scr, x1, x2, x3, by show L ≤ _; omega, by show _ = Int32.ofNat L; rw [x4], x5, hA b hbl⟩
    · exact ht1
    · exact ht2
    · exact ht3
  have hmem : zmem g s.heap (KT 4, zi Z0, zj Z0, RN, 4, 0) := by
    refine ⟨Nat.le_refl _, fun a ha => ?_, rfl, fun k q hk => by simp [zws] at hk⟩
    exfalso; apply ha
    show (KT 4 a).1 = 0
    unfold KT
    rw [if_neg (by omega)]
  have hZX : ZX g ML_law p room_1 s m #[Value.ref b] meth c := ⟨hx, hb, hr, hml, hown, hgw, hlocks, hnm, by decide, by decide, hT, hold, Nat.le_refl _⟩
  have hl := lv_entry (([.ref 0] : List Value).map (zv g)) (n := 4) (Nat.le_of_ble_eq_true rfl)
  have hzl := zl_entry (g := g) (as := [.ref 0]) (nL := 4) (ls := [some (.ref 0), none, none, none]) hl (zargs_pad (as := [.ref 0]) (k := 3))
  have e1' : h'.2.2.2.2.1 = 4 + dc := e1
  have e2' : h'.2.2.2.2.2 = 0 + ds := e2
  have k1 := kk p e room_1 s m #[Value.ref b] below meth c hZX s.heap [] 0 0 _ hmem va_S.rf hzl (by show 0 + dc ≤ 600000; omega) (by show 0 + ds ≤ 7302250; omega)
  rw [lg_entry_eq]
  intro T hT1 X1
  obtain ⟨t, st, o, q1, q2, q3, LL, q4, q5⟩ := k1 T hT1 X1
  refine ⟨t, st, o, q1, q2, ?_, ?_⟩
  · rw [q3.1, hv]; rfl
  · obtain ⟨f1, f2, f3⟩ := q4
    exact ⟨f1, f2, (State.sameButNew.drop_fresh (L := []) (J := LL) f3 q5).mono (by omega) (by omega)⟩
