/-! A PURE LAYER over the machine: references are numbered 0 .. 3 (arrays that stand ahead of the start) and 4, 5 .. (cells in the order in which they are made);
    a heap is (K, I, L, R, n, s): kinds and lengths, ints, longs, references, the next number, slots made. Z: from here the method ends, with an answer and a heap that Q allows. -/
def gw : List Cond := lw_tbl.filter goodWord
theorem gw_in {w : Cond} (h : w ∈ lw_tbl) (hg : goodWord w = true) : w ∈ gw := List.mem_filter.mpr ⟨h, hg⟩
theorem gw_good {w : Cond} (h : w ∈ gw) : (w.onTables && w.keeps) = true ∨ ∃ ty, w = .arrayClass ty := good_of_word (List.mem_filter.mp h).2
/-- class numbers, classes of arrays 1 .. 5, addresses of the old arrays 0 .. 3, the first new address, what the old arrays hold -/
abbrev ZG : Type := va_G × (Nat → ClassId) × (Nat → Nat) × Nat × (Nat → Nat × (Nat → Int32))
def zA (g : ZG) : Nat → Prop := fun q => g.2.2.2.1 ≤ q
def zphi (g : ZG) (r : Nat) : Nat := if r < 4 then g.2.2.1 r else g.2.2.2.1 + (r - 4)
def zv (g : ZG) (v : Value) : Value := match v with
  | .ref r => .ref (zphi g r)
  | v => v
theorem zv_cat (g : ZG) (v : Value) : (zv g v).category = v.category := by cases v <;> rfl
abbrev ZK : Type := Nat → Nat × Nat
abbrev ZI : Type := Nat → Nat → Int32
abbrev ZL : Type := Nat → Nat → Int64
abbrev ZR : Type := Nat → Nat → Option Nat
abbrev ZH : Type := ZK × ZI × ZL × ZR × Nat × Nat
def zup {α : Type} (I : Nat → Nat → α) (r i : Nat) (x : α) : Nat → Nat → α := fun a j => if a = r then (if j = i then x else I a j) else I a j
def zupA {α : Type} (I : Nat → Nat → α) (r : Nat) (f : Nat → α) : Nat → Nat → α := fun a => if a = r then f else I a
def zkp (K : ZK) (r : Nat) (x : Nat × Nat) : ZK := fun a => if a = r then x else K a
def zsort : FieldType → Nat
  | .long => 1
  | .object _ => 2
  | .array _ => 2
  | _ => 0
def zty (ci : Nat) : Nat → FieldType := match ci with
  | 0 => tyX0
  | 1 => tyX1
  | 2 => tyX2
  | 3 => tyX3
  | 4 => tyX4
  | 5 => tyX5
  | 6 => tyX6
  | 7 => tyX7
  | 8 => tyX8
  | _ => tyX9
def zN (ci : Nat) : Nat := match vwCl[ci]? with
  | some q => q.2.2
  | none => 0
def zfv (g : ZG) (I : ZI) (L : ZL) (R : ZR) (ci r k : Nat) : Value := match zsort (zty ci k) with
  | 0 => .int (I r k)
  | 1 => .long (L r k)
  | _ => va_rf ((R r k).map (zphi g))
def zcell (g : ZG) (K : ZK) (I : ZI) (L : ZL) (R : ZR) (r : Nat) : va_E := match (K r).1 with
  | 1 => .inl (g.2.1 1, (K r).2, .inl (I r))
  | 2 => .inl (g.2.1 2, (K r).2, .inr (.inl (L r)))
  | 3 => .inl (g.2.1 3, (K r).2, .inl (I r))
  | 4 => .inl (g.2.1 4, (K r).2, .inr (.inr (.inr (.inr (fun j => (R r j).map (zphi g))))))
  | 5 => .inl (g.2.1 5, (K r).2, .inr (.inr (.inr (.inr (fun j => (R r j).map (zphi g))))))
  | k => .inr (k - 10, (List.range (zN (k - 10))).map (zfv g I L R (k - 10) r))
def zws (g : ZG) (h : ZH) : va_W := (List.range (h.2.2.2.2.1 - 4)).map (fun i => (g.2.2.2.1 + i, zcell g h.1 h.2.1 h.2.2.1 h.2.2.2.1 (i + 4)))
def ztys (g : ZG) : List (ClassId × FieldType) := [(g.2.1 1, .int), (g.2.1 2, .long), (g.2.1 3, .byte), (g.2.1 4, .object RX3), (g.2.1 5, .object RX5)]
/-- the heap holds the pure heap, and nothing else is new -/
def zmem (g : ZG) (H : Heap) (h : ZH) : Prop := 4 ≤ h.2.2.2.2.1 ∧ (∀ a, (h.1 a).1 ≠ 0 → 4 ≤ a ∧ a < h.2.2.2.2.1) ∧ H.size = g.2.2.2.1 + (h.2.2.2.2.1 - 4) ∧ va_P g.1 vwCl (zws g h) H
def znest : List (String × Nat × MethodName × String) := [("EscalatedForms", 22, yX7_init, "EscalatedForms"), ("EscalatedForms", 40, yX5_init, "EscalatedForms"), ("EscalatedForms", 43, yX1_init, "EscalatedForms"), ("EscalatedForms", 50, yX2_init, "EscalatedForms"), ("EscalatedForms", 57, yX4_init, "EscalatedForms"), ("EscalatedForms", 64, yX0_init, "EscalatedForms"), ("EscalatedForms$Draft", 71, yX8_squareRoot, "EscalatedForms"), ("EscalatedForms$Ellipsoid", 71, yX8_squareRoot, "EscalatedForms")]
/-- what the tables say -/
def zT (g : ZG) (U : State) : Prop := va_K g.1 vwCl (ztys g) U ∧ (∀ q ∈ znest, va_Nw (.methodLinkNest q.1 q.2.1 q.2.2.1 q.2.2.2) U) ∧ va_Nw (.castable "[I" "java/lang/Cloneable") U ∧ va_AO RX3 U ∧ va_AO RX5 U
/-- the old arrays, and the static fields that hold three of them -/
def zold (g : ZG) (U : State) (H : Heap) : Prop := (∀ r, r < 4 → va_T .int (g.2.2.1 r) (g.2.2.2.2 r).1 (fun j => .int ((g.2.2.2.2 r).2 j)) (zA g) U H) ∧ va_Z RX8 "RULE_ALL" "[I" (.ref (g.2.2.1 1)) (zA g) U H ∧ va_Z RX8 "RULE_ODD" "[I" (.ref (g.2.2.1 2)) (zA g) U H ∧ va_Z RX8 "RULE_PRIME" "[I" (.ref (g.2.2.1 3)) (zA g) U H
def zpre (g : ZG) (U : State) (h : ZH) : Prop := zT g U ∧ zold g U U.heap ∧ zmem g U.heap h
/-- name, code, locals, what it returns, frames and words of locals below it -/
abbrev ZM : Type := MethodName × ByteArray × Nat × Option FieldType × Nat × Nat
def zw (M : ZM) : List Cond := Cond.code M.1 M.2.1 M.2.2.1 M.2.2.2.1 :: gw
def zQ (g : ZG) (v : Option Value) (h : ZH) : Array Value → State → Outcome → State → Prop := fun _ st oc t => oc = .returned (v.map (zv g)) ∧ zmem g t.heap h ∧ va_F (zA g) st t
def zl (g : ZG) (lsA : Array Slot) (nL : Nat) (ls : List (Option Value)) : Prop := lsA.size = nL ∧ lv_wf lsA ∧ ∀ (i : Nat) (v : Value), ls[i]? = some (some v) → lsA[i]? = some (.val (zv g v))
/-- a method's frame -/
def ZX (g : ZG) (M : ZM) (p : Program) (R : Room) (s : State) (m : MethodId) (args : Array Value) (meth : Method) (c : Code) : Prop :=
  p.tables.exec = Jvm.exec ∧ c.code = M.2.1 ∧ meth.sig.returnType = M.2.2.2.1 ∧ c.maxLocals = M.2.2.1 ∧ s.vm.findClass M.1.cls = some m.cls ∧ (∀ w ∈ gw, w.before args s = true) ∧ meth.locks = false ∧ meth.name = M.1.name ∧ M.2.2.2.2.1 ≤ R.frames ∧ M.2.2.2.2.2 ≤ R.locals ∧ zT g s ∧ zold g s s.heap ∧ g.2.2.2.1 ≤ s.heap.size
def Z (g : ZG) (l : Launch) (M : ZM) (pc : Nat) (ls : List (Option Value)) (st : List Value) (h : ZH) (Q : Option Value → ZH → Prop) : Prop :=
  ∃ (v : Option Value) (h' : ZH) (dc ds : Nat), Q v h' ∧ h'.2.2.2.2.1 = h.2.2.2.2.1 + dc ∧ h'.2.2.2.2.2 = h.2.2.2.2.2 + ds ∧
    ∀ (p : Program) (e : Env) (R : Room) (s : State) (m : MethodId) (args : Array Value) (below : List Frame) (meth : Method) (c : Code), ZX g M p R s m args meth c →
      ∀ (H : Heap) (locs : List Loc) (cells slots : Nat) (lsA : Array Slot), zmem g H h → va_S (zA g) s.heap H locs → zl g lsA M.2.2.1 ls → cells + dc ≤ R.cells → slots + ds ≤ R.slots →
        W p l e R s m args below meth c H locs cells slots (MQ below (zQ g v h') args s (cells + dc) (slots + ds) (zA g)) (F0 m pc lsA (st.map (zv g)))
def ZC (g : ZG) (l : Launch) (M : ZM) (as : List Value) (h : ZH) (Q : Option Value → ZH → Prop) : Prop :=
  ∃ (v : Option Value) (h' : ZH) (dc ds : Nat), Q v h' ∧ h'.2.2.2.2.1 = h.2.2.2.2.1 + dc ∧ h'.2.2.2.2.2 = h.2.2.2.2.2 + ds ∧
    Met l M.1 (zw M) { frames := M.2.2.2.2.1, cells := dc, slots := ds, locals := M.2.2.2.2.2 } (va_Pc (as.map (zv g)) (fun U => zpre g U h)) (zQ g v h') dc ds (zA g)
theorem Z.mono {g : ZG} {l : Launch} {M : ZM} {pc : Nat} {ls : List (Option Value)} {st : List Value} {h : ZH} {Q Q' : Option Value → ZH → Prop} (hq : ∀ v h', Q v h' → Q' v h') (k : Z g l M pc ls st h Q) : Z g l M pc ls st h Q' := by
  obtain ⟨v, h', dc, ds, a, b⟩ := k
  exact ⟨v, h', dc, ds, hq v h' a, b⟩
theorem ZC.mono {g : ZG} {l : Launch} {M : ZM} {as : List Value} {h : ZH} {Q Q' : Option Value → ZH → Prop} (k : ZC g l M as h Q) (hq : ∀ v h', Q v h' → Q' v h') : ZC g l M as h Q' := by
  obtain ⟨v, h', dc, ds, a, b⟩ := k
  exact ⟨v, h', dc, ds, hq v h' a, b⟩
-- the world as a list
theorem zws_at (g : ZG) (h : ZH) {r : Nat} (h4 : 4 ≤ r) (hr : r < h.2.2.2.2.1) : (zws g h)[r - 4]? = some (zphi g r, zcell g h.1 h.2.1 h.2.2.1 h.2.2.2.1 r) := by
  unfold zws
  rw [List.getElem?_map, List.getElem?_range (by omega)]
  simp only [Option.map_some]
  rw [show r - 4 + 4 = r by omega]
  unfold zphi
  rw [if_neg (by omega)]
theorem zws_len (g : ZG) (h : ZH) : (zws g h).length = h.2.2.2.2.1 - 4 := by simp [zws]
theorem zws_get {g : ZG} {h : ZH} {k : Nat} {q : Nat × va_E} (hk : (zws g h)[k]? = some q) : k < h.2.2.2.2.1 - 4 ∧ q = (g.2.2.2.1 + k, zcell g h.1 h.2.1 h.2.2.1 h.2.2.2.1 (k + 4)) := by
  have hl : k < (zws g h).length := (List.getElem?_eq_some_iff.mp hk).1
  rw [zws_len] at hl
  refine ⟨hl, ?_⟩
  unfold zws at hk
  rw [List.getElem?_map, List.getElem?_range hl] at hk
  simpa using hk.symm
theorem zws_D (g : ZG) (h : ZH) : va_D (zA g) (zws g h) := by
  refine ⟨fun i j p q hi hj hpq => ?_, fun k q hk => ?_⟩
  · have a := (zws_get hi).2
    have b := (zws_get hj).2
    rw [a, b] at hpq
    simp only at hpq
    omega
  · rw [(zws_get hk).2]
    exact Nat.le_add_right _ _
theorem zws_set {g : ZG} {K K' : ZK} {I I' : ZI} {L L' : ZL} {R R' : ZR} {n s : Nat} {r : Nat} (h4 : 4 ≤ r) (hr : r < n) {e : va_E} (he : e = zcell g K' I' L' R' r) (ho : ∀ q, q ≠ r → zcell g K' I' L' R' q = zcell g K I L R q) :
    (zws g (K, I, L, R, n, s)).set (r - 4) (zphi g r, e) = zws g (K', I', L', R', n, s) := by
  apply List.ext_getElem?
  intro k
  by_cases hk : k = r - 4
  · subst hk
    rw [List.getElem?_set_self (by rw [zws_len]; show r - 4 < n - 4; omega), zws_at g (K', I', L', R', n, s) h4 hr, he]
  · rw [List.getElem?_set_ne (Ne.symm hk)]
    by_cases hkn : k < n - 4
    · have e1 := zws_at g (K, I, L, R, n, s) (r := k + 4) (by omega) (show k + 4 < n by omega)
      have e2 := zws_at g (K', I', L', R', n, s) (r := k + 4) (by omega) (show k + 4 < n by omega)
      rw [show k + 4 - 4 = k by omega] at e1 e2
      rw [e1, e2]
      simp only
      rw [ho (k + 4) (by omega)]
    · rw [List.getElem?_eq_none (by rw [zws_len]; show n - 4 ≤ k; omega), List.getElem?_eq_none (by rw [zws_len]; show n - 4 ≤ k; omega)]
theorem zws_push {g : ZG} {K K' : ZK} {I I' : ZI} {L L' : ZL} {R R' : ZR} {n s s' : Nat} (h4 : 4 ≤ n) {e : va_E} (he : e = zcell g K' I' L' R' n) (ho : ∀ q, q ≠ n → zcell g K' I' L' R' q = zcell g K I L R q) :
    zws g (K, I, L, R, n, s) ++ [(g.2.2.2.1 + (n - 4), e)] = zws g (K', I', L', R', n + 1, s') := by
  unfold zws
  simp only
  rw [show n + 1 - 4 = (n - 4) + 1 by omega, List.range_succ, List.map_append]
  congr 1
  · apply List.map_congr_left
    intro i hi
    rw [List.mem_range] at hi
    rw [ho (i + 4) (by omega)]
  · simp only [List.map_cons, List.map_nil]
    rw [he, show n - 4 + 4 = n by omega]
theorem zphi_new (g : ZG) {n : Nat} (h4 : 4 ≤ n) : zphi g n = g.2.2.2.1 + (n - 4) := by unfold zphi; rw [if_neg (by omega)]
theorem zphi_inj {g : ZG} {a b : Nat} (ha : 4 ≤ a) (hb : 4 ≤ b) (h : zphi g a = zphi g b) : a = b := by rw [zphi_new g ha, zphi_new g hb] at h; omega
