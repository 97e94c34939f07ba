/-! LIBRARY, SMALL METHODS -/
theorem Met_ofF {l : Launch} {y : MethodName} {ws ws' : List Cond} {rm : Room} {Pc : Array Value → State → Prop} {Qc : Array Value → State → Outcome → State → Prop} {mc ms : Nat} {free : Addr → Prop} {cc : ByteArray} {maxL : Nat} {ret : Option FieldType}
    (hy : plainFor y = true) (hw : ws = Cond.code y cc maxL ret :: ws')
    (body : ∀ p e s m args below meth c s₁, BodyLoose p l y (headSpec ws rm) cc maxL ret e s m args below meth c s₁ → c.maxLocals = maxL → Pc args s →
      W p l e (headSpec ws rm).room s m args below meth c s.heap [] 0 0 (MQ below Qc args s mc ms free) (entryFrame m args maxL)) : Met l y ws rm Pc Qc mc ms free := by
  refine MetFree.of_bodySF (code := cc) (maxLocals := maxL) (ret := ret) hy (fun args s m h hn => ?_) (fun p e s m args below meth c s₁ B hml hP _ => ?_)
  · have h9 := Cond.code_spec hn (atoms_spec (ws := ws) h (Cond.code y cc maxL ret) (by rw [hw]; exact List.mem_cons_self))
    obtain ⟨meth, c, h1, h2, h3, h4, h5, h6, -, -⟩ := h9
    exact ⟨meth, c, h1, h2, h3, h4, h5, h6⟩
  · obtain ⟨t, a1, oc, b1, b2, b3⟩ := body p e s m args below meth c s₁ B hml hP s₁ (by rw [B.state]; rfl) (Stand.of_body B)
    exact ⟨t, oc, a1, b1, b2, ⟨b3.1, b3.2⟩⟩
theorem ZC.ofF {g : ZG} {l : Launch} {M : ZM} {h : ZH} {Q : Option Value → ZH → Prop} {as : List Value} (hy : plainFor M.1 = true) (hn : (zargs as).length ≤ M.2.2.1) (k : Z g l M 0 (zargs as ++ List.replicate (M.2.2.1 - (zargs as).length) none) [] h Q) : ZC g l M as h Q := by
  obtain ⟨v, h', dc, ds, hq, e1, e2, kk⟩ := k
  refine ⟨v, h', dc, ds, hq, e1, e2, ?_⟩
  refine Met_ofF (cc := M.2.1) (maxL := M.2.2.1) (ret := M.2.2.2.1) (ws' := gw) hy rfl ?_
  intro p e s m args below meth c s₁ B hml hv
  obtain ⟨rfl, hT, hO, hm⟩ := hv
  have hts := atoms_spec (ws := zw M) B.pre
  have X : ZX g M p (headSpec (zw M) { frames := M.2.2.2.2.1, cells := dc, slots := ds, locals := M.2.2.2.2.2 }).room s m (as.map (zv g)).toArray meth c :=
    ⟨B.exec, B.bytes, B.returns, hml, findClass_of_methodNamed B.named, fun w hw => hts w (List.mem_cons_of_mem _ hw), B.notSynchronized, (name_of_methodNamed B.named B.method).1, Nat.le_refl _, Nat.le_refl _, hT, hO, by rw [hm.2.2.1]; exact Nat.le_add_right _ _⟩
  have hl := lv_entry (as.map (zv g)) (n := M.2.2.1) (by rw [zargs_len]; exact hn)
  rw [lg_entry_eq]
  have k1 := kk p e _ s m (as.map (zv g)).toArray below meth c X s.heap [] 0 0 _ hm va_S.rf (zl_entry hl zargs_pad) (by show 0 + dc ≤ dc; omega) (by show 0 + ds ≤ ds; omega)
  rw [Nat.zero_add, Nat.zero_add] at k1
  exact k1
theorem lx_sg {x y : Int} (hx : rL x) (hy : rL y) (h : 0 < y) : ∃ w : Int, lZ x ^^^ lZ y = lZ w ∧ rL w ∧ (w < 0 ↔ x < 0) := by
  refine ⟨(lZ x ^^^ lZ y).toInt, lZ_of _, ?_, ?_⟩
  · have a := Int64.le_toInt (lZ x ^^^ lZ y)
    have b := Int64.toInt_lt (lZ x ^^^ lZ y)
    simp only [Int.reducePow, Int.reduceNeg] at a b
    constructor <;> omega
  · have e : (lZ x ^^^ lZ y).toBitVec.msb = ((lZ x).toBitVec.msb ^^ (lZ y).toBitVec.msb) := by rw [Int64.toBitVec_xor, BitVec.msb_xor]
    rw [BitVec.msb_eq_toInt, BitVec.msb_eq_toInt, BitVec.msb_eq_toInt] at e
    have e1 : (lZ x).toBitVec.toInt = x := lZ_toInt hx
    have e2 : (lZ y).toBitVec.toInt = y := lZ_toInt hy
    rw [e1, e2, decide_eq_false (show ¬ y < 0 by omega), Bool.xor_false] at e
    exact decide_eq_decide.mp e
theorem ix_sg {x y : Int} (hx : rI x) (hy : rI y) (h : 0 < y) : ∃ w : Int, iZ x ^^^ iZ y = iZ w ∧ rI w ∧ (w < 0 ↔ x < 0) := by
  refine ⟨(iZ x ^^^ iZ y).toInt, iZ_of _, ?_, ?_⟩
  · have a := Int32.le_toInt (iZ x ^^^ iZ y)
    have b := Int32.toInt_lt (iZ x ^^^ iZ y)
    simp only [Int.reducePow, Int.reduceNeg] at a b
    constructor <;> omega
  · have e : (iZ x ^^^ iZ y).toBitVec.msb = ((iZ x).toBitVec.msb ^^ (iZ y).toBitVec.msb) := by rw [Int32.toBitVec_xor, BitVec.msb_xor]
    rw [BitVec.msb_eq_toInt, BitVec.msb_eq_toInt, BitVec.msb_eq_toInt] at e
    have e1 : (iZ x).toBitVec.toInt = x := iZ_toInt hx
    have e2 : (iZ y).toBitVec.toInt = y := iZ_toInt hy
    rw [e1, e2, decide_eq_false (show ¬ y < 0 by omega), Bool.xor_false] at e
    exact decide_eq_decide.mp e
theorem fd_cases {x y : Int} (h : 0 < y) : (x < 0 ∧ ¬ x.tdiv y * y = x → x / y = x.tdiv y - 1) ∧ (¬ (x < 0 ∧ ¬ x.tdiv y * y = x) → x / y = x.tdiv y) := by
  have e := Int.mul_ediv_add_emod x y
  have r0 := Int.emod_nonneg x (show y ≠ 0 by omega)
  have r1 := Int.emod_lt_of_pos x h
  have c1 : y * (x / y) = x / y * y := Int.mul_comm _ _
  rcases (show x < 0 ∨ 0 ≤ x by omega) with hx | hx
  · have t : x.tdiv y = -((-x) / y) := by
      have := Int.neg_tdiv (a := -x) (b := y)
      rw [Int.neg_neg, Int.tdiv_eq_ediv_of_nonneg (show 0 ≤ -x by omega)] at this; exact this
    have e2 := Int.mul_ediv_add_emod (-x) y
    have s0 := Int.emod_nonneg (-x) (show y ≠ 0 by omega)
    have s1 := Int.emod_lt_of_pos (-x) h
    have c2 : y * (-x / y) = -x / y * y := Int.mul_comm _ _
    rw [t]
    generalize hu : -x / y = u at *
    generalize hw : x / y = w at *
    have c3 : -u * y = -(u * y) := Int.neg_mul _ _
    have key : (w + u) * y = w * y + u * y := Int.add_mul _ _ _
    have h1 : -1 ≤ w + u := by
      by_cases g : -1 ≤ w + u
      · exact g
      · have := Int.mul_le_mul_of_nonneg_right (show w + u ≤ -2 by omega) (show 0 ≤ y by omega); omega
    have h2 : w + u ≤ 0 := by
      by_cases g : w + u ≤ 0
      · exact g
      · have := Int.mul_le_mul_of_nonneg_right (show 1 ≤ w + u by omega) (show 0 ≤ y by omega); omega
    constructor
    · intro ⟨_, hn⟩
      rcases (show w + u = -1 ∨ w + u = 0 by omega) with g | g
      · omega
      · exfalso; apply hn; rw [c3]; rw [g, Int.zero_mul] at key; omega
    · intro hn
      have hn2 : -u * y = x := by
        by_cases g : -u * y = x
        · exact g
        · exact absurd ⟨hx, g⟩ hn
      rcases (show w + u = -1 ∨ w + u = 0 by omega) with g | g
      · rw [g] at key; omega
      · omega
  · rw [Int.tdiv_eq_ediv_of_nonneg hx]
    constructor
    · intro ⟨g, _⟩; omega
    · intro _; rfl
section Cls1
variable {g : ZG} {l : Launch} {Kd : ZK} {Rd : ZR} {n s0 : Nat} {J P : Nat → Nat → Int}
theorem fd_rng {x y : Int} (h : 0 < y) : min x 0 ≤ x.tdiv y * y ∧ x.tdiv y * y ≤ max x 0 := by
  rcases (show x < 0 ∨ 0 ≤ x by omega) with g | g
  · have t : x.tdiv y = -((-x) / y) := by
      have := Int.neg_tdiv (a := -x) (b := y)
      rw [Int.neg_neg, Int.tdiv_eq_ediv_of_nonneg (show 0 ≤ -x by omega)] at this; exact this
    have e2 := Int.mul_ediv_add_emod (-x) y
    have s0 := Int.emod_nonneg (-x) (show y ≠ 0 by omega)
    have c2 : y * (-x / y) = -x / y * y := Int.mul_comm _ _
    have n2 : 0 ≤ -x / y * y := Int.mul_nonneg (Int.ediv_nonneg (by omega) (by omega)) (by omega)
    rw [t, Int.neg_mul]; omega
  · rw [Int.tdiv_eq_ediv_of_nonneg g]
    have e2 := Int.mul_ediv_add_emod x y
    have s0 := Int.emod_nonneg x (show y ≠ 0 by omega)
    have c2 : y * (x / y) = x / y * y := Int.mul_comm _ _
    have n2 : 0 ≤ x / y * y := Int.mul_nonneg (Int.ediv_nonneg g (by omega)) (by omega)
    omega
theorem fd_rL {x y : Int} (hx : rL x) (h : 0 < y) : rL (x.tdiv y) := by
  have e : (x.tdiv y).natAbs = x.natAbs / y.natAbs := by rw [Int.natAbs_tdiv]; rfl
  have := Nat.div_le_self x.natAbs y.natAbs
  rcases (show x < 0 ∨ 0 ≤ x by omega) with g | g
  · have : x.tdiv y ≤ 0 := by
      have t : x.tdiv y = -((-x) / y) := by
        have := Int.neg_tdiv (a := -x) (b := y)
        rw [Int.neg_neg, Int.tdiv_eq_ediv_of_nonneg (show 0 ≤ -x by omega)] at this; exact this
      have := Int.ediv_nonneg (a := -x) (b := y) (by omega) (by omega)
      omega
    constructor <;> omega
  · constructor <;> omega
theorem fm_rng {x y : Int} (h : 0 < y) : -y < x.tmod y ∧ x.tmod y < y := by
  have a := Int.tmod_lt_of_pos x h
  have b := Int.tmod_lt_of_pos (-x) h
  rw [Int.neg_tmod] at b
  omega
set_option maxHeartbeats 4000000 in
set_option maxRecDepth 100000 in
theorem cMJ9_abs_0f7a4 {v : Int} (hv : -2147483647 ≤ v ∧ v ≤ 2147483647) : ZC g l MJ9_abs_0f7a4 [.int (iZ v)] (KF Kd, zi J, zj P, RF Rd, n, s0) (fun rr hh => rr = some (.int (iZ ((v.natAbs : Int)))) ∧ hh = (KF Kd, zi J, zj P, RF Rd, n, s0)) := by
  refine ZC.ofF (by decide +kernel) (Nat.le_of_ble_eq_true rfl) ?_
  generalize hQ0 : (fun rr hh => rr = some (.int (iZ ((v.natAbs : Int)))) ∧ hh = (KF Kd, zi J, zj P, RF Rd, n, s0) : Option Value → ZH → Prop) = Q0
  show Z g l MJ9_abs_0f7a4 0 [some (.int (iZ v))] [] (KF Kd, zi J, zj P, RF Rd, n, s0) Q0
  refine z_iload_n dJ9_abs_0f7a4_0 rfl rfl ?_
  refine c_if_ge (tgt := 9) dJ9_abs_0f7a4_1 (by decide) (by omega) (fun h1 => ?_) (fun h1 => ?_)
  · refine z_iload_n dJ9_abs_0f7a4_9 rfl rfl ?_
    refine c_ireturn dJ9_abs_0f7a4_10 rfl ?_
    subst hQ0; refine ⟨?_, rfl⟩; congr 3; omega
  · refine z_iload_n dJ9_abs_0f7a4_4 rfl rfl ?_
    refine c_ineg dJ9_abs_0f7a4_5 ?_
    refine z_goto (tgt := 10) dJ9_abs_0f7a4_6 (by decide) ?_
    refine c_ireturn dJ9_abs_0f7a4_10 rfl ?_
    subst hQ0; refine ⟨?_, rfl⟩; congr 3; omega
theorem fm_cases {x y : Int} (h : 0 < y) : (x < 0 ∧ ¬ x.tmod y = 0 → x % y = x.tmod y + y) ∧ (¬ (x < 0 ∧ ¬ x.tmod y = 0) → x % y = x.tmod y) := by
  have f := fd_cases (x := x) h
  have e := Int.mul_ediv_add_emod x y
  have t := Int.tmod_def x y
  have c1 : y * (x / y) = x / y * y := Int.mul_comm _ _
  have c2 : y * x.tdiv y = x.tdiv y * y := Int.mul_comm _ _
  have c3 : (x.tdiv y - 1) * y = x.tdiv y * y - y := by rw [Int.sub_mul, Int.one_mul]
  constructor
  · intro ⟨a, b⟩
    rw [f.1 ⟨a, by omega⟩] at c1 e
    omega
  · intro a
    rw [f.2 (by omega)] at c1 e
    omega
set_option maxHeartbeats 4000000 in
set_option maxRecDepth 100000 in
theorem cMJ9_abs_067f4 {v : Int} (hv : -9223372036854775807 ≤ v ∧ v ≤ 9223372036854775807) : ZC g l MJ9_abs_067f4 [.long (lZ v)] (KF Kd, zi J, zj P, RF Rd, n, s0) (fun rr hh => rr = some (.long (lZ ((v.natAbs : Int)))) ∧ hh = (KF Kd, zi J, zj P, RF Rd, n, s0)) := by
  refine ZC.ofF (by decide +kernel) (Nat.le_of_ble_eq_true rfl) ?_
  generalize hQ0 : (fun rr hh => rr = some (.long (lZ ((v.natAbs : Int)))) ∧ hh = (KF Kd, zi J, zj P, RF Rd, n, s0) : Option Value → ZH → Prop) = Q0
  show Z g l MJ9_abs_067f4 0 [some (.long (lZ v)), none] [] (KF Kd, zi J, zj P, RF Rd, n, s0) Q0
  refine z_lload_n dJ9_abs_067f4_0 rfl rfl ?_
  refine c_lconst0 dJ9_abs_067f4_1 ?_
  refine c_lif_ge (tgt := 11) dJ9_abs_067f4_2 dJ9_abs_067f4_3 (by decide) (by omega) (by omega) (fun h2 => ?_) (fun h2 => ?_)
  · refine z_lload_n dJ9_abs_067f4_11 rfl rfl ?_
    refine z_lreturn dJ9_abs_067f4_12 rfl ?_
    subst hQ0; refine ⟨?_, rfl⟩; congr 3; omega
  · refine z_lload_n dJ9_abs_067f4_6 rfl rfl ?_
    refine c_lneg dJ9_abs_067f4_7 ?_
    refine z_goto (tgt := 12) dJ9_abs_067f4_8 (by decide) ?_
    refine z_lreturn dJ9_abs_067f4_12 rfl ?_
    subst hQ0; refine ⟨?_, rfl⟩; congr 3; omega
set_option maxHeartbeats 4000000 in
set_option maxRecDepth 100000 in
theorem cMJ9_max_7cf53 {a b : Int} (ha : rI a) (hb : rI b) : ZC g l MJ9_max_7cf53 [.int (iZ a), .int (iZ b)] (KF Kd, zi J, zj P, RF Rd, n, s0) (fun rr hh => rr = some (.int (iZ (max a b))) ∧ hh = (KF Kd, zi J, zj P, RF Rd, n, s0)) := by
  refine ZC.ofF (by decide +kernel) (Nat.le_of_ble_eq_true rfl) ?_
  generalize hQ0 : (fun rr hh => rr = some (.int (iZ (max a b))) ∧ hh = (KF Kd, zi J, zj P, RF Rd, n, s0) : Option Value → ZH → Prop) = Q0
  show Z g l MJ9_max_7cf53 0 [some (.int (iZ a)), some (.int (iZ b))] [] (KF Kd, zi J, zj P, RF Rd, n, s0) Q0
  refine z_iload_n dJ9_max_7cf53_0 rfl rfl ?_
  refine z_iload_n dJ9_max_7cf53_1 rfl rfl ?_
  refine c_icmp_lt (tgt := 9) dJ9_max_7cf53_2 (by decide) (by omega) (by omega) (fun h2 => ?_) (fun h2 => ?_)
  · refine z_iload_n dJ9_max_7cf53_9 rfl rfl ?_
    refine c_ireturn dJ9_max_7cf53_10 rfl ?_
    subst hQ0; refine ⟨?_, rfl⟩; congr 3; omega
  · refine z_iload_n dJ9_max_7cf53_5 rfl rfl ?_
    refine z_goto (tgt := 10) dJ9_max_7cf53_6 (by decide) ?_
    refine c_ireturn dJ9_max_7cf53_10 rfl ?_
    subst hQ0; refine ⟨?_, rfl⟩; congr 3; omega
set_option maxHeartbeats 4000000 in
set_option maxRecDepth 100000 in
theorem cMJ9_min_7cf53 {a b : Int} (ha : rI a) (hb : rI b) : ZC g l MJ9_min_7cf53 [.int (iZ a), .int (iZ b)] (KF Kd, zi J, zj P, RF Rd, n, s0) (fun rr hh => rr = some (.int (iZ (min a b))) ∧ hh = (KF Kd, zi J, zj P, RF Rd, n, s0)) := by
  refine ZC.ofF (by decide +kernel) (Nat.le_of_ble_eq_true rfl) ?_
  generalize hQ0 : (fun rr hh => rr = some (.int (iZ (min a b))) ∧ hh = (KF Kd, zi J, zj P, RF Rd, n, s0) : Option Value → ZH → Prop) = Q0
  show Z g l MJ9_min_7cf53 0 [some (.int (iZ a)), some (.int (iZ b))] [] (KF Kd, zi J, zj P, RF Rd, n, s0) Q0
  refine z_iload_n dJ9_min_7cf53_0 rfl rfl ?_
  refine z_iload_n dJ9_min_7cf53_1 rfl rfl ?_
  refine c_icmp_gt (tgt := 9) dJ9_min_7cf53_2 (by decide) (by omega) (by omega) (fun h2 => ?_) (fun h2 => ?_)
  · refine z_iload_n dJ9_min_7cf53_9 rfl rfl ?_
    refine c_ireturn dJ9_min_7cf53_10 rfl ?_
    subst hQ0; refine ⟨?_, rfl⟩; congr 3; omega
  · refine z_iload_n dJ9_min_7cf53_5 rfl rfl ?_
    refine z_goto (tgt := 10) dJ9_min_7cf53_6 (by decide) ?_
    refine c_ireturn dJ9_min_7cf53_10 rfl ?_
    subst hQ0; refine ⟨?_, rfl⟩; congr 3; omega
set_option maxHeartbeats 4000000 in
set_option maxRecDepth 100000 in
theorem cMJ9_floorDiv_f86c9 {x y : Int} (hx : rL x) (hy : rL y) (h0 : 0 < y) (hq : rL (x.tdiv y)) : ZC g l MJ9_floorDiv_f86c9 [.long (lZ x), .long (lZ y)] (KF Kd, zi J, zj P, RF Rd, n, s0) (fun rr hh => rr = some (.long (lZ (x / y))) ∧ hh = (KF Kd, zi J, zj P, RF Rd, n, s0)) := by
  refine ZC.ofF (by decide +kernel) (Nat.le_of_ble_eq_true rfl) ?_
  generalize hQ0 : (fun rr hh => rr = some (.long (lZ (x / y))) ∧ hh = (KF Kd, zi J, zj P, RF Rd, n, s0) : Option Value → ZH → Prop) = Q0
  show Z g l MJ9_floorDiv_f86c9 0 [some (.long (lZ x)), none, some (.long (lZ y)), none, none, none] [] (KF Kd, zi J, zj P, RF Rd, n, s0) Q0
  refine z_lload_n dJ9_floorDiv_f86c9_0 rfl rfl ?_
  refine z_lload_n dJ9_floorDiv_f86c9_1 rfl rfl ?_
  refine c_ldiv dJ9_floorDiv_f86c9_2 (by omega) (by omega) (by omega) (by omega) ?_
  refine z_lstore dJ9_floorDiv_f86c9_3 (by decide) rfl ?_
  refine z_lload_n dJ9_floorDiv_f86c9_5 rfl rfl ?_
  refine z_lload_n dJ9_floorDiv_f86c9_6 rfl rfl ?_
  refine z_lxor dJ9_floorDiv_f86c9_7 ?_
  obtain ⟨w, hw, hwr, hws⟩ := lx_sg hx hy h0
  rw [hw]
  refine c_lconst0 dJ9_floorDiv_f86c9_8 ?_
  refine c_lif_ge (tgt := 27) dJ9_floorDiv_f86c9_9 dJ9_floorDiv_f86c9_10 (by decide) (by omega) (by omega) (fun h9 => ?_) (fun h9 => ?_)
  · refine z_lload dJ9_floorDiv_f86c9_27 rfl ?_
    refine z_lreturn dJ9_floorDiv_f86c9_29 rfl ?_
    subst hQ0; refine ⟨?_, rfl⟩; rw [(fd_cases h0).2 (by omega)]
  · refine z_lload dJ9_floorDiv_f86c9_13 rfl ?_
    refine z_lload_n dJ9_floorDiv_f86c9_15 rfl rfl ?_
    refine c_lmul dJ9_floorDiv_f86c9_16 ?_
    refine z_lload_n dJ9_floorDiv_f86c9_17 rfl rfl ?_
    refine c_lif_eq (tgt := 27) dJ9_floorDiv_f86c9_18 dJ9_floorDiv_f86c9_19 (by decide) (by have := fd_rng (x := x) h0; omega) (by omega) (fun h18 => ?_) (fun h18 => ?_)
    · refine z_lload dJ9_floorDiv_f86c9_27 rfl ?_
      refine z_lreturn dJ9_floorDiv_f86c9_29 rfl ?_
      subst hQ0; refine ⟨?_, rfl⟩; rw [(fd_cases h0).2 (by omega)]
    · refine z_lload dJ9_floorDiv_f86c9_22 rfl ?_
      refine c_lconst1 dJ9_floorDiv_f86c9_24 ?_
      refine c_lsub dJ9_floorDiv_f86c9_25 ?_
      refine z_lreturn dJ9_floorDiv_f86c9_26 rfl ?_
      subst hQ0; refine ⟨?_, rfl⟩; rw [(fd_cases h0).1 ⟨by omega, by omega⟩]
set_option maxHeartbeats 4000000 in
set_option maxRecDepth 100000 in
theorem cMJ9_floorMod_7cf53 {x y : Int} (hx : rI x) (hy : rI y) (h0 : 0 < y) : ZC g l MJ9_floorMod_7cf53 [.int (iZ x), .int (iZ y)] (KF Kd, zi J, zj P, RF Rd, n, s0) (fun rr hh => rr = some (.int (iZ (x % y))) ∧ hh = (KF Kd, zi J, zj P, RF Rd, n, s0)) := by
  refine ZC.ofF (by decide +kernel) (Nat.le_of_ble_eq_true rfl) ?_
  generalize hQ0 : (fun rr hh => rr = some (.int (iZ (x % y))) ∧ hh = (KF Kd, zi J, zj P, RF Rd, n, s0) : Option Value → ZH → Prop) = Q0
  show Z g l MJ9_floorMod_7cf53 0 [some (.int (iZ x)), some (.int (iZ y)), none] [] (KF Kd, zi J, zj P, RF Rd, n, s0) Q0
  refine z_iload_n dJ9_floorMod_7cf53_0 rfl rfl ?_
  refine z_iload_n dJ9_floorMod_7cf53_1 rfl rfl ?_
  refine c_irem dJ9_floorMod_7cf53_2 hx hy (by omega) (by omega) ?_
  refine z_istore_n dJ9_floorMod_7cf53_3 rfl (by decide) rfl ?_
  refine z_iload_n dJ9_floorMod_7cf53_4 rfl rfl ?_
  refine z_iload_n dJ9_floorMod_7cf53_5 rfl rfl ?_
  refine z_ixor dJ9_floorMod_7cf53_6 ?_
  obtain ⟨w, hw, hwr, hws⟩ := ix_sg hx hy h0
  rw [hw]
  refine c_if_ge (tgt := 18) dJ9_floorMod_7cf53_7 (by decide) (by omega) (fun h7 => ?_) (fun h7 => ?_)
  · refine z_iload_n dJ9_floorMod_7cf53_18 rfl rfl ?_
    refine c_ireturn dJ9_floorMod_7cf53_19 rfl ?_
    subst hQ0; refine ⟨?_, rfl⟩; rw [(fm_cases h0).2 (by omega)]
  · refine z_iload_n dJ9_floorMod_7cf53_10 rfl rfl ?_
    refine c_if_eq (tgt := 18) dJ9_floorMod_7cf53_11 (by decide) (by have := fm_rng (x := x) h0; omega) (fun h11 => ?_) (fun h11 => ?_)
    · refine z_iload_n dJ9_floorMod_7cf53_18 rfl rfl ?_
      refine c_ireturn dJ9_floorMod_7cf53_19 rfl ?_
      subst hQ0; refine ⟨?_, rfl⟩; rw [(fm_cases h0).2 (by omega)]
    · refine z_iload_n dJ9_floorMod_7cf53_14 rfl rfl ?_
      refine z_iload_n dJ9_floorMod_7cf53_15 rfl rfl ?_
      refine c_iadd dJ9_floorMod_7cf53_16 ?_
      refine c_ireturn dJ9_floorMod_7cf53_17 rfl ?_
      subst hQ0; refine ⟨?_, rfl⟩; rw [(fm_cases h0).1 ⟨by omega, by omega⟩]
set_option maxHeartbeats 4000000 in
set_option maxRecDepth 100000 in
theorem cMJ7_fill_53178 {a len : Nat} {v : Int} (hK : KF Kd a = (1, len)) (hl : (len : Int) ≤ 2147483647) : ZC g l MJ7_fill_53178 [.ref a, .int (iZ v)] (KF Kd, zi J, zj P, RF Rd, n, s0) (fun rr hh => rr = none ∧ hh = (KF Kd, zi (fun b q => if b = a ∧ q < len then v else J b q), zj P, RF Rd, n, s0)) := by
  refine ZC.of (by decide) (Nat.le_of_ble_eq_true rfl) ?_
  generalize hQ0 : (fun rr hh => rr = none ∧ hh = (KF Kd, zi (fun b q => if b = a ∧ q < len then v else J b q), zj P, RF Rd, n, s0) : Option Value → ZH → Prop) = Q0
  show Z g l MJ7_fill_53178 0 [some (.ref a), some (.int (iZ v)), none, none] [] (KF Kd, zi J, zj P, RF Rd, n, s0) Q0
  refine c_iconst dJ7_fill_53178_0 ?_
  refine z_istore_n dJ7_fill_53178_1 rfl (by decide) rfl ?_
  refine z_aload_n dJ7_fill_53178_2 rfl rfl ?_
  refine c_alen dJ7_fill_53178_3 hK (by decide) ?_
  refine z_istore_n dJ7_fill_53178_4 rfl (by decide) rfl ?_
  have L5 : ∀ (m5 : Nat), ∀ (k : Int) (J1 : Nat → Nat → Int), (len - k).toNat = m5 → (0 ≤ k ∧ k ≤ len) → (J1 = (fun b q => if b = a ∧ q < k.toNat then v else J b q)) → Z g l MJ7_fill_53178 5 [some (.ref a), some (.int (iZ v)), some (.int (iZ k)), some (.int (iZ len))] [] (KF Kd, zi J1, zj P, RF Rd, n, s0) Q0 := by
    intro m5
    induction m5 using Nat.strongRecOn with
    | ind m5 ih5 =>
      intro k J1 hm5 hk hJ
      refine z_iload_n dJ7_fill_53178_5 rfl rfl ?_
      refine z_iload_n dJ7_fill_53178_6 rfl rfl ?_
      refine c_icmp_ge (tgt := 20) dJ7_fill_53178_7 (by decide) (by omega) (by omega) (fun h7 => ?_) (fun h7 => ?_)
      · refine z_return dJ7_fill_53178_20 rfl ?_
        subst hQ0; refine ⟨rfl, ?_⟩; subst hJ; rw [show k.toNat = len by omega]
      · refine z_aload_n dJ7_fill_53178_10 rfl rfl ?_
        refine z_iload_n dJ7_fill_53178_11 rfl rfl ?_
        refine z_iload_n dJ7_fill_53178_12 rfl rfl ?_
        refine c_iast dJ7_fill_53178_13 hK (by omega) hl ?_
        refine c_iinc dJ7_fill_53178_14 rfl (by decide) rfl ?_
        refine z_goto (tgt := 5) dJ7_fill_53178_17 (by decide) ?_
        exact Z.fg2 (ih5 _ (by omega) _ _ rfl (by omega) (by subst hJ; funext b q; simp only [zup]; by_cases e : b = a; (rw [if_pos e]; by_cases e2 : q = k.toNat; (rw [if_pos e2, if_pos ⟨e, by omega⟩]); (rw [if_neg e2]; exact ifc (by omega))); (rw [if_neg e]; exact ifc (by omega)))) (zs1 rfl (zs1 rfl (zs1 rfl (zs1 rfl zs0))))
  exact Z.fg2 (L5 _ _ _ rfl (by omega) (by funext b q; rw [if_neg (by have : (0 : Int).toNat = 0 := rfl; omega)])) (zs1 rfl (zs1 rfl (zs1 rfl (zs1 rfl zs0))))
set_option maxHeartbeats 4000000 in
set_option maxRecDepth 100000 in
theorem cMJ7_fill_031fb {a len : Nat} {v : Int} (hK : KF Kd a = (3, len)) (hl : (len : Int) ≤ 2147483647) : ZC g l MJ7_fill_031fb [.ref a, .int (iZ v)] (KF Kd, zi J, zj P, RF Rd, n, s0) (fun rr hh => rr = none ∧ hh = (KF Kd, zi (fun b q => if b = a ∧ q < len then v.bmod 256 else J b q), zj P, RF Rd, n, s0)) := by
  refine ZC.of (by decide) (Nat.le_of_ble_eq_true rfl) ?_
  generalize hQ0 : (fun rr hh => rr = none ∧ hh = (KF Kd, zi (fun b q => if b = a ∧ q < len then v.bmod 256 else J b q), zj P, RF Rd, n, s0) : Option Value → ZH → Prop) = Q0
  show Z g l MJ7_fill_031fb 0 [some (.ref a), some (.int (iZ v)), none, none] [] (KF Kd, zi J, zj P, RF Rd, n, s0) Q0
  refine c_iconst dJ7_fill_031fb_0 ?_
  refine z_istore_n dJ7_fill_031fb_1 rfl (by decide) rfl ?_
  refine z_aload_n dJ7_fill_031fb_2 rfl rfl ?_
  refine c_alen dJ7_fill_031fb_3 hK (by decide) ?_
  refine z_istore_n dJ7_fill_031fb_4 rfl (by decide) rfl ?_
  have L5 : ∀ (m5 : Nat), ∀ (k : Int) (J1 : Nat → Nat → Int), (len - k).toNat = m5 → (0 ≤ k ∧ k ≤ len) → (J1 = (fun b q => if b = a ∧ q < k.toNat then v.bmod 256 else J b q)) → Z g l MJ7_fill_031fb 5 [some (.ref a), some (.int (iZ v)), some (.int (iZ k)), some (.int (iZ len))] [] (KF Kd, zi J1, zj P, RF Rd, n, s0) Q0 := by
    intro m5
    induction m5 using Nat.strongRecOn with
    | ind m5 ih5 =>
      intro k J1 hm5 hk hJ
      refine z_iload_n dJ7_fill_031fb_5 rfl rfl ?_
      refine z_iload_n dJ7_fill_031fb_6 rfl rfl ?_
      refine c_icmp_ge (tgt := 20) dJ7_fill_031fb_7 (by decide) (by omega) (by omega) (fun h7 => ?_) (fun h7 => ?_)
      · refine z_return dJ7_fill_031fb_20 rfl ?_
        subst hQ0; refine ⟨rfl, ?_⟩; subst hJ; rw [show k.toNat = len by omega]
      · refine z_aload_n dJ7_fill_031fb_10 rfl rfl ?_
        refine z_iload_n dJ7_fill_031fb_11 rfl rfl ?_
        refine z_iload_n dJ7_fill_031fb_12 rfl rfl ?_
        refine c_bast dJ7_fill_031fb_13 hK (by omega) hl ?_
        refine c_iinc dJ7_fill_031fb_14 rfl (by decide) rfl ?_
        refine z_goto (tgt := 5) dJ7_fill_031fb_17 (by decide) ?_
        exact Z.fg2 (ih5 _ (by omega) _ _ rfl (by omega) (by subst hJ; funext b q; simp only [zup]; by_cases e : b = a; (rw [if_pos e]; by_cases e2 : q = k.toNat; (rw [if_pos e2, if_pos ⟨e, by omega⟩]); (rw [if_neg e2]; exact ifc (by omega))); (rw [if_neg e]; exact ifc (by omega)))) (zs1 rfl (zs1 rfl (zs1 rfl (zs1 rfl zs0))))
  exact Z.fg2 (L5 _ _ _ rfl (by omega) (by funext b q; rw [if_neg (by have : (0 : Int).toNat = 0 := rfl; omega)])) (zs1 rfl (zs1 rfl (zs1 rfl (zs1 rfl zs0))))
set_option maxHeartbeats 4000000 in
set_option maxRecDepth 100000 in
theorem cMX8_isSlot {s : Int} (hs : rI s) : ZC g l MX8_isSlot [.int (iZ s)] (KF Kd, zi J, zj P, RF Rd, n, s0) (fun rr hh => ∃ b : Int, hh = (KF Kd, zi J, zj P, RF Rd, n, s0) ∧ rr = some (.int (iZ b)) ∧ (b = 1 ∧ (0 ≤ s ∧ s < 6) ∨ b = 0 ∧ ¬ (0 ≤ s ∧ s < 6))) := by
  refine ZC.of (by decide) (Nat.le_of_ble_eq_true rfl) ?_
  generalize hQ0 : (fun rr hh => ∃ b : Int, hh = (KF Kd, zi J, zj P, RF Rd, n, s0) ∧ rr = some (.int (iZ b)) ∧ (b = 1 ∧ (0 ≤ s ∧ s < 6) ∨ b = 0 ∧ ¬ (0 ≤ s ∧ s < 6)) : Option Value → ZH → Prop) = Q0
  show Z g l MX8_isSlot 0 [some (.int (iZ s))] [] (KF Kd, zi J, zj P, RF Rd, n, s0) Q0
  refine z_iload_n dX8_isSlot_0 rfl rfl ?_
  refine c_if_lt (tgt := 14) dX8_isSlot_1 (by decide) (by omega) (fun h1 => ?_) (fun h1 => ?_)
  · refine c_iconst dX8_isSlot_14 ?_
    refine c_zreturn dX8_isSlot_15 rfl (by omega) ?_
    subst hQ0; refine ⟨_, rfl, rfl, ?_⟩; omega
  · refine z_iload_n dX8_isSlot_4 rfl rfl ?_
    refine c_bipush dX8_isSlot_5 (by decide) ?_
    refine c_icmp_ge (tgt := 14) dX8_isSlot_7 (by decide) (by omega) (by omega) (fun h7 => ?_) (fun h7 => ?_)
    · refine c_iconst dX8_isSlot_14 ?_
      refine c_zreturn dX8_isSlot_15 rfl (by omega) ?_
      subst hQ0; refine ⟨_, rfl, rfl, ?_⟩; omega
    · refine c_iconst dX8_isSlot_10 ?_
      refine z_goto (tgt := 15) dX8_isSlot_11 (by decide) ?_
      refine c_zreturn dX8_isSlot_15 rfl (by omega) ?_
      subst hQ0; refine ⟨_, rfl, rfl, ?_⟩; omega
set_option maxHeartbeats 4000000 in
set_option maxRecDepth 100000 in
theorem cMX8_isSheet {s : Int} (hs : rI s) : ZC g l MX8_isSheet [.int (iZ s)] (KF Kd, zi J, zj P, RF Rd, n, s0) (fun rr hh => ∃ b : Int, hh = (KF Kd, zi J, zj P, RF Rd, n, s0) ∧ rr = some (.int (iZ b)) ∧ (b = 1 ∧ (0 ≤ s ∧ s < 4) ∨ b = 0 ∧ ¬ (0 ≤ s ∧ s < 4))) := by
  refine ZC.of (by decide) (Nat.le_of_ble_eq_true rfl) ?_
  generalize hQ0 : (fun rr hh => ∃ b : Int, hh = (KF Kd, zi J, zj P, RF Rd, n, s0) ∧ rr = some (.int (iZ b)) ∧ (b = 1 ∧ (0 ≤ s ∧ s < 4) ∨ b = 0 ∧ ¬ (0 ≤ s ∧ s < 4)) : Option Value → ZH → Prop) = Q0
  show Z g l MX8_isSheet 0 [some (.int (iZ s))] [] (KF Kd, zi J, zj P, RF Rd, n, s0) Q0
  refine z_iload_n dX8_isSheet_0 rfl rfl ?_
  refine c_if_lt (tgt := 13) dX8_isSheet_1 (by decide) (by omega) (fun h1 => ?_) (fun h1 => ?_)
  · refine c_iconst dX8_isSheet_13 ?_
    refine c_zreturn dX8_isSheet_14 rfl (by omega) ?_
    subst hQ0; refine ⟨_, rfl, rfl, ?_⟩; omega
  · refine z_iload_n dX8_isSheet_4 rfl rfl ?_
    refine c_iconst dX8_isSheet_5 ?_
    refine c_icmp_ge (tgt := 13) dX8_isSheet_6 (by decide) (by omega) (by omega) (fun h6 => ?_) (fun h6 => ?_)
    · refine c_iconst dX8_isSheet_13 ?_
      refine c_zreturn dX8_isSheet_14 rfl (by omega) ?_
      subst hQ0; refine ⟨_, rfl, rfl, ?_⟩; omega
    · refine c_iconst dX8_isSheet_9 ?_
      refine z_goto (tgt := 14) dX8_isSheet_10 (by decide) ?_
      refine c_zreturn dX8_isSheet_14 rfl (by omega) ?_
      subst hQ0; refine ⟨_, rfl, rfl, ?_⟩; omega
set_option maxHeartbeats 4000000 in
set_option maxRecDepth 100000 in
theorem cMX8_isRule {s : Int} (hs : rI s) : ZC g l MX8_isRule [.int (iZ s)] (KF Kd, zi J, zj P, RF Rd, n, s0) (fun rr hh => ∃ b : Int, hh = (KF Kd, zi J, zj P, RF Rd, n, s0) ∧ rr = some (.int (iZ b)) ∧ (b = 1 ∧ (0 ≤ s ∧ s < 3) ∨ b = 0 ∧ ¬ (0 ≤ s ∧ s < 3))) := by
  refine ZC.of (by decide) (Nat.le_of_ble_eq_true rfl) ?_
  generalize hQ0 : (fun rr hh => ∃ b : Int, hh = (KF Kd, zi J, zj P, RF Rd, n, s0) ∧ rr = some (.int (iZ b)) ∧ (b = 1 ∧ (0 ≤ s ∧ s < 3) ∨ b = 0 ∧ ¬ (0 ≤ s ∧ s < 3)) : Option Value → ZH → Prop) = Q0
  show Z g l MX8_isRule 0 [some (.int (iZ s))] [] (KF Kd, zi J, zj P, RF Rd, n, s0) Q0
  refine z_iload_n dX8_isRule_0 rfl rfl ?_
  refine c_if_lt (tgt := 13) dX8_isRule_1 (by decide) (by omega) (fun h1 => ?_) (fun h1 => ?_)
  · refine c_iconst dX8_isRule_13 ?_
    refine c_zreturn dX8_isRule_14 rfl (by omega) ?_
    subst hQ0; refine ⟨_, rfl, rfl, ?_⟩; omega
  · refine z_iload_n dX8_isRule_4 rfl rfl ?_
    refine c_iconst dX8_isRule_5 ?_
    refine c_icmp_gt (tgt := 13) dX8_isRule_6 (by decide) (by omega) (by omega) (fun h6 => ?_) (fun h6 => ?_)
    · refine c_iconst dX8_isRule_13 ?_
      refine c_zreturn dX8_isRule_14 rfl (by omega) ?_
      subst hQ0; refine ⟨_, rfl, rfl, ?_⟩; omega
    · refine c_iconst dX8_isRule_9 ?_
      refine z_goto (tgt := 14) dX8_isRule_10 (by decide) ?_
      refine c_zreturn dX8_isRule_14 rfl (by omega) ?_
      subst hQ0; refine ⟨_, rfl, rfl, ?_⟩; omega
set_option maxHeartbeats 4000000 in
set_option maxRecDepth 100000 in
theorem cMX8_isLetter {r : Nat} {i : Int} (hi : rI i) (hK : (KF Kd r).1 = 13) (hL : 0 ≤ J r 0 ∧ J r 0 ≤ 4) : ZC g l MX8_isLetter [.ref r, .int (iZ i)] (KF Kd, zi J, zj P, RF Rd, n, s0) (fun rr hh => ∃ b : Int, hh = (KF Kd, zi J, zj P, RF Rd, n, s0) ∧ rr = some (.int (iZ b)) ∧ (b = 1 ∧ (0 ≤ i ∧ i < J r 0) ∨ b = 0 ∧ ¬ (0 ≤ i ∧ i < J r 0))) := by
  refine ZC.of (by decide) (Nat.le_of_ble_eq_true rfl) ?_
  generalize hQ0 : (fun rr hh => ∃ b : Int, hh = (KF Kd, zi J, zj P, RF Rd, n, s0) ∧ rr = some (.int (iZ b)) ∧ (b = 1 ∧ (0 ≤ i ∧ i < J r 0) ∨ b = 0 ∧ ¬ (0 ≤ i ∧ i < J r 0)) : Option Value → ZH → Prop) = Q0
  show Z g l MX8_isLetter 0 [some (.ref r), some (.int (iZ i))] [] (KF Kd, zi J, zj P, RF Rd, n, s0) Q0
  refine z_iload_n dX8_isLetter_0 rfl rfl ?_
  refine c_if_lt (tgt := 16) dX8_isLetter_1 (by decide) (by omega) (fun h1 => ?_) (fun h1 => ?_)
  · refine c_iconst dX8_isLetter_16 ?_
    refine c_zreturn dX8_isLetter_17 rfl (by omega) ?_
    subst hQ0; refine ⟨_, rfl, rfl, ?_⟩; omega
  · refine z_iload_n dX8_isLetter_4 rfl rfl ?_
    refine z_aload_n dX8_isLetter_5 rfl rfl ?_
    refine c_getI (ci := 3) (kf := 0) dX8_isLetter_6 hK (by decide) (by decide) rfl w_280 ?_
    refine c_icmp_ge (tgt := 16) dX8_isLetter_9 (by decide) (by omega) (by omega) (fun h9 => ?_) (fun h9 => ?_)
    · refine c_iconst dX8_isLetter_16 ?_
      refine c_zreturn dX8_isLetter_17 rfl (by omega) ?_
      subst hQ0; refine ⟨_, rfl, rfl, ?_⟩; omega
    · refine c_iconst dX8_isLetter_12 ?_
      refine z_goto (tgt := 17) dX8_isLetter_13 (by decide) ?_
      refine c_zreturn dX8_isLetter_17 rfl (by omega) ?_
      subst hQ0; refine ⟨_, rfl, rfl, ?_⟩; omega
set_option maxHeartbeats 4000000 in
set_option maxRecDepth 100000 in
theorem cMX8_triangle {k : Int} (hk : 1 ≤ k ∧ k ≤ 4) : ZC g l MX8_triangle [.int (iZ k)] (KF Kd, zi J, zj P, RF Rd, n, s0) (fun rr hh => rr = some (.int (iZ (tr k))) ∧ hh = (KF Kd, zi J, zj P, RF Rd, n, s0)) := by
  refine ZC.of (by decide) (Nat.le_of_ble_eq_true rfl) ?_
  generalize hQ0 : (fun rr hh => rr = some (.int (iZ (tr k))) ∧ hh = (KF Kd, zi J, zj P, RF Rd, n, s0) : Option Value → ZH → Prop) = Q0
  show Z g l MX8_triangle 0 [some (.int (iZ k))] [] (KF Kd, zi J, zj P, RF Rd, n, s0) Q0
  refine z_iload_n dX8_triangle_0 rfl rfl ?_
  refine z_iload_n dX8_triangle_1 rfl rfl ?_
  refine c_iconst dX8_triangle_2 ?_
  refine c_iadd dX8_triangle_3 ?_
  refine c_imul dX8_triangle_4 ?_
  refine c_iconst dX8_triangle_5 ?_
  refine c_idiv dX8_triangle_6 (tr_div hk).2 (by omega) (by omega) (by omega) ?_
  refine c_ireturn dX8_triangle_7 rfl ?_
  subst hQ0; rw [(tr_div hk).1]; exact ⟨rfl, rfl⟩
theorem rootX {v : Int} (h0 : 0 ≤ v) (h1 : v < 4611686018427387904) : ∃ s : Int, 0 ≤ s ∧ s * s ≤ v ∧ v < (s + 1) * (s + 1) ∧ s < 2147483648 := by
  have a := rootB_spec 31 0 v (by omega) (by omega) (by simp; omega)
  have b := rootB_bd 31 0 v (by omega)
  refine ⟨rootB 31 0 v, a.1, a.2.1, a.2.2, ?_⟩
  have := b.2; simp at this; exact this
theorem sq_le {a b : Int} (ha : 0 ≤ a) (hb : 0 ≤ b) (h : a * a < (b + 1) * (b + 1)) : a ≤ b := by
  by_cases g : a ≤ b
  · exact g
  · have := Int.mul_le_mul (show b + 1 ≤ a by omega) (show b + 1 ≤ a by omega) (by omega) (by omega); omega
/-- a step of Newton's -/
theorem newton {v s r q : Int} (hs : 0 ≤ s) (h1 : s * s ≤ v) (h2 : v < (s + 1) * (s + 1)) (hr : 1 ≤ r) (hrs : s ≤ r) (hq : q = v.tdiv r) : 0 ≤ q ∧ (r ≤ (r + q).tdiv 2 → r = s) ∧ (¬ r ≤ (r + q).tdiv 2 → s ≤ (r + q).tdiv 2 ∧ s < r ∧ 2 * ((r + q).tdiv 2 - s) ≤ r - s) ∧ q ≤ v := by
  have hv : 0 ≤ v := Int.le_trans (Int.mul_nonneg hs hs) h1
  rw [Int.tdiv_eq_ediv_of_nonneg hv] at hq
  have q0 : 0 ≤ q := by rw [hq]; exact Int.ediv_nonneg hv (by omega)
  have e := Int.mul_ediv_add_emod v r
  have m0 := Int.emod_nonneg v (show r ≠ 0 by omega)
  have m1 := Int.emod_lt_of_pos v (show 0 < r by omega)
  rw [← hq] at e
  have qv : q ≤ v := by have := Int.mul_le_mul_of_nonneg_right hr q0; rw [Int.one_mul] at this; omega
  rw [Int.tdiv_eq_ediv_of_nonneg (show 0 ≤ r + q by omega)]
  refine ⟨q0, fun h => ?_, fun h => ?_, qv⟩
  · have h3 : r ≤ q := by omega
    have h4 : r * r ≤ r * q := Int.mul_le_mul_of_nonneg_left h3 (by omega)
    have h5 : r ≤ s := sq_le (by omega) hs (by omega)
    omega
  · have h6 : s < r := by
      by_cases g : s < r
      · exact g
      · have : r = s := by omega
        subst this
        have : r ≤ q := by
          by_cases g2 : r ≤ q
          · exact g2
          · have := Int.mul_le_mul_of_nonneg_left (show q ≤ r - 1 by omega) (show 0 ≤ r by omega)
            rw [Int.mul_sub, Int.mul_one] at this; omega
        omega
    have h7 : q ≤ s := by
      by_cases g : q ≤ s
      · exact g
      · have a1 := Int.mul_le_mul (show s + 1 ≤ r by omega) (show s + 1 ≤ q by omega) (by omega) (by omega); omega
    refine ⟨?_, h6, by omega⟩
    by_cases g : s ≤ (r + q) / 2
    · exact g
    · have h8 : r + q + 1 ≤ 2 * s := by omega
      have h9 : q + 1 ≤ 2 * s - r := by omega
      have h10 : r * (q + 1) ≤ r * (2 * s - r) := Int.mul_le_mul_of_nonneg_left h9 (by omega)
      have h11 : r * (2 * s - r) = s * s - (r - s) * (r - s) := by grind
      have h12 := sq_nn (r - s)
      rw [Int.mul_add, Int.mul_one] at h10
      omega
set_option maxHeartbeats 4000000 in
set_option maxRecDepth 100000 in
theorem cMX8_squareRoot {v : Int} (hv : -9223372036854775808 ≤ v ∧ v < 4611686018427387904) : ZC g l MX8_squareRoot [.long (lZ v)] (KF Kd, zi J, zj P, RF Rd, n, s0) (fun rr hh => hh = (KF Kd, zi J, zj P, RF Rd, n, s0) ∧ ∃ s : Int, rr = some (.long (lZ s)) ∧ (v ≤ 0 → s = 0) ∧ (0 ≤ v → 0 ≤ s ∧ s * s ≤ v ∧ v < (s + 1) * (s + 1)) ∧ 0 ≤ s ∧ s < 2147483648) := by
  refine ZC.of (by decide) (Nat.le_of_ble_eq_true rfl) ?_
  generalize hQ0 : (fun rr hh => hh = (KF Kd, zi J, zj P, RF Rd, n, s0) ∧ ∃ s : Int, rr = some (.long (lZ s)) ∧ (v ≤ 0 → s = 0) ∧ (0 ≤ v → 0 ≤ s ∧ s * s ≤ v ∧ v < (s + 1) * (s + 1)) ∧ 0 ≤ s ∧ s < 2147483648 : Option Value → ZH → Prop) = Q0
  show Z g l MX8_squareRoot 0 [some (.long (lZ v)), none, none, none, none, none, none] [] (KF Kd, zi J, zj P, RF Rd, n, s0) Q0
  refine z_lload_n dX8_squareRoot_0 rfl rfl ?_
  refine c_lconst0 dX8_squareRoot_1 ?_
  refine c_lif_gt (tgt := 8) dX8_squareRoot_2 dX8_squareRoot_3 (by decide) (by omega) (by omega) (fun h2 => ?_) (fun h2 => ?_)
  · obtain ⟨s, hs0, hs1, hs2, hs3⟩ := rootX (v := v) (by omega) (by omega)
    refine c_lconst1 dX8_squareRoot_8 ?_
    refine z_lstore_n dX8_squareRoot_9 rfl (by decide) rfl ?_
    refine c_iconst dX8_squareRoot_10 ?_
    refine z_istore dX8_squareRoot_11 (by decide) rfl ?_
    have L13 : ∀ (m13 : Nat), ∀ (k r : Int), (31 - k).toNat = m13 → (0 ≤ k ∧ k ≤ 31) → (1 ≤ r ∧ r ≤ 2147483648 ∧ r = ((2 ^ k.toNat : Nat) : Int)) → Z g l MX8_squareRoot 13 [some (.long (lZ v)), none, some (.long (lZ r)), none, some (.int (iZ k)), none, none] [] (KF Kd, zi J, zj P, RF Rd, n, s0) Q0 := by
      intro m13
      induction m13 using Nat.strongRecOn with
      | ind m13 ih13 =>
        intro k r hm13 hk hr
        have L40 : ∀ (k r : Int), (1 ≤ r ∧ r ≤ 2147483648) → (v ≤ r * r ∨ s ≤ r) → Z g l MX8_squareRoot 40 [some (.long (lZ v)), none, some (.long (lZ r)), none, some (.int (iZ k)), none, none] [] (KF Kd, zi J, zj P, RF Rd, n, s0) Q0 := by
          intro k r hr hp
          have hrs : s ≤ r := by
            rcases hp with hp | hp
            · exact sq_le hs0 (by omega) (by have := Int.mul_lt_mul_of_pos_right (show r < r + 1 by omega) (show 0 < r by omega); have h2 := Int.mul_le_mul_of_nonneg_left (show r ≤ r + 1 by omega) (show 0 ≤ r + 1 by omega); omega)
            · omega
          refine c_iconst dX8_squareRoot_40 ?_
          refine z_istore dX8_squareRoot_41 (by decide) rfl ?_
          have L43 : ∀ (m43 : Nat), ∀ (k r2 : Int), (64 - k).toNat = m43 → (0 ≤ k ∧ k ≤ 33) → (1 ≤ r2 ∧ s ≤ r2 ∧ r2 ≤ 2147483648) → ((r2 - s) * ((2 ^ k.toNat : Nat) : Int) ≤ 2147483648) → Z g l MX8_squareRoot 43 [some (.long (lZ v)), none, some (.long (lZ r2)), none, some (.int (iZ k)), none, none] [] (KF Kd, zi J, zj P, RF Rd, n, s0) Q0 := by
            intro m43
            induction m43 using Nat.strongRecOn with
            | ind m43 ih43 =>
              intro k r2 hm43 hk hr2 hh
              refine z_iload dX8_squareRoot_43 rfl ?_
              refine c_bipush dX8_squareRoot_45 (by decide) ?_
              refine c_icmp_ge (tgt := 85) dX8_squareRoot_47 (by decide) (by omega) (by omega) (fun h47 => ?_) (fun h47 => ?_)
              · exact absurd h47 (by omega)
              · refine z_lload_n dX8_squareRoot_50 rfl rfl ?_
                refine c_lconst0 dX8_squareRoot_51 ?_
                refine c_lif_le (tgt := 85) dX8_squareRoot_52 dX8_squareRoot_53 (by decide) (by omega) (by omega) (fun h52 => ?_) (fun h52 => ?_)
                · exact absurd h52 (by omega)
                · refine z_lload_n dX8_squareRoot_56 rfl rfl ?_
                  refine z_lload_n dX8_squareRoot_57 rfl rfl ?_
                  refine z_lload_n dX8_squareRoot_58 rfl rfl ?_
                  have hnw := newton (v := v) (r := r2) hs0 hs1 hs2 (by omega) (by omega) rfl
                  have hd2 : (0 : Int) ≤ (r2 + v.tdiv r2).tdiv 2 ∧ (r2 + v.tdiv r2).tdiv 2 ≤ r2 + v.tdiv r2 := ⟨tdiv_nn (by omega) (by omega), by rw [Int.tdiv_eq_ediv_of_nonneg (by omega)]; omega⟩
                  refine c_ldiv dX8_squareRoot_59 (by omega) (by omega) (by omega) (by omega) ?_
                  refine c_ladd dX8_squareRoot_60 ?_
                  refine c_ldc2 (z := 2) dX8_squareRoot_61 w_260 (by decide) ?_
                  refine c_ldiv dX8_squareRoot_64 (by omega) (by omega) (by omega) (by omega) ?_
                  refine z_lstore dX8_squareRoot_65 (by decide) rfl ?_
                  refine z_lload dX8_squareRoot_67 rfl ?_
                  refine z_lload_n dX8_squareRoot_69 rfl rfl ?_
                  refine c_lif_lt (tgt := 76) dX8_squareRoot_70 dX8_squareRoot_71 (by decide) (by omega) (by omega) (fun h70 => ?_) (fun h70 => ?_)
                  · have hn3 := hnw.2.2.1 (by omega)
                    have hs9 : 1 ≤ s := by
                      by_cases g : 1 ≤ s
                      · exact g
                      · exfalso; have e0 : s = 0 := by omega
                        subst e0; omega
                    have hk9 : k < 33 := by
                      by_cases g : k < 33
                      · exact g
                      · exfalso; have e : k = 33 := by omega
                        subst e; simp only [Int.reduceToNat, Nat.reducePow] at hh; omega
                    have hh2 : ((r2 + v.tdiv r2).tdiv 2 - s) * ((2 ^ (k + 1).toNat : Nat) : Int) ≤ 2147483648 := by
                      rw [show (k + 1).toNat = k.toNat + 1 by omega, Nat.pow_succ, Int.natCast_mul]
                      have h4 : (0 : Int) ≤ ((2 ^ k.toNat : Nat) : Int) := Int.natCast_nonneg _
                      have h5 := Int.mul_le_mul_of_nonneg_right hn3.2.2 h4
                      generalize ((2 ^ k.toNat : Nat) : Int) = w at *
                      rw [show ((r2 + v.tdiv r2).tdiv 2 - s) * (w * ((2 : Nat) : Int)) = 2 * ((r2 + v.tdiv r2).tdiv 2 - s) * w by generalize (r2 + v.tdiv r2).tdiv 2 = u; rw [show ((2 : Nat) : Int) = 2 from rfl]; grind]; omega
                    refine z_lload dX8_squareRoot_76 rfl ?_
                    refine z_lstore_n dX8_squareRoot_78 rfl (by decide) rfl ?_
                    refine c_iinc dX8_squareRoot_79 rfl (by decide) rfl ?_
                    refine z_goto (tgt := 43) dX8_squareRoot_82 (by decide) ?_
                    exact Z.fg2 (ih43 _ (by omega) _ _ rfl (by omega) (by omega) hh2) (zs1 rfl (zsn (zs1 rfl (zsn (zs1 rfl (zsn (zsn zs0)))))))
                  · refine z_lload_n dX8_squareRoot_74 rfl rfl ?_
                    refine z_lreturn dX8_squareRoot_75 rfl ?_
                    subst hQ0; have e := hnw.2.1 (by omega)
                    subst e; exact ⟨rfl, _, rfl, fun h => by omega, fun _ => ⟨hs0, hs1, hs2⟩, hs0, hs3⟩
          exact Z.fg2 (L43 _ _ _ rfl (by omega) (by omega) (by simp; omega)) (zs1 rfl (zsn (zs1 rfl (zsn (zs1 rfl (zsn (zsn zs0)))))))
        refine z_iload dX8_squareRoot_13 rfl ?_
        refine c_bipush dX8_squareRoot_15 (by decide) ?_
        refine c_icmp_ge (tgt := 40) dX8_squareRoot_17 (by decide) (by omega) (by omega) (fun h17 => ?_) (fun h17 => ?_)
        · have hp9 : v ≤ r * r ∨ s ≤ r := by
            right
            have e : k = 31 := by omega
            subst e
            have h := hr.2.2
            simp only [Int.reduceToNat, Nat.reducePow] at h
            omega
          exact Z.fg2 (L40 _ _ (by omega) hp9) (zs1 rfl (zsn (zs1 rfl (zsn (zs1 rfl (zsn (zsn zs0)))))))
        · refine z_lload_n dX8_squareRoot_20 rfl rfl ?_
          refine z_lload_n dX8_squareRoot_21 rfl rfl ?_
          have m22 := mul_bd (a := r) (b := r) (A := 2147483648) (B := 2147483648) (by omega) (by omega) (by omega) (by omega)
          refine c_lmul dX8_squareRoot_22 ?_
          refine z_lload_n dX8_squareRoot_23 rfl rfl ?_
          refine c_lif_ge (tgt := 40) dX8_squareRoot_24 dX8_squareRoot_25 (by decide) (by omega) (by omega) (fun h24 => ?_) (fun h24 => ?_)
          · have hp9 : v ≤ r * r ∨ s ≤ r := Or.inl h24
            exact Z.fg2 (L40 _ _ (by omega) hp9) (zs1 rfl (zsn (zs1 rfl (zsn (zs1 rfl (zsn (zsn zs0)))))))
          · have hr9 : 1 ≤ r * 2 ∧ r * 2 ≤ 2147483648 ∧ r * 2 = ((2 ^ (k + 1).toNat : Nat) : Int) := by
              have e : ((2 ^ (k + 1).toNat : Nat) : Int) = r * 2 := by rw [show (k + 1).toNat = k.toNat + 1 by omega, Nat.pow_succ, Int.natCast_mul, ← hr.2.2]; rfl
              have hb : 2 ^ (k + 1).toNat ≤ 2 ^ 31 := Nat.pow_le_pow_right (by omega) (by omega)
              simp only [Nat.reducePow] at hb
              omega
            refine z_lload_n dX8_squareRoot_28 rfl rfl ?_
            refine c_ldc2 (z := 2) dX8_squareRoot_29 w_260 (by decide) ?_
            refine c_lmul dX8_squareRoot_32 ?_
            refine z_lstore_n dX8_squareRoot_33 rfl (by decide) rfl ?_
            refine c_iinc dX8_squareRoot_34 rfl (by decide) rfl ?_
            refine z_goto (tgt := 13) dX8_squareRoot_37 (by decide) ?_
            exact Z.fg2 (ih13 _ (by omega) _ _ rfl (by omega) hr9) (zs1 rfl (zsn (zs1 rfl (zsn (zs1 rfl (zsn (zsn zs0)))))))
    exact Z.fg2 (L13 _ 0 1 rfl (by omega) ⟨by decide, by decide, rfl⟩) (zs1 rfl (zsn (zs1 rfl (zsn (zs1 rfl (zsn (zsn zs0)))))))
  · refine c_lconst0 dX8_squareRoot_6 ?_
    refine z_lreturn dX8_squareRoot_7 rfl ?_
    subst hQ0; refine ⟨rfl, 0, rfl, fun _ => rfl, fun h => ?_, by omega, by omega⟩
    have e : v = 0 := by omega
    subst e; omega
end Cls1
