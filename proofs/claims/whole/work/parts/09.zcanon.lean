def iZ (z : Int) : Int32 := Int32.ofInt z
def lZ (z : Int) : Int64 := Int64.ofInt z
abbrev rI (z : Int) : Prop := -2147483648 ≤ z ∧ z ≤ 2147483647
abbrev rL (z : Int) : Prop := -9223372036854775808 ≤ z ∧ z ≤ 9223372036854775807
theorem iZ_toInt {z : Int} (h : rI z) : (iZ z).toInt = z := Int32.toInt_ofInt_of_le h.1 (by have := h.2; show z < 2147483648; omega)
theorem lZ_toInt {z : Int} (h : rL z) : (lZ z).toInt = z := Int64.toInt_ofInt_of_le h.1 (by have := h.2; show z < 9223372036854775808; omega)
theorem iZ_of (x : Int32) : x = iZ x.toInt := (Int32.ofInt_toInt x).symm
theorem lZ_of (x : Int64) : x = lZ x.toInt := (Int64.ofInt_toInt x).symm
theorem rI_of (x : Int32) : rI x.toInt := ⟨x.le_toInt, by have := x.toInt_lt; show x.toInt ≤ 2147483647; omega⟩
theorem rL_of (x : Int64) : rL x.toInt := ⟨x.le_toInt, by have := x.toInt_lt; show x.toInt ≤ 9223372036854775807; omega⟩
theorem iZ_add (a b : Int) : iZ a + iZ b = iZ (a + b) := (Int32.ofInt_add a b).symm
theorem iZ_sub (a b : Int) : iZ a - iZ b = iZ (a - b) := (Int32.ofInt_sub a b).symm
theorem iZ_mul (a b : Int) : iZ a * iZ b = iZ (a * b) := (Int32.ofInt_mul a b).symm
theorem iZ_neg (a : Int) : - iZ a = iZ (-a) := (Int32.ofInt_neg a).symm
theorem lZ_add (a b : Int) : lZ a + lZ b = lZ (a + b) := (Int64.ofInt_add a b).symm
theorem lZ_sub (a b : Int) : lZ a - lZ b = lZ (a - b) := (Int64.ofInt_sub a b).symm
theorem lZ_mul (a b : Int) : lZ a * lZ b = lZ (a * b) := (Int64.ofInt_mul a b).symm
theorem lZ_neg (a : Int) : - lZ a = lZ (-a) := (Int64.ofInt_neg a).symm
theorem iZ_lt {a b : Int} (ha : rI a) (hb : rI b) : iZ a < iZ b ↔ a < b := by rw [Int32.lt_iff_toInt_lt, iZ_toInt ha, iZ_toInt hb]
theorem iZ_le {a b : Int} (ha : rI a) (hb : rI b) : iZ a ≤ iZ b ↔ a ≤ b := by rw [Int32.le_iff_toInt_le, iZ_toInt ha, iZ_toInt hb]
theorem iZ_eq {a b : Int} (ha : rI a) (hb : rI b) : iZ a = iZ b ↔ a = b := by rw [← Int32.toInt_inj, iZ_toInt ha, iZ_toInt hb]
theorem lZ_lt {a b : Int} (ha : rL a) (hb : rL b) : lZ a < lZ b ↔ a < b := by rw [Int64.lt_iff_toInt_lt, lZ_toInt ha, lZ_toInt hb]
theorem lZ_le {a b : Int} (ha : rL a) (hb : rL b) : lZ a ≤ lZ b ↔ a ≤ b := by rw [Int64.le_iff_toInt_le, lZ_toInt ha, lZ_toInt hb]
theorem lZ_eq {a b : Int} (ha : rL a) (hb : rL b) : lZ a = lZ b ↔ a = b := by rw [← Int64.toInt_inj, lZ_toInt ha, lZ_toInt hb]
theorem iZ_0 : iZ 0 = 0 := rfl
theorem iZ_ne0 {a : Int} (ha : rI a) (h : a ≠ 0) : ¬ iZ a = 0 := fun e => h ((iZ_eq ha (by omega)).mp e)
theorem lZ_ne0 {a : Int} (ha : rL a) (h : a ≠ 0) : ¬ lZ a = 0 := fun e => h ((lZ_eq ha (by omega)).mp e)
theorem iZ_l {a : Int} (ha : rI a) : (iZ a).toInt64 = lZ a := Int32.toInt64_ofInt ha.1 ha.2
theorem lZ_i (a : Int) : (lZ a).toInt32 = iZ a := Int64.toInt32_ofInt
theorem iZ_div {a b : Int} (ha : rI a) (hb : rI b) (h : ¬ (a = -2147483648 ∧ b = -1)) : iZ a / iZ b = iZ (a.tdiv b) := by
  rw [iZ_of (iZ a / iZ b), Int32.toInt_div, iZ_toInt ha, iZ_toInt hb]
  congr 1
  have h2 : (a.tdiv b).natAbs ≤ a.natAbs := by rw [Int.natAbs_tdiv]; exact Nat.div_le_self _ _
  have h3 : (a.tdiv b) ≤ 2147483647 := by
    by_cases hm : a = -2147483648
    · by_cases hb0 : b = 0
      · subst hb0; simp
      · by_cases hb1 : b = 1
        · subst hb1; simp; omega
        · have h4 : (a.tdiv b).natAbs = a.natAbs / b.natAbs := Int.natAbs_tdiv a b
          have h5 : 2 ≤ b.natAbs := by omega
          have h6 : a.natAbs / b.natAbs ≤ a.natAbs / 2 := Nat.div_le_div_left h5 (by omega)
          omega
    · omega
  show (a.tdiv b).bmod 4294967296 = _
  rw [Int.bmod_eq_of_le (by omega) (by omega)]
theorem lZ_div {a b : Int} (ha : rL a) (hb : rL b) (h : ¬ (a = -9223372036854775808 ∧ b = -1)) : lZ a / lZ b = lZ (a.tdiv b) := by
  rw [lZ_of (lZ a / lZ b), Int64.toInt_div, lZ_toInt ha, lZ_toInt hb]
  congr 1
  have h2 : (a.tdiv b).natAbs ≤ a.natAbs := by rw [Int.natAbs_tdiv]; exact Nat.div_le_self _ _
  have h3 : (a.tdiv b) ≤ 9223372036854775807 := by
    by_cases hm : a = -9223372036854775808
    · by_cases hb0 : b = 0
      · subst hb0; simp
      · by_cases hb1 : b = 1
        · subst hb1; simp; omega
        · have h4 : (a.tdiv b).natAbs = a.natAbs / b.natAbs := Int.natAbs_tdiv a b
          have h5 : 2 ≤ b.natAbs := by omega
          have h6 : a.natAbs / b.natAbs ≤ a.natAbs / 2 := Nat.div_le_div_left h5 (by omega)
          omega
    · omega
  show (a.tdiv b).bmod 18446744073709551616 = _
  rw [Int.bmod_eq_of_le (by omega) (by omega)]
theorem iZ_nn {j : Int} {n : Nat} (hn : (n : Int) ≤ 2147483647) (h : 0 ≤ j ∧ j < n) : vp_in (iZ j) n ∧ (iZ j).toNatClampNeg = j.toNat := by
  have e : (iZ j).toInt = j := iZ_toInt ⟨by omega, by omega⟩
  refine ⟨vp_in_iff.mpr (by rw [e]; exact h), ?_⟩
  show (iZ j).toInt.toNat = _
  rw [e]
theorem iZ_clamp {j : Int} (h : 0 ≤ j ∧ j ≤ 2147483647) : (iZ j).toNatClampNeg = j.toNat ∧ ¬ iZ j < 0 := by
  have e : (iZ j).toInt = j := iZ_toInt ⟨by omega, by omega⟩
  refine ⟨by show (iZ j).toInt.toNat = _; rw [e], fun q => ?_⟩
  have := (iZ_lt (b := 0) ⟨by omega, by omega⟩ (by omega)).mp q
  omega
def zi (J : Nat → Nat → Int) : ZI := fun a k => iZ (J a k)
def zj (P : Nat → Nat → Int) : ZL := fun a k => lZ (P a k)
theorem zup_zi {J : Nat → Nat → Int} {a i : Nat} {z : Int} : zup (zi J) a i (iZ z) = zi (zup J a i z) := by
  funext b j; simp only [zup, zi]; split
  · split <;> rfl
  · rfl
theorem zup_zj {J : Nat → Nat → Int} {a i : Nat} {z : Int} : zup (zj J) a i (lZ z) = zj (zup J a i z) := by
  funext b j; simp only [zup, zj]; split
  · split <;> rfl
  · rfl
theorem zupA_zi {J : Nat → Nat → Int} {a : Nat} {f : Nat → Int} : zupA (zi J) a (fun j => iZ (f j)) = zi (zupA J a f) := by
  funext b j; simp only [zupA, zi]; split <;> rfl
theorem zupA_zj {J : Nat → Nat → Int} {a : Nat} {f : Nat → Int} : zupA (zj J) a (fun j => lZ (f j)) = zj (zupA J a f) := by
  funext b j; simp only [zupA, zj]; split <;> rfl
theorem zi_of (I : ZI) : I = zi (fun a k => (I a k).toInt) := by funext a k; exact iZ_of _
theorem zj_of (I : ZL) : I = zj (fun a k => (I a k).toInt) := by funext a k; exact lZ_of _
section ZCan
variable {g : ZG} {l : Launch} {M : ZM} {pc : Nat} {ls : List (Option Value)} {st : List Value} {Q : Option Value → ZH → Prop} {h : ZH} {K : ZK} {J P : Nat → Nat → Int} {R : ZR} {n s0 : Nat}
theorem c_iconst {n : Int} (hd : decode M.2.1 pc = .ok (.iconst n, 1)) (k : Z g l M (pc + 1) ls (.int (iZ n) :: st) h Q) : Z g l M pc ls st h Q := z_iconst hd rfl k
theorem c_bipush {n : Int} (hd : decode M.2.1 pc = .ok (.bipush n, 2)) (hv : -128 ≤ n ∧ n ≤ 127) (k : Z g l M (pc + 2) ls (.int (iZ n) :: st) h Q) : Z g l M pc ls st h Q := z_bipush hd (Int8.toInt32_ofInt hv.1 hv.2) k
theorem c_sipush {n : Int} (hd : decode M.2.1 pc = .ok (.sipush n, 3)) (hv : -32768 ≤ n ∧ n ≤ 32767) (k : Z g l M (pc + 3) ls (.int (iZ n) :: st) h Q) : Z g l M pc ls st h Q := z_sipush hd (Int16.toInt32_ofInt hv.1 hv.2) k
theorem c_lconst0 (hd : decode M.2.1 pc = .ok (.lconst 0, 1)) (k : Z g l M (pc + 1) ls (.long (lZ 0) :: st) h Q) : Z g l M pc ls st h Q := z_lconst hd rfl k
theorem c_lconst1 (hd : decode M.2.1 pc = .ok (.lconst 1, 1)) (k : Z g l M (pc + 1) ls (.long (lZ 1) :: st) h Q) : Z g l M pc ls st h Q := z_lconst hd rfl k
theorem c_ldc {index : Nat} {z : Int} {v : Int32} (hd : decode M.2.1 pc = .ok (.ldc index, 2)) (hc : Cond.constant M.1.cls index v ∈ gw) (hv : v = iZ z) (k : Z g l M (pc + 2) ls (.int (iZ z) :: st) h Q) : Z g l M pc ls st h Q := z_ldc hd hc (hv ▸ k)
theorem c_ldc2 {index : Nat} {z : Int} {v : Int64} (hd : decode M.2.1 pc = .ok (.ldc2_w index, 3)) (hc : Cond.constantLong M.1.cls index v ∈ gw) (hv : v = lZ z) (k : Z g l M (pc + 3) ls (.long (lZ z) :: st) h Q) : Z g l M pc ls st h Q := z_ldc2 hd hc (hv ▸ k)
theorem c_iinc {i : Nat} {n x : Int} (hd : decode M.2.1 pc = .ok (.iinc i n, 3)) (hx : ls[i]? = some (some (.int (iZ x)))) (hn : i < M.2.2.1) (hz : znl ls i = true) (k : Z g l M (pc + 3) (ls.set i (some (.int (iZ (x + n))))) st h Q) : Z g l M pc ls st h Q := z_iinc hd hx hn hz (by rw [show iZ x + Int32.ofInt n = iZ (x + n) from iZ_add x n]; exact k)
theorem c_iadd {x y : Int} (hd : decode M.2.1 pc = .ok (.iadd, 1)) (k : Z g l M (pc + 1) ls (.int (iZ (x + y)) :: st) h Q) : Z g l M pc ls (.int (iZ y) :: .int (iZ x) :: st) h Q := z_iadd hd (by rw [iZ_add]; exact k)
theorem c_isub {x y : Int} (hd : decode M.2.1 pc = .ok (.isub, 1)) (k : Z g l M (pc + 1) ls (.int (iZ (x - y)) :: st) h Q) : Z g l M pc ls (.int (iZ y) :: .int (iZ x) :: st) h Q := z_isub hd (by rw [iZ_sub]; exact k)
theorem c_imul {x y : Int} (hd : decode M.2.1 pc = .ok (.imul, 1)) (k : Z g l M (pc + 1) ls (.int (iZ (x * y)) :: st) h Q) : Z g l M pc ls (.int (iZ y) :: .int (iZ x) :: st) h Q := z_imul hd (by rw [iZ_mul]; exact k)
theorem c_ladd {x y : Int} (hd : decode M.2.1 pc = .ok (.ladd, 1)) (k : Z g l M (pc + 1) ls (.long (lZ (x + y)) :: st) h Q) : Z g l M pc ls (.long (lZ y) :: .long (lZ x) :: st) h Q := z_ladd hd (by rw [lZ_add]; exact k)
theorem c_lsub {x y : Int} (hd : decode M.2.1 pc = .ok (.lsub, 1)) (k : Z g l M (pc + 1) ls (.long (lZ (x - y)) :: st) h Q) : Z g l M pc ls (.long (lZ y) :: .long (lZ x) :: st) h Q := z_lsub hd (by rw [lZ_sub]; exact k)
theorem c_lmul {x y : Int} (hd : decode M.2.1 pc = .ok (.lmul, 1)) (k : Z g l M (pc + 1) ls (.long (lZ (x * y)) :: st) h Q) : Z g l M pc ls (.long (lZ y) :: .long (lZ x) :: st) h Q := z_lmul hd (by rw [lZ_mul]; exact k)
theorem c_ineg {x : Int} (hd : decode M.2.1 pc = .ok (.ineg, 1)) (k : Z g l M (pc + 1) ls (.int (iZ (-x)) :: st) h Q) : Z g l M pc ls (.int (iZ x) :: st) h Q := z_ineg hd (by rw [iZ_neg]; exact k)
theorem c_lneg {x : Int} (hd : decode M.2.1 pc = .ok (.lneg, 1)) (k : Z g l M (pc + 1) ls (.long (lZ (-x)) :: st) h Q) : Z g l M pc ls (.long (lZ x) :: st) h Q := z_lneg hd (by rw [lZ_neg]; exact k)
theorem c_i2l {x : Int} (hd : decode M.2.1 pc = .ok (.i2l, 1)) (hx : rI x) (k : Z g l M (pc + 1) ls (.long (lZ x) :: st) h Q) : Z g l M pc ls (.int (iZ x) :: st) h Q := z_i2l hd (by rw [iZ_l hx]; exact k)
theorem c_l2i {x : Int} (hd : decode M.2.1 pc = .ok (.l2i, 1)) (k : Z g l M (pc + 1) ls (.int (iZ x) :: st) h Q) : Z g l M pc ls (.long (lZ x) :: st) h Q := z_l2i hd (by rw [lZ_i]; exact k)
theorem iZ_byte (x : Int) : (iZ x).toInt8.toInt32 = iZ (x.bmod 256) := by rw [iZ_of (iZ x).toInt8.toInt32]; congr 1; rw [Int8.toInt_toInt32, iZ, Int32.toInt8_ofInt, Int8.toInt_ofInt]
theorem c_i2b {x : Int} (hd : decode M.2.1 pc = .ok (.i2b, 1)) (k : Z g l M (pc + 1) ls (.int (iZ (x.bmod 256)) :: st) h Q) : Z g l M pc ls (.int (iZ x) :: st) h Q := z_i2b hd (by rw [iZ_byte]; exact k)
theorem c_idiv {x y : Int} (hd : decode M.2.1 pc = .ok (.idiv, 1)) (hx : rI x) (hy : rI y) (h0 : y ≠ 0) (ho : ¬ (x = -2147483648 ∧ y = -1)) (k : Z g l M (pc + 1) ls (.int (iZ (x.tdiv y)) :: st) h Q) : Z g l M pc ls (.int (iZ y) :: .int (iZ x) :: st) h Q := z_idiv hd (iZ_ne0 hy h0) (by rw [iZ_div hx hy ho]; exact k)
theorem c_irem {x y : Int} (hd : decode M.2.1 pc = .ok (.irem, 1)) (hx : rI x) (hy : rI y) (h0 : y ≠ 0) (ho : ¬ (x = -2147483648 ∧ y = -1)) (k : Z g l M (pc + 1) ls (.int (iZ (x.tmod y)) :: st) h Q) : Z g l M pc ls (.int (iZ y) :: .int (iZ x) :: st) h Q := z_irem hd (iZ_ne0 hy h0) (by rw [iZ_div hx hy ho, iZ_mul, iZ_sub, Int.mul_comm, ← Int.tmod_def]; exact k)
theorem c_ldiv {x y : Int} (hd : decode M.2.1 pc = .ok (.ldiv, 1)) (hx : rL x) (hy : rL y) (h0 : y ≠ 0) (ho : ¬ (x = -9223372036854775808 ∧ y = -1)) (k : Z g l M (pc + 1) ls (.long (lZ (x.tdiv y)) :: st) h Q) : Z g l M pc ls (.long (lZ y) :: .long (lZ x) :: st) h Q := z_ldiv hd (lZ_ne0 hy h0) (by rw [lZ_div hx hy ho]; exact k)
theorem c_lrem {x y : Int} (hd : decode M.2.1 pc = .ok (.lrem, 1)) (hx : rL x) (hy : rL y) (h0 : y ≠ 0) (ho : ¬ (x = -9223372036854775808 ∧ y = -1)) (k : Z g l M (pc + 1) ls (.long (lZ (x.tmod y)) :: st) h Q) : Z g l M pc ls (.long (lZ y) :: .long (lZ x) :: st) h Q := z_lrem hd (lZ_ne0 hy h0) (by rw [lZ_div hx hy ho, lZ_mul, lZ_sub, Int.mul_comm, ← Int.tmod_def]; exact k)
theorem Z.cast {P P' : Prop} {X Y : Prop} (e : P ↔ P') (a : P' → X) (b : ¬ P' → Y) : (P → X) ∧ (¬ P → Y) := ⟨fun q => a (e.mp q), fun q => b (fun z => q (e.mpr z))⟩
theorem c_if_eq {x off : Int} {tgt : Nat} (hd : decode M.2.1 pc = .ok (.ifCond .eq off, 3)) (ht : (pc : Int) + off = (tgt : Int)) (hx : rI x) (kt : x = 0 → Z g l M tgt ls st h Q) (kf : ¬ (x = 0) → Z g l M (pc + 3) ls st h Q) : Z g l M pc ls (.int (iZ x) :: st) h Q := have e := Z.cast (iZ_eq hx (by omega) : _ ↔ x = 0) kt kf; z_if_eq hd ht e.1 e.2
theorem c_icmp_eq {x y off : Int} {tgt : Nat} (hd : decode M.2.1 pc = .ok (.if_icmp .eq off, 3)) (ht : (pc : Int) + off = (tgt : Int)) (hx : rI x) (hy : rI y) (kt : x = y → Z g l M tgt ls st h Q) (kf : ¬ (x = y) → Z g l M (pc + 3) ls st h Q) : Z g l M pc ls (.int (iZ y) :: .int (iZ x) :: st) h Q := have e := Z.cast (iZ_eq hx hy : _ ↔ x = y) kt kf; z_icmp_eq hd ht e.1 e.2
theorem c_if_ne {x off : Int} {tgt : Nat} (hd : decode M.2.1 pc = .ok (.ifCond .ne off, 3)) (ht : (pc : Int) + off = (tgt : Int)) (hx : rI x) (kt : ¬ x = 0 → Z g l M tgt ls st h Q) (kf : ¬ (¬ x = 0) → Z g l M (pc + 3) ls st h Q) : Z g l M pc ls (.int (iZ x) :: st) h Q := have e := Z.cast (not_congr (iZ_eq hx (by omega)) : _ ↔ ¬ x = 0) kt kf; z_if_ne hd ht e.1 e.2
theorem c_icmp_ne {x y off : Int} {tgt : Nat} (hd : decode M.2.1 pc = .ok (.if_icmp .ne off, 3)) (ht : (pc : Int) + off = (tgt : Int)) (hx : rI x) (hy : rI y) (kt : ¬ x = y → Z g l M tgt ls st h Q) (kf : ¬ (¬ x = y) → Z g l M (pc + 3) ls st h Q) : Z g l M pc ls (.int (iZ y) :: .int (iZ x) :: st) h Q := have e := Z.cast (not_congr (iZ_eq hx hy) : _ ↔ ¬ x = y) kt kf; z_icmp_ne hd ht e.1 e.2
theorem c_if_lt {x off : Int} {tgt : Nat} (hd : decode M.2.1 pc = .ok (.ifCond .lt off, 3)) (ht : (pc : Int) + off = (tgt : Int)) (hx : rI x) (kt : x < 0 → Z g l M tgt ls st h Q) (kf : ¬ (x < 0) → Z g l M (pc + 3) ls st h Q) : Z g l M pc ls (.int (iZ x) :: st) h Q := have e := Z.cast (iZ_lt hx (by omega) : _ ↔ x < 0) kt kf; z_if_lt hd ht e.1 e.2
theorem c_icmp_lt {x y off : Int} {tgt : Nat} (hd : decode M.2.1 pc = .ok (.if_icmp .lt off, 3)) (ht : (pc : Int) + off = (tgt : Int)) (hx : rI x) (hy : rI y) (kt : x < y → Z g l M tgt ls st h Q) (kf : ¬ (x < y) → Z g l M (pc + 3) ls st h Q) : Z g l M pc ls (.int (iZ y) :: .int (iZ x) :: st) h Q := have e := Z.cast (iZ_lt hx hy : _ ↔ x < y) kt kf; z_icmp_lt hd ht e.1 e.2
theorem c_if_ge {x off : Int} {tgt : Nat} (hd : decode M.2.1 pc = .ok (.ifCond .ge off, 3)) (ht : (pc : Int) + off = (tgt : Int)) (hx : rI x) (kt : 0 ≤ x → Z g l M tgt ls st h Q) (kf : ¬ (0 ≤ x) → Z g l M (pc + 3) ls st h Q) : Z g l M pc ls (.int (iZ x) :: st) h Q := have e := Z.cast (iZ_le (by omega) hx : _ ↔ 0 ≤ x) kt kf; z_if_ge hd ht e.1 e.2
theorem c_icmp_ge {x y off : Int} {tgt : Nat} (hd : decode M.2.1 pc = .ok (.if_icmp .ge off, 3)) (ht : (pc : Int) + off = (tgt : Int)) (hx : rI x) (hy : rI y) (kt : y ≤ x → Z g l M tgt ls st h Q) (kf : ¬ (y ≤ x) → Z g l M (pc + 3) ls st h Q) : Z g l M pc ls (.int (iZ y) :: .int (iZ x) :: st) h Q := have e := Z.cast (iZ_le hy hx : _ ↔ y ≤ x) kt kf; z_icmp_ge hd ht e.1 e.2
theorem c_if_gt {x off : Int} {tgt : Nat} (hd : decode M.2.1 pc = .ok (.ifCond .gt off, 3)) (ht : (pc : Int) + off = (tgt : Int)) (hx : rI x) (kt : 0 < x → Z g l M tgt ls st h Q) (kf : ¬ (0 < x) → Z g l M (pc + 3) ls st h Q) : Z g l M pc ls (.int (iZ x) :: st) h Q := have e := Z.cast (iZ_lt (by omega) hx : _ ↔ 0 < x) kt kf; z_if_gt hd ht e.1 e.2
theorem c_icmp_gt {x y off : Int} {tgt : Nat} (hd : decode M.2.1 pc = .ok (.if_icmp .gt off, 3)) (ht : (pc : Int) + off = (tgt : Int)) (hx : rI x) (hy : rI y) (kt : y < x → Z g l M tgt ls st h Q) (kf : ¬ (y < x) → Z g l M (pc + 3) ls st h Q) : Z g l M pc ls (.int (iZ y) :: .int (iZ x) :: st) h Q := have e := Z.cast (iZ_lt hy hx : _ ↔ y < x) kt kf; z_icmp_gt hd ht e.1 e.2
theorem c_if_le {x off : Int} {tgt : Nat} (hd : decode M.2.1 pc = .ok (.ifCond .le off, 3)) (ht : (pc : Int) + off = (tgt : Int)) (hx : rI x) (kt : x ≤ 0 → Z g l M tgt ls st h Q) (kf : ¬ (x ≤ 0) → Z g l M (pc + 3) ls st h Q) : Z g l M pc ls (.int (iZ x) :: st) h Q := have e := Z.cast (iZ_le hx (by omega) : _ ↔ x ≤ 0) kt kf; z_if_le hd ht e.1 e.2
theorem c_icmp_le {x y off : Int} {tgt : Nat} (hd : decode M.2.1 pc = .ok (.if_icmp .le off, 3)) (ht : (pc : Int) + off = (tgt : Int)) (hx : rI x) (hy : rI y) (kt : x ≤ y → Z g l M tgt ls st h Q) (kf : ¬ (x ≤ y) → Z g l M (pc + 3) ls st h Q) : Z g l M pc ls (.int (iZ y) :: .int (iZ x) :: st) h Q := have e := Z.cast (iZ_le hx hy : _ ↔ x ≤ y) kt kf; z_icmp_le hd ht e.1 e.2
theorem lg_cmp_Z {x y : Int} (hx : rL x) (hy : rL y) : lg_cmp (lZ x) (lZ y) = iZ (if y < x then 1 else if x = y then 0 else -1) := by
  unfold lg_cmp
  simp only [gt_iff_lt, lZ_lt hy hx, lZ_eq hx hy]
  split
  · rfl
  · split <;> rfl
theorem c_lif_eq {x y off : Int} {tgt : Nat} (hd : decode M.2.1 pc = .ok (.lcmp, 1)) (hd2 : decode M.2.1 (pc + 1) = .ok (.ifCond .eq off, 3)) (ht : ((pc + 1 : Nat) : Int) + off = (tgt : Int)) (hx : rL x) (hy : rL y) (kt : x = y → Z g l M tgt ls st h Q) (kf : ¬ (x = y) → Z g l M (pc + 1 + 3) ls st h Q) : Z g l M pc ls (.long (lZ y) :: .long (lZ x) :: st) h Q := by
  refine z_lcmp hd ?_
  rw [lg_cmp_Z hx hy]
  refine c_if_eq hd2 ht (by split <;> (try split) <;> omega) (fun q => kt ?_) (fun q => kf ?_)
  · split at q <;> (try split at q) <;> omega
  · split at q <;> (try split at q) <;> omega
theorem c_lif_ne {x y off : Int} {tgt : Nat} (hd : decode M.2.1 pc = .ok (.lcmp, 1)) (hd2 : decode M.2.1 (pc + 1) = .ok (.ifCond .ne off, 3)) (ht : ((pc + 1 : Nat) : Int) + off = (tgt : Int)) (hx : rL x) (hy : rL y) (kt : ¬ x = y → Z g l M tgt ls st h Q) (kf : ¬ (¬ x = y) → Z g l M (pc + 1 + 3) ls st h Q) : Z g l M pc ls (.long (lZ y) :: .long (lZ x) :: st) h Q := by
  refine z_lcmp hd ?_
  rw [lg_cmp_Z hx hy]
  refine c_if_ne hd2 ht (by split <;> (try split) <;> omega) (fun q => kt ?_) (fun q => kf ?_)
  · split at q <;> (try split at q) <;> omega
  · split at q <;> (try split at q) <;> omega
theorem c_lif_lt {x y off : Int} {tgt : Nat} (hd : decode M.2.1 pc = .ok (.lcmp, 1)) (hd2 : decode M.2.1 (pc + 1) = .ok (.ifCond .lt off, 3)) (ht : ((pc + 1 : Nat) : Int) + off = (tgt : Int)) (hx : rL x) (hy : rL y) (kt : x < y → Z g l M tgt ls st h Q) (kf : ¬ (x < y) → Z g l M (pc + 1 + 3) ls st h Q) : Z g l M pc ls (.long (lZ y) :: .long (lZ x) :: st) h Q := by
  refine z_lcmp hd ?_
  rw [lg_cmp_Z hx hy]
  refine c_if_lt hd2 ht (by split <;> (try split) <;> omega) (fun q => kt ?_) (fun q => kf ?_)
  · split at q <;> (try split at q) <;> omega
  · split at q <;> (try split at q) <;> omega
theorem c_lif_ge {x y off : Int} {tgt : Nat} (hd : decode M.2.1 pc = .ok (.lcmp, 1)) (hd2 : decode M.2.1 (pc + 1) = .ok (.ifCond .ge off, 3)) (ht : ((pc + 1 : Nat) : Int) + off = (tgt : Int)) (hx : rL x) (hy : rL y) (kt : y ≤ x → Z g l M tgt ls st h Q) (kf : ¬ (y ≤ x) → Z g l M (pc + 1 + 3) ls st h Q) : Z g l M pc ls (.long (lZ y) :: .long (lZ x) :: st) h Q := by
  refine z_lcmp hd ?_
  rw [lg_cmp_Z hx hy]
  refine c_if_ge hd2 ht (by split <;> (try split) <;> omega) (fun q => kt ?_) (fun q => kf ?_)
  · split at q <;> (try split at q) <;> omega
  · split at q <;> (try split at q) <;> omega
theorem c_lif_gt {x y off : Int} {tgt : Nat} (hd : decode M.2.1 pc = .ok (.lcmp, 1)) (hd2 : decode M.2.1 (pc + 1) = .ok (.ifCond .gt off, 3)) (ht : ((pc + 1 : Nat) : Int) + off = (tgt : Int)) (hx : rL x) (hy : rL y) (kt : y < x → Z g l M tgt ls st h Q) (kf : ¬ (y < x) → Z g l M (pc + 1 + 3) ls st h Q) : Z g l M pc ls (.long (lZ y) :: .long (lZ x) :: st) h Q := by
  refine z_lcmp hd ?_
  rw [lg_cmp_Z hx hy]
  refine c_if_gt hd2 ht (by split <;> (try split) <;> omega) (fun q => kt ?_) (fun q => kf ?_)
  · split at q <;> (try split at q) <;> omega
  · split at q <;> (try split at q) <;> omega
theorem c_lif_le {x y off : Int} {tgt : Nat} (hd : decode M.2.1 pc = .ok (.lcmp, 1)) (hd2 : decode M.2.1 (pc + 1) = .ok (.ifCond .le off, 3)) (ht : ((pc + 1 : Nat) : Int) + off = (tgt : Int)) (hx : rL x) (hy : rL y) (kt : x ≤ y → Z g l M tgt ls st h Q) (kf : ¬ (x ≤ y) → Z g l M (pc + 1 + 3) ls st h Q) : Z g l M pc ls (.long (lZ y) :: .long (lZ x) :: st) h Q := by
  refine z_lcmp hd ?_
  rw [lg_cmp_Z hx hy]
  refine c_if_le hd2 ht (by split <;> (try split) <;> omega) (fun q => kt ?_) (fun q => kf ?_)
  · split at q <;> (try split at q) <;> omega
  · split at q <;> (try split at q) <;> omega
theorem c_getI {a ci kf index : Nat} (hd : decode M.2.1 pc = .ok (.getfield index, 3)) (hK : (K a).1 = 10 + ci) (hc : ci < 10) (hk : kf < zN ci) (hs : zsort (zty ci kf) = 0) (hw : Cond.fieldLink M.1.cls index (zTT ci kf).1 (zTT ci kf).2.1 (zTT ci kf).2.2.1 ∈ gw) (k : Z g l M (pc + 3) ls (.int (iZ (J a kf)) :: st) (K, zi J, zj P, R, n, s0) Q) : Z g l M pc ls (.ref a :: st) (K, zi J, zj P, R, n, s0) Q := z_getI hd hK hc hk hs hw k
theorem c_getL {a ci kf index : Nat} (hd : decode M.2.1 pc = .ok (.getfield index, 3)) (hK : (K a).1 = 10 + ci) (hc : ci < 10) (hk : kf < zN ci) (hs : zsort (zty ci kf) = 1) (hw : Cond.fieldLink M.1.cls index (zTT ci kf).1 (zTT ci kf).2.1 (zTT ci kf).2.2.1 ∈ gw) (k : Z g l M (pc + 3) ls (.long (lZ (P a kf)) :: st) (K, zi J, zj P, R, n, s0) Q) : Z g l M pc ls (.ref a :: st) (K, zi J, zj P, R, n, s0) Q := z_getL hd hK hc hk hs hw k
theorem c_putI {a ci kf index : Nat} {x : Int} (hd : decode M.2.1 pc = .ok (.putfield index, 3)) (hK : (K a).1 = 10 + ci) (hc : ci < 10) (hk : kf < zN ci) (hs : zty ci kf = .int) (hf : zfinok M ci kf = true) (hw : Cond.fieldLink M.1.cls index (zTT ci kf).1 (zTT ci kf).2.1 (zTT ci kf).2.2.1 ∈ gw) (k : Z g l M (pc + 3) ls st (K, zi (zup J a kf x), zj P, R, n, s0) Q) : Z g l M pc ls (.int (iZ x) :: .ref a :: st) (K, zi J, zj P, R, n, s0) Q := z_putI hd hK hc hk (by rw [hs]; rfl) hf (by rw [hs]; rfl) (by rw [hs]; rfl) hw (by rw [zup_zi]; exact k)
theorem c_putZ {a ci kf index : Nat} {x : Int} (hd : decode M.2.1 pc = .ok (.putfield index, 3)) (hK : (K a).1 = 10 + ci) (hc : ci < 10) (hk : kf < zN ci) (hs : zty ci kf = .boolean) (hf : zfinok M ci kf = true) (hx : x = 0 ∨ x = 1) (hw : Cond.fieldLink M.1.cls index (zTT ci kf).1 (zTT ci kf).2.1 (zTT ci kf).2.2.1 ∈ gw) (k : Z g l M (pc + 3) ls st (K, zi (zup J a kf x), zj P, R, n, s0) Q) : Z g l M pc ls (.int (iZ x) :: .ref a :: st) (K, zi J, zj P, R, n, s0) Q := z_putI hd hK hc hk (by rw [hs]; rfl) hf (by rw [hs]; rcases hx with rfl | rfl <;> rfl) (by rw [hs]; rcases hx with rfl | rfl <;> rfl) hw (by rw [zup_zi]; exact k)
theorem c_putL {a ci kf index : Nat} {x : Int} (hd : decode M.2.1 pc = .ok (.putfield index, 3)) (hK : (K a).1 = 10 + ci) (hc : ci < 10) (hk : kf < zN ci) (hs : zty ci kf = .long) (hf : zfinok M ci kf = true) (hw : Cond.fieldLink M.1.cls index (zTT ci kf).1 (zTT ci kf).2.1 (zTT ci kf).2.2.1 ∈ gw) (k : Z g l M (pc + 3) ls st (K, zi J, zj (zup P a kf x), R, n, s0) Q) : Z g l M pc ls (.long (lZ x) :: .ref a :: st) (K, zi J, zj P, R, n, s0) Q := z_putL hd hK hc hk (by rw [hs]; rfl) hf (by rw [hs]; rfl) (by rw [hs]; rfl) hw (by rw [zup_zj]; exact k)
theorem c_iald {a len : Nat} {j : Int} (hd : decode M.2.1 pc = .ok (.iaload, 1)) (hK : K a = (1, len)) (hj : 0 ≤ j ∧ j < (len : Int)) (hl : (len : Int) ≤ 2147483647) (k : Z g l M (pc + 1) ls (.int (iZ (J a j.toNat)) :: st) (K, zi J, zj P, R, n, s0) Q) : Z g l M pc ls (.int (iZ j) :: .ref a :: st) (K, zi J, zj P, R, n, s0) Q := have e := iZ_nn hl hj; z_iald hd hK e.1 (by rw [e.2]; exact k)
theorem c_bald {a len : Nat} {j : Int} (hd : decode M.2.1 pc = .ok (.baload, 1)) (hK : K a = (3, len)) (hj : 0 ≤ j ∧ j < (len : Int)) (hl : (len : Int) ≤ 2147483647) (k : Z g l M (pc + 1) ls (.int (iZ (J a j.toNat)) :: st) (K, zi J, zj P, R, n, s0) Q) : Z g l M pc ls (.int (iZ j) :: .ref a :: st) (K, zi J, zj P, R, n, s0) Q := have e := iZ_nn hl hj; z_bald hd hK e.1 (by rw [e.2]; exact k)
theorem c_lald {a len : Nat} {j : Int} (hd : decode M.2.1 pc = .ok (.laload, 1)) (hK : K a = (2, len)) (hj : 0 ≤ j ∧ j < (len : Int)) (hl : (len : Int) ≤ 2147483647) (k : Z g l M (pc + 1) ls (.long (lZ (P a j.toNat)) :: st) (K, zi J, zj P, R, n, s0) Q) : Z g l M pc ls (.int (iZ j) :: .ref a :: st) (K, zi J, zj P, R, n, s0) Q := have e := iZ_nn hl hj; z_lald hd hK e.1 (by rw [e.2]; exact k)
theorem c_aald {a len r : Nat} {j : Int} (hd : decode M.2.1 pc = .ok (.aaload, 1)) (hK : K a = (4, len) ∨ K a = (5, len)) (hj : 0 ≤ j ∧ j < (len : Int)) (hl : (len : Int) ≤ 2147483647) (hv : R a j.toNat = some r) (k : Z g l M (pc + 1) ls (.ref r :: st) (K, zi J, zj P, R, n, s0) Q) : Z g l M pc ls (.int (iZ j) :: .ref a :: st) (K, zi J, zj P, R, n, s0) Q := have e := iZ_nn hl hj; z_aald hd hK e.1 (by rw [e.2]; exact hv) k
theorem c_aaldN {a len : Nat} {j : Int} (hd : decode M.2.1 pc = .ok (.aaload, 1)) (hK : K a = (4, len) ∨ K a = (5, len)) (hj : 0 ≤ j ∧ j < (len : Int)) (hl : (len : Int) ≤ 2147483647) (hv : R a j.toNat = none) (k : Z g l M (pc + 1) ls (.null :: st) (K, zi J, zj P, R, n, s0) Q) : Z g l M pc ls (.int (iZ j) :: .ref a :: st) (K, zi J, zj P, R, n, s0) Q := have e := iZ_nn hl hj; z_aaldN hd hK e.1 (by rw [e.2]; exact hv) k
theorem c_iast {a len : Nat} {j x : Int} (hd : decode M.2.1 pc = .ok (.iastore, 1)) (hK : K a = (1, len)) (hj : 0 ≤ j ∧ j < (len : Int)) (hl : (len : Int) ≤ 2147483647) (k : Z g l M (pc + 1) ls st (K, zi (zup J a j.toNat x), zj P, R, n, s0) Q) : Z g l M pc ls (.int (iZ x) :: .int (iZ j) :: .ref a :: st) (K, zi J, zj P, R, n, s0) Q := have e := iZ_nn hl hj; z_iast hd hK e.1 (by rw [e.2, zup_zi]; exact k)
theorem c_bast {a len : Nat} {j x : Int} (hd : decode M.2.1 pc = .ok (.bastore, 1)) (hK : K a = (3, len)) (hj : 0 ≤ j ∧ j < (len : Int)) (hl : (len : Int) ≤ 2147483647) (k : Z g l M (pc + 1) ls st (K, zi (zup J a j.toNat (x.bmod 256)), zj P, R, n, s0) Q) : Z g l M pc ls (.int (iZ x) :: .int (iZ j) :: .ref a :: st) (K, zi J, zj P, R, n, s0) Q := have e := iZ_nn hl hj; z_bast hd hK e.1 (by rw [e.2, iZ_byte, zup_zi]; exact k)
theorem c_last {a len : Nat} {j x : Int} (hd : decode M.2.1 pc = .ok (.lastore, 1)) (hK : K a = (2, len)) (hj : 0 ≤ j ∧ j < (len : Int)) (hl : (len : Int) ≤ 2147483647) (k : Z g l M (pc + 1) ls st (K, zi J, zj (zup P a j.toNat x), R, n, s0) Q) : Z g l M pc ls (.long (lZ x) :: .int (iZ j) :: .ref a :: st) (K, zi J, zj P, R, n, s0) Q := have e := iZ_nn hl hj; z_last hd hK e.1 (by rw [e.2, zup_zj]; exact k)
theorem c_aast {a len r kd ci : Nat} {j : Int} (hd : decode M.2.1 pc = .ok (.aastore, 1)) (hK : K a = (kd, len)) (hkc : (kd = 4 ∧ ci = 3) ∨ (kd = 5 ∧ ci = 5)) (hj : 0 ≤ j ∧ j < (len : Int)) (hl : (len : Int) ≤ 2147483647) (hv : (K r).1 = 10 + ci) (k : Z g l M (pc + 1) ls st (K, zi J, zj P, zup R a j.toNat (some r), n, s0) Q) : Z g l M pc ls (.ref r :: .int (iZ j) :: .ref a :: st) (K, zi J, zj P, R, n, s0) Q := have e := iZ_nn hl hj; z_aast hd hK hkc e.1 hv (by rw [e.2]; exact k)
theorem c_aastN {a len : Nat} {j : Int} (hd : decode M.2.1 pc = .ok (.aastore, 1)) (hK : K a = (4, len)) (hj : 0 ≤ j ∧ j < (len : Int)) (hl : (len : Int) ≤ 2147483647) (k : Z g l M (pc + 1) ls st (K, zi J, zj P, zup R a j.toNat none, n, s0) Q) : Z g l M pc ls (.null :: .int (iZ j) :: .ref a :: st) (K, zi J, zj P, R, n, s0) Q := have e := iZ_nn hl hj; z_aastN hd hK e.1 (by rw [e.2]; exact k)
theorem c_alen {a len kd : Nat} (hd : decode M.2.1 pc = .ok (.arraylength, 1)) (hK : K a = (kd, len)) (hk : kd = 1 ∨ kd = 2 ∨ kd = 3) (k : Z g l M (pc + 1) ls (.int (iZ len) :: st) (K, zi J, zj P, R, n, s0) Q) : Z g l M pc ls (.ref a :: st) (K, zi J, zj P, R, n, s0) Q := z_alen hd hK hk (by rw [show Int32.ofNat len = iZ len from Int32.ofInt_eq_ofNat.symm]; exact k)
theorem c_iald_old {r len : Nat} {j : Int} {f : Nat → Int} (hd : decode M.2.1 pc = .ok (.iaload, 1)) (hr : r < 4) (hg : g.2.2.2.2 r = (len, fun j => iZ (f j))) (hj : 0 ≤ j ∧ j < (len : Int)) (hl : (len : Int) ≤ 2147483647) (k : Z g l M (pc + 1) ls (.int (iZ (f j.toNat)) :: st) h Q) : Z g l M pc ls (.int (iZ j) :: .ref r :: st) h Q := have e := iZ_nn hl hj; z_iald_old hd hr (by rw [hg]; exact e.1) (by rw [hg, e.2]; exact k)
theorem c_alen_old {r len : Nat} {f : Nat → Int} (hd : decode M.2.1 pc = .ok (.arraylength, 1)) (hr : r < 4) (hg : g.2.2.2.2 r = (len, fun j => iZ (f j))) (k : Z g l M (pc + 1) ls (.int (iZ len) :: st) h Q) : Z g l M pc ls (.ref r :: st) h Q := z_alen_old hd hr (by rw [hg, show Int32.ofNat len = iZ len from Int32.ofInt_eq_ofNat.symm]; exact k)
theorem c_newi {x : Int} (hd : decode M.2.1 pc = .ok (.newarray .int, 2)) (hw : Cond.arrayClass .int ∈ gw) (h0 : 0 ≤ x ∧ x ≤ 60000000) (k : Z g l M (pc + 2) ls (.ref n :: st) (zkp K n (1, x.toNat), zi (zupA J n (fun _ => 0)), zj P, R, n + 1, s0 + x.toNat) Q) : Z g l M pc ls (.int (iZ x) :: st) (K, zi J, zj P, R, n, s0) Q := have e := iZ_clamp (j := x) ⟨h0.1, by omega⟩; z_newi hd hw e.2 e.1 (by omega) (by rw [show zupA (zi J) n (fun _ => 0) = zi (zupA J n (fun _ => 0)) from zupA_zi (f := fun _ => 0)]; exact k)
theorem c_newb {x : Int} (hd : decode M.2.1 pc = .ok (.newarray .byte, 2)) (hw : Cond.arrayClass .byte ∈ gw) (h0 : 0 ≤ x ∧ x ≤ 60000000) (k : Z g l M (pc + 2) ls (.ref n :: st) (zkp K n (3, x.toNat), zi (zupA J n (fun _ => 0)), zj P, R, n + 1, s0 + x.toNat) Q) : Z g l M pc ls (.int (iZ x) :: st) (K, zi J, zj P, R, n, s0) Q := have e := iZ_clamp (j := x) ⟨h0.1, by omega⟩; z_newb hd hw e.2 e.1 (by omega) (by rw [show zupA (zi J) n (fun _ => 0) = zi (zupA J n (fun _ => 0)) from zupA_zi (f := fun _ => 0)]; exact k)
theorem c_newl {x : Int} (hd : decode M.2.1 pc = .ok (.newarray .long, 2)) (hw : Cond.arrayClass .long ∈ gw) (h0 : 0 ≤ x ∧ x ≤ 60000000) (k : Z g l M (pc + 2) ls (.ref n :: st) (zkp K n (2, x.toNat), zi J, zj (zupA P n (fun _ => 0)), R, n + 1, s0 + x.toNat) Q) : Z g l M pc ls (.int (iZ x) :: st) (K, zi J, zj P, R, n, s0) Q := have e := iZ_clamp (j := x) ⟨h0.1, by omega⟩; z_newl hd hw e.2 e.1 (by omega) (by rw [show zupA (zj P) n (fun _ => 0) = zj (zupA P n (fun _ => 0)) from zupA_zj (f := fun _ => 0)]; exact k)
theorem c_newq {index kd ci : Nat} {x : Int} (hd : decode M.2.1 pc = .ok (.anewarray index, 3)) (hkc : (kd = 4 ∧ ci = 3) ∨ (kd = 5 ∧ ci = 5)) (hw : Cond.classLink M.1.cls index (zRR ci) ∈ gw) (h0 : 0 ≤ x ∧ x ≤ 60000000) (k : Z g l M (pc + 3) ls (.ref n :: st) (zkp K n (kd, x.toNat), zi J, zj P, zupA R n (fun _ => none), n + 1, s0 + x.toNat) Q) : Z g l M pc ls (.int (iZ x) :: st) (K, zi J, zj P, R, n, s0) Q := have e := iZ_clamp (j := x) ⟨h0.1, by omega⟩; z_newq hd hkc hw e.2 e.1 (by omega) k
theorem c_new {index ci : Nat} (hd : decode M.2.1 pc = .ok (.new index, 3)) (hc : ci < 10) (hw : Cond.classLink M.1.cls index (zRR ci) ∈ gw) (hi : Cond.instantiable (zRR ci) (zN ci) ∈ gw) (hini : Cond.initialized (zRR ci) ∈ gw) (k : Z g l M (pc + 3) ls (.ref n :: st) (zkp K n (10 + ci, 0), zi (zupA J n (fun _ => 0)), zj (zupA P n (fun _ => 0)), zupA R n (fun _ => none), n + 1, s0 + zN ci) Q) : Z g l M pc ls st (K, zi J, zj P, R, n, s0) Q := z_new hd hc hw hi hini (by rw [show zupA (zi J) n (fun _ => 0) = zi (zupA J n (fun _ => 0)) from zupA_zi (f := fun _ => 0), show zupA (zj P) n (fun _ => 0) = zj (zupA P n (fun _ => 0)) from zupA_zj (f := fun _ => 0)]; exact k)
theorem va_cpy_zi {J : Nat → Nat → Int} {a b sp dp m : Nat} : va_cpy (zi J a) (zi J b) sp dp m = fun j => iZ (va_cpy (J a) (J b) sp dp m j) := by
  funext j; simp only [va_cpy, zi]; split <;> rfl
theorem c_copyi {a b la lb index : Nat} {sp dp m : Int} (hd : decode M.2.1 pc = .ok (.invokestatic index, 3)) (hl : Cond.methodLink M.1.cls index arraycopyName ∈ gw) (hnat : Cond.native arraycopyName ∈ gw) (hsta : Cond.static arraycopyName ∈ gw) (hini : Cond.initialized "java/lang/System" ∈ gw) (hKa : K a = (1, la)) (hKb : K b = (1, lb)) (h1 : 0 ≤ sp ∧ 0 ≤ dp ∧ 0 ≤ m) (h4 : sp + m ≤ la) (h5 : dp + m ≤ lb) (hla : (la : Int) ≤ 2147483647) (hlb : (lb : Int) ≤ 2147483647) (hfr : 1 ≤ M.2.2.2.2.1) (hlo : (st.map fun v => v.category).sum + (nativeFrameWords "java/lang/System" "arraycopy" 5 + 11) ≤ M.2.2.2.2.2)
    (k : Z g l M (pc + 3) ls st (K, zi (zupA J b (va_cpy (J a) (J b) sp.toNat dp.toNat m.toNat)), zj P, R, n, s0) Q) : Z g l M pc ls (.int (iZ m) :: .int (iZ dp) :: .ref b :: .int (iZ sp) :: .ref a :: st) (K, zi J, zj P, R, n, s0) Q := by
  have e1 := iZ_clamp (j := sp) ⟨h1.1, by omega⟩
  have e2 := iZ_clamp (j := dp) ⟨h1.2.1, by omega⟩
  have e3 := iZ_clamp (j := m) ⟨h1.2.2, by omega⟩
  refine z_copyi hd hl hnat hsta hini hKa hKb e1.2 e2.2 e3.2 (by rw [e1.1, e3.1]; omega) (by rw [e2.1, e3.1]; omega) hfr hlo ?_
  rw [e1.1, e2.1, e3.1, va_cpy_zi, zupA_zi]
  exact k
theorem c_clone {a len index : Nat} (hd : decode M.2.1 pc = .ok (.invokevirtual index, 3)) (hl : Cond.methodLink M.1.cls index ⟨"[I", "clone", "()Ljava/lang/Object;"⟩ ∈ gw) (hsm : Cond.sameMethod "[I" "java/lang/Object" "clone" "()Ljava/lang/Object;" ∈ gw) (hnat : Cond.native ⟨"java/lang/Object", "clone", "()Ljava/lang/Object;"⟩ ∈ gw) (hinst : Cond.instanceMethod ⟨"java/lang/Object", "clone", "()Ljava/lang/Object;"⟩ ∈ gw)
    (hsel : Cond.selects "[I" ⟨"[I", "clone", "()Ljava/lang/Object;"⟩ ⟨"java/lang/Object", "clone", "()Ljava/lang/Object;"⟩ ∈ gw) (hK : K a = (1, len)) (hfr : 1 ≤ M.2.2.2.2.1) (hlo : (st.map fun v => v.category).sum + 14 ≤ M.2.2.2.2.2)
    (k : Z g l M (pc + 3) ls (.ref n :: st) (zkp K n (1, len), zi (zupA J n (J a)), zj P, R, n + 1, s0 + len) Q) : Z g l M pc ls (.ref a :: st) (K, zi J, zj P, R, n, s0) Q := z_clone hd hl hsm hnat hinst hsel hK hfr hlo (by rw [show zupA (zi J) n (zi J a) = zi (zupA J n (J a)) from zupA_zi (f := J a)]; exact k)
theorem c_ireturn {x : Int} (hd : decode M.2.1 pc = .ok (.ireturn, 1)) (hr : M.2.2.2.1 = some .int) (hq : Q (some (.int (iZ x))) h) : Z g l M pc ls [.int (iZ x)] h Q := z_ireturn hd hr hq
theorem c_zreturn {x : Int} (hd : decode M.2.1 pc = .ok (.ireturn, 1)) (hr : M.2.2.2.1 = some .boolean) (hx : x = 0 ∨ x = 1) (hq : Q (some (.int (iZ x))) h) : Z g l M pc ls [.int (iZ x)] h Q := z_zreturn hd hr (by rcases hx with rfl | rfl <;> rfl) hq
end ZCan
/-- locals: what is asked for is there -/
def zsub : List (Option Value) → List (Option Value) → Prop
  | [], _ => True
  | none :: a, b => zsub a b.tail
  | some v :: a, b => b.head? = some (some v) ∧ zsub a b.tail
theorem zsub_get : ∀ (a b : List (Option Value)), zsub a b → ∀ (i : Nat) (v : Value), a[i]? = some (some v) → b[i]? = some (some v)
  | [], b, _, i, v, hv => by simp at hv
  | none :: a, b, hs, 0, v, hv => by simp at hv
  | none :: a, b, hs, i + 1, v, hv => by
    have := zsub_get a b.tail hs i v (by simpa using hv)
    cases b with
    | nil => simp at this
    | cons x b => simpa using this
  | some w :: a, b, hs, 0, v, hv => by
    simp at hv; subst hv
    cases b with
    | nil => simp [zsub] at hs
    | cons x b => simpa [zsub] using hs.1
  | some w :: a, b, hs, i + 1, v, hv => by
    have := zsub_get a b.tail hs.2 i v (by simpa using hv)
    cases b with
    | nil => simp at this
    | cons x b => simpa using this
theorem Z.fg {g : ZG} {l : Launch} {M : ZM} {pc : Nat} {ls ls' : List (Option Value)} {st : List Value} {h : ZH} {Q : Option Value → ZH → Prop} (hs : zsub ls' ls) (k : Z g l M pc ls' st h Q) : Z g l M pc ls st h Q := Z.forget k (zsub_get ls' ls hs)
