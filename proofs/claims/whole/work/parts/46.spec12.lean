/-! BITS and RESTS -/
theorem iZ_or (a b : Nat) : iZ (a : Int) ||| iZ (b : Int) = iZ ((a ||| b : Nat) : Int) := by
  unfold iZ
  rw [← Int32.toBitVec_inj, Int32.toBitVec_or, Int32.toBitVec_ofInt, Int32.toBitVec_ofInt, Int32.toBitVec_ofInt, BitVec.ofInt_natCast, BitVec.ofInt_natCast, BitVec.ofInt_natCast, BitVec.ofNat_or]
theorem iZ_sh1 : ∀ r : Fin 31, iZ 1 <<< (iZ (r.val : Int) &&& 31) = iZ ((2 ^ r.val : Nat) : Int) := by decide +kernel
theorem iZ_sh {r : Int} (h0 : 0 ≤ r) (h1 : r < 31) : iZ 1 <<< (iZ r &&& 31) = iZ ((2 ^ r.toNat : Nat) : Int) := by
  have := iZ_sh1 ⟨r.toNat, by omega⟩
  simp only at this
  rw [show ((r.toNat : Nat) : Int) = r by omega] at this
  exact this
theorem iZ_am : ∀ r : Fin 31, (iZ (r.val : Int) &&& 31).toBitVec.smod 32 = BitVec.ofNat 32 r.val := by decide +kernel
theorem iZ_bit {w : Nat} {r : Int} (hw : w < 2147483648) (h0 : 0 ≤ r) (h1 : r < 31) : (iZ (w : Int) >>> (iZ r &&& 31)) &&& iZ 1 = iZ (if w.testBit r.toNat then 1 else 0) := by
  have e := iZ_am ⟨r.toNat, by omega⟩
  simp only at e
  rw [show ((r.toNat : Nat) : Int) = r by omega] at e
  rw [← Int32.toBitVec_inj, Int32.toBitVec_and, Int32.toBitVec_shiftRight, e]
  unfold iZ
  rw [Int32.toBitVec_ofInt, Int32.toBitVec_ofInt, Int32.toBitVec_ofInt, BitVec.ofInt_natCast]
  have hm : (BitVec.ofNat 32 w).msb = false := by rw [BitVec.msb_eq_decide]; simp; omega
  rw [BitVec.sshiftRight', BitVec.sshiftRight_eq_of_msb_false hm]
  apply BitVec.eq_of_toNat_eq
  rw [BitVec.toNat_and, BitVec.toNat_ushiftRight]
  rw [BitVec.toNat_ofNat, BitVec.toNat_ofNat, Nat.mod_eq_of_lt (by omega), Nat.mod_eq_of_lt (a := r.toNat) (by omega)]
  have h2 : (BitVec.ofInt 32 1).toNat = 1 := by decide
  rw [h2, Nat.and_one_is_mod]
  cases ht : w.testBit r.toNat
  · rw [Nat.testBit_eq_decide_div_mod_eq] at ht
    rw [Nat.shiftRight_eq_div_pow]
    simp at ht
    simp [ht]
  · rw [Nat.testBit_eq_decide_div_mod_eq] at ht
    rw [Nat.shiftRight_eq_div_pow]
    simp at ht
    simp [ht]
/-- what is left of a code behind i letters; its letters -/
def lft (m c : Int) : Nat → Int
  | 0 => c
  | i + 1 => (lft m c i).tdiv m
def dgv (nl m c : Int) (i : Nat) : Int := if (i : Int) < nl then (lft m c i).tmod m else 0
def dgV (nl m c : Int) : V4 := (dgv nl m c 0, dgv nl m c 1, dgv nl m c 2, dgv nl m c 3)
def resS (nl : Int) (E : Nat → Int) (m : Int) : Nat → Nat
  | 0 => 0
  | k + 1 => resS nl E m k ||| 2 ^ ((wv E (dgV nl m k)).tmod m).toNat
def allS (nl m : Int) : Int := if nl = 1 then m else if nl = 2 then m * m else if nl = 3 then m * m * m else m * m * m * m
def restS (nl : Int) (E : Nat → Int) (m : Int) : Nat := resS nl E m (allS nl m).toNat
/-- sums of a row, of rows -/
def rsum (E x : Nat → Int) (i : Nat) : Nat → Int
  | 0 => 0
  | j + 1 => rsum E x i j + E (4 * i + j) * x i * x j
def qsum (E x : Nat → Int) (n : Nat) : Nat → Int
  | 0 => 0
  | i + 1 => qsum E x n i + rsum E x i n
theorem lft_nn {m c : Int} (hm : 0 ≤ m) (hc : 0 ≤ c) : ∀ i, 0 ≤ lft m c i
  | 0 => hc
  | i + 1 => Int.tdiv_nonneg (lft_nn hm hc i) hm
theorem lft_le {m c : Int} (hm : 0 ≤ m) (hc : 0 ≤ c) : ∀ i, lft m c i ≤ c
  | 0 => Int.le_refl _
  | i + 1 => by
    have h1 := lft_le hm hc i
    have h2 := lft_nn hm hc i
    unfold lft
    exact Int.le_trans (by rw [Int.tdiv_eq_ediv_of_nonneg h2]; exact Int.ediv_le_self _ h2) h1
theorem dgv_bd {nl m c : Int} (hm : 0 < m) (hc : 0 ≤ c) (i : Nat) : 0 ≤ dgv nl m c i ∧ dgv nl m c i < m := by
  unfold dgv
  split
  · have h := lft_nn (m := m) (by omega) hc i
    rw [Int.tmod_eq_emod_of_nonneg h]
    exact ⟨Int.emod_nonneg _ (by omega), Int.emod_lt_of_pos _ hm⟩
  · omega
theorem rsum_bd {E x : Nat → Int} (hE : entS E) (hx : ∀ i, i < 4 → 0 ≤ x i ∧ x i < 16) {i : Nat} (hi : i < 4) : ∀ j : Nat, j ≤ 4 → -(22275 * (j : Int)) ≤ rsum E x i j ∧ rsum E x i j ≤ 22275 * (j : Int)
  | 0, _ => by simp [rsum]
  | j + 1, hj => by
    have h1 := rsum_bd hE hx hi j (by omega)
    have h2 := hE (4 * i + j) (by omega)
    have h3 := hx i hi
    have h4 := hx j (by omega)
    have h5 := mul_bd (a := E (4 * i + j)) (b := x i) (A := 99) (B := 15) (by omega) (by omega) (by omega) (by omega)
    have h6 := mul_bd (a := E (4 * i + j) * x i) (b := x j) (A := 1485) (B := 15) (by omega) (by omega) (by omega) (by omega)
    unfold rsum
    omega
theorem qsum_bd {E x : Nat → Int} {n : Nat} (hn : n ≤ 4) (hE : entS E) (hx : ∀ i, i < 4 → 0 ≤ x i ∧ x i < 16) : ∀ i : Nat, i ≤ 4 → -(89100 * (i : Int)) ≤ qsum E x n i ∧ qsum E x n i ≤ 89100 * (i : Int)
  | 0, _ => by simp [qsum]
  | i + 1, hi => by
    have h1 := qsum_bd hn hE hx i (by omega)
    have h2 := rsum_bd hE hx (i := i) (by omega) n hn
    unfold qsum
    omega
theorem qsum_wv {nl : Int} {E : Nat → Int} {x : Nat → Int} (h1 : 1 ≤ nl) (h4 : nl ≤ 4) (hs : symS E) (hz : zeroS nl E) : qsum E x nl.toNat nl.toNat = wv E (x 0, x 1, x 2, x 3) := by
  have z : ∀ i j : Nat, i < 4 → j < 4 → (nl ≤ (i : Int) ∨ nl ≤ (j : Int)) → E (4 * i + j) = 0 := hz
  have s10 := hs 1 0 (by omega) (by omega)
  have s20 := hs 2 0 (by omega) (by omega)
  have s21 := hs 2 1 (by omega) (by omega)
  have s30 := hs 3 0 (by omega) (by omega)
  have s31 := hs 3 1 (by omega) (by omega)
  have s32 := hs 3 2 (by omega) (by omega)
  simp only [Nat.mul_zero, Nat.zero_add, Nat.mul_one, Nat.reduceMul, Nat.reduceAdd] at s10 s20 s21 s30 s31 s32
  unfold wv
  dsimp only
  rcases (show nl = 1 ∨ nl = 2 ∨ nl = 3 ∨ nl = 4 by omega) with e | e | e | e
  · subst e
    have z1 := z 0 1 (by omega) (by omega) (by omega)
    have z2 := z 0 2 (by omega) (by omega) (by omega)
    have z3 := z 0 3 (by omega) (by omega) (by omega)
    have z5 := z 1 1 (by omega) (by omega) (by omega)
    have z6 := z 1 2 (by omega) (by omega) (by omega)
    have z7 := z 1 3 (by omega) (by omega) (by omega)
    have z10 := z 2 2 (by omega) (by omega) (by omega)
    have z11 := z 2 3 (by omega) (by omega) (by omega)
    have z15 := z 3 3 (by omega) (by omega) (by omega)
    simp only [Nat.mul_zero, Nat.zero_add, Nat.mul_one, Nat.reduceMul, Nat.reduceAdd] at z1 z2 z3 z5 z6 z7 z10 z11 z15
    rw [z1, z2, z3, z5, z6, z7, z10, z11, z15]
    simp [qsum, rsum]
  · subst e
    have z2 := z 0 2 (by omega) (by omega) (by omega)
    have z3 := z 0 3 (by omega) (by omega) (by omega)
    have z6 := z 1 2 (by omega) (by omega) (by omega)
    have z7 := z 1 3 (by omega) (by omega) (by omega)
    have z10 := z 2 2 (by omega) (by omega) (by omega)
    have z11 := z 2 3 (by omega) (by omega) (by omega)
    have z15 := z 3 3 (by omega) (by omega) (by omega)
    simp only [Nat.mul_zero, Nat.zero_add, Nat.mul_one, Nat.reduceMul, Nat.reduceAdd] at z2 z3 z6 z7 z10 z11 z15
    rw [z2, z3, z6, z7, z10, z11, z15]
    simp only [Int.reduceToNat, qsum, rsum, Nat.mul_zero, Nat.zero_add, Nat.mul_one, Nat.reduceMul, Nat.reduceAdd, Nat.add_zero]
    rw [s10]; grind
  · subst e
    have z3 := z 0 3 (by omega) (by omega) (by omega)
    have z7 := z 1 3 (by omega) (by omega) (by omega)
    have z11 := z 2 3 (by omega) (by omega) (by omega)
    have z15 := z 3 3 (by omega) (by omega) (by omega)
    simp only [Nat.mul_zero, Nat.zero_add, Nat.mul_one, Nat.reduceMul, Nat.reduceAdd] at z3 z7 z11 z15
    rw [z3, z7, z11, z15]
    simp only [Int.reduceToNat, qsum, rsum, Nat.mul_zero, Nat.zero_add, Nat.mul_one, Nat.reduceMul, Nat.reduceAdd, Nat.add_zero]
    rw [s10, s20, s21]; grind
  · subst e
    simp only [Int.reduceToNat, qsum, rsum, Nat.mul_zero, Nat.zero_add, Nat.mul_one, Nat.reduceMul, Nat.reduceAdd, Nat.add_zero]
    rw [s10, s20, s21, s30, s31, s32]; grind
theorem resS_lt {nl : Int} {E : Nat → Int} {m : Int} (hm : 2 ≤ m ∧ m ≤ 16) (hp : ∀ x, 0 ≤ wv E x) : ∀ k, resS nl E m k < 65536
  | 0 => by simp [resS]
  | k + 1 => by
    unfold resS
    have h1 := resS_lt (nl := nl) hm hp k
    have h2 : ((wv E (dgV nl m k)).tmod m).toNat < 16 := by
      rw [Int.tmod_eq_emod_of_nonneg (hp _)]
      have := Int.emod_lt_of_pos (wv E (dgV nl m k)) (show 0 < m by omega)
      omega
    exact Nat.or_lt_two_pow (n := 16) h1 (Nat.pow_lt_pow_right (by omega) h2)
theorem allS_bd {nl m : Int} (hm : 2 ≤ m ∧ m ≤ 16) : 0 ≤ allS nl m ∧ allS nl m ≤ 65536 := by
  unfold allS
  have a := mul_bd (a := m) (b := m) (A := 16) (B := 16) (by omega) (by omega) (by omega) (by omega)
  have b := mul_bd (a := m * m) (b := m) (A := 256) (B := 16) (by omega) (by omega) (by omega) (by omega)
  have c := mul_bd (a := m * m * m) (b := m) (A := 4096) (B := 16) (by omega) (by omega) (by omega) (by omega)
  have a0 : 0 ≤ m * m := Int.mul_nonneg (by omega) (by omega)
  have b0 : 0 ≤ m * m * m := Int.mul_nonneg a0 (by omega)
  have c0 : 0 ≤ m * m * m * m := Int.mul_nonneg b0 (by omega)
  repeat' split
  all_goals omega
/-- the least modulus from 16 down, k of them, that bars a number; 0: none -/
def barD (f : Int → Nat) (v : Int) : Nat → Int
  | 0 => 0
  | k + 1 => if (f (16 - k)).testBit (v % (16 - k)).toNat then barD f v k else 16 - k
def barS (nl : Int) (E : Nat → Int) (v : Int) : Int := barD (restS nl E) v 15
theorem barD_bd (f : Int → Nat) (v : Int) : ∀ k : Nat, k ≤ 15 → 0 ≤ barD f v k ∧ barD f v k ≤ 16
  | 0, _ => by simp [barD]
  | k + 1, hk => by have := barD_bd f v k (by omega); unfold barD; split <;> omega
def exN (f : Nat → Int) : Nat → Int
  | 0 => 0
  | k + 1 => if f (k + 1) = 0 then exN f k + 1 else exN f k
def exB (f : Nat → Int) (b : Int → Int) : Nat → Int
  | 0 => 0
  | k + 1 => if f (k + 1) = 0 then exB f b k + (if 0 < b ((k + 1 : Nat) : Int) then 1 else 0) else exB f b k
def exG (f : Nat → Int) : Nat → Int
  | 0 => 0
  | k + 1 => if f (k + 1) = 0 then ((k + 1 : Nat) : Int) else exG f k
section Answers3
variable (J : Nat → Nat → Int)
noncomputable def aExceptions (s m w : Int) : Int := cif ((0 ≤ s ∧ s < 6 ∧ 0 < J 44 s.toNat) ∧ (1 ≤ m ∧ m ≤ 100) ∧ 0 ≤ w ∧ w ≤ 2) (if w = 0 then exN (cF (J 44 s.toNat) (eE J s)) m.toNat else if w = 1 then exB (cF (J 44 s.toNat) (eE J s)) (barS (J 44 s.toNat) (eE J s)) m.toNat else exG (cF (J 44 s.toNat) (eE J s)) m.toNat) (-1)
noncomputable def aResidues (s m : Int) : Int := cif ((0 ≤ s ∧ s < 6 ∧ 0 < J 44 s.toNat) ∧ 2 ≤ m ∧ m ≤ 16) ((restS (J 44 s.toNat) (eE J s) m : Nat) : Int) (-1)
noncomputable def aBarred (s v : Int) : Int := cif (0 ≤ s ∧ s < 6 ∧ 0 < J 44 s.toNat) (if barS (J 44 s.toNat) (eE J s) v = 0 then -2 else barS (J 44 s.toNat) (eE J s) v) (-1)
end Answers3
def RS (nl : Int) (E : Nat → Int) (J : Nat → Nat → Int) : Prop := ∀ m : Int, 2 ≤ m → m ≤ 16 → J 55 m.toNat = ((restS nl E m : Nat) : Int)
