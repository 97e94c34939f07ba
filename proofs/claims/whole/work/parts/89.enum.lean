/-! ENUMERATION: whole vectors, a letter inside the other, from the greatest down -/
def upx (x : Nat → Int) (k : Nat) (t : Int) : Nat → Int := fun j => if j = k then t else x j
theorem upx_eq (x : Nat → Int) (k : Nat) (t : Int) : upx x k t k = t := by unfold upx; rw [if_pos rfl]
theorem upx_ne {x : Nat → Int} {k j : Nat} {t : Int} (h : j ≠ k) : upx x k t j = x j := by unfold upx; rw [if_neg h]
def tupN (n : Nat) (x : Nat → Int) : V4 := (x 0, if 1 < n then x 1 else 0, if 2 < n then x 2 else 0, if 3 < n then x 3 else 0)
def smS (sl : Nat → Nat → Int) (x : Nat → Int) (k : Nat) : Nat → Int
  | 0 => 0
  | j + 1 => smS sl x k j + sl k j * x j
def rtX (v : Int) : Int := rootB 31 0 v
theorem rtX_spec {v : Int} (h0 : 0 ≤ v) (h1 : v < 4611686018427387904) : 0 ≤ rtX v ∧ rtX v * rtX v ≤ v ∧ v < (rtX v + 1) * (rtX v + 1) := rootB_spec 31 0 v (by omega) (by omega) (by simp; omega)
/-- what an enumeration is made of: letters, strict or not, half or not, slopes, outer, left, bounds -/
abbrev EP : Type := Nat × Int × Int × (Nat → Nat → Int) × (Nat → Int) × (Nat → (Nat → Int) → Int) × (Nat → Int)
def EP.n (e : EP) : Nat := e.1
def EP.st (e : EP) : Int := e.2.1
def EP.hf (e : EP) : Int := e.2.2.1
def EP.sl (e : EP) : Nat → Nat → Int := e.2.2.2.1
def EP.ou (e : EP) : Nat → Int := e.2.2.2.2.1
def EP.lf (e : EP) : Nat → (Nat → Int) → Int := e.2.2.2.2.2.1
def EP.mx (e : EP) : Nat → Int := e.2.2.2.2.2.2
def EP.sm (e : EP) (k : Nat) (x : Nat → Int) : Int := smS e.sl x k k
def EP.rt (e : EP) (k : Nat) (x : Nat → Int) : Int := rtX (e.ou k * e.lf k x - e.st)
def EP.hi (e : EP) (k : Nat) (x : Nat → Int) : Int := (e.rt k x - e.sm k x) / e.sl k k
def EP.lo (e : EP) (k : Nat) (x : Nat → Int) : Int := if e.hf = 1 ∧ ∀ j, j < k → x j = 0 then 0 else -((e.rt k x + e.sm k x) / e.sl k k)
def EP.en (e : EP) : Nat → (Nat → Int) → List V4
  | 0, x => [tupN e.n x]
  | d + 1, x => (dnF (e.hi (e.n - 1 - d) x) (e.hi (e.n - 1 - d) x - e.lo (e.n - 1 - d) x + 1).toNat).flatMap (fun t => e.en d (upx x (e.n - 1 - d) t))
/-- what is still to come at levels below k -/
def EP.rs (e : EP) (x low : Nat → Int) : Nat → List V4
  | 0 => []
  | k + 1 => (dnF (x k - 1) (x k - low k).toNat).flatMap (fun t => e.en (e.n - 1 - k) (upx x k t)) ++ e.rs x low k
def EP.wt (e : EP) : Nat → Int
  | 0 => 0
  | d + 1 => 2 + (2 * e.mx (e.n - 1 - d) + 1) * e.wt d
def EP.pt (e : EP) (x low : Nat → Int) : Nat → Int
  | 0 => 0
  | k + 1 => e.pt x low k + max 0 (x k - low k) * e.wt (e.n - 1 - k)
def EP.pm (e : EP) : Nat → Int
  | 0 => 0
  | k + 1 => e.pm k + (2 * e.mx k + 1) * e.wt (e.n - 1 - k)
/-- an enumeration that goes well -/
def EP.ok (e : EP) : Prop :=
  (1 ≤ e.n ∧ e.n ≤ 4) ∧ (e.st = 0 ∨ e.st = 1) ∧ (e.hf = 0 ∨ e.hf = 1) ∧ (∀ k, k < e.n → (1 ≤ e.sl k k) ∧ (1 ≤ e.ou k ∧ e.ou k ≤ 1000000) ∧ (0 ≤ e.mx k ∧ e.mx k ≤ 1000000)) ∧ (∀ k j, k < e.n → j ≤ k → -100000000 ≤ e.sl k j ∧ e.sl k j ≤ 100000000) ∧
  (∀ k x, k < e.n → e.sl k k * e.lf (k + 1) x = e.ou k * e.lf k x - (e.sl k k * x k + e.sm k x) * (e.sl k k * x k + e.sm k x)) ∧ (∀ k x y, k ≤ e.n → (∀ j, j < k → x j = y j) → e.lf k x = e.lf k y) ∧ (∀ k x, k ≤ e.n → e.lf k x ≤ 100000000000) ∧
  (∀ k x v, k < e.n → e.st ≤ e.lf k x → v * v ≤ e.ou k * e.lf k x - e.st → -((e.mx k + 1) * e.sl k k) < v - e.sm k x ∧ v - e.sm k x < (e.mx k + 1) * e.sl k k) ∧ e.pm e.n + e.n ≤ 3999998
section Enum
variable {e : EP} {x y low : Nat → Int} {k : Nat}
theorem smS_cg {sl : Nat → Nat → Int} : ∀ j : Nat, (∀ i, i < j → x i = y i) → smS sl x k j = smS sl y k j
  | 0, _ => rfl
  | j + 1, h => by unfold smS; rw [smS_cg j (fun i hi => h i (by omega)), h j (by omega)]
theorem en_hi (h : e.ok) (hk : k < e.n) (hxy : ∀ j, j < k → x j = y j) : e.hi k x = e.hi k y ∧ e.lo k x = e.lo k y ∧ e.sm k x = e.sm k y ∧ e.rt k x = e.rt k y := by
  have e1 := h.2.2.2.2.2.2.1 k x y (by omega) hxy
  have e2 : e.sm k x = e.sm k y := smS_cg k hxy
  have e3 : e.rt k x = e.rt k y := by unfold EP.rt; rw [e1]
  refine ⟨by unfold EP.hi; rw [e2, e3], ?_, e2, e3⟩
  unfold EP.lo
  rw [e2, e3]
  have : (e.hf = 1 ∧ ∀ j, j < k → x j = 0) ↔ (e.hf = 1 ∧ ∀ j, j < k → y j = 0) := by
    constructor
    · exact fun z => ⟨z.1, fun j hj => by rw [← hxy j hj]; exact z.2 j hj⟩
    · exact fun z => ⟨z.1, fun j hj => by rw [hxy j hj]; exact z.2 j hj⟩
  exact ifc this
theorem tupN_cg {n : Nat} (h1 : 1 ≤ n) (h : ∀ j, j < n → x j = y j) : tupN n x = tupN n y := by
  unfold tupN
  rw [h 0 (by omega)]
  have a1 : (if 1 < n then x 1 else 0) = (if 1 < n then y 1 else 0) := by split; exact h 1 (by omega); rfl
  have a2 : (if 2 < n then x 2 else 0) = (if 2 < n then y 2 else 0) := by split; exact h 2 (by omega); rfl
  have a3 : (if 3 < n then x 3 else 0) = (if 3 < n then y 3 else 0) := by split; exact h 3 (by omega); rfl
  rw [a1, a2, a3]
theorem en_cg (h : e.ok) : ∀ (d : Nat) (x y : Nat → Int), d ≤ e.n → (∀ j, j < e.n - d → x j = y j) → e.en d x = e.en d y
  | 0, x, y, _, hxy => by unfold EP.en; rw [tupN_cg h.1.1 (fun j hj => hxy j (by omega))]
  | d + 1, x, y, hd, hxy => by
    have hh := en_hi (k := e.n - 1 - d) h (by omega) (fun j hj => hxy j (by omega))
    unfold EP.en
    rw [hh.1, hh.2.1]
    congr 1
    funext t
    refine en_cg h d _ _ (by omega) (fun j hj => ?_)
    unfold upx
    split
    · rfl
    · exact hxy j (by omega)
theorem rs_cg (h : e.ok) {low' : Nat → Int} : ∀ k : Nat, k ≤ e.n → (∀ j, j < k → x j = y j ∧ low j = low' j) → e.rs x low k = e.rs y low' k
  | 0, _, _ => rfl
  | k + 1, hk, hxy => by
    unfold EP.rs
    rw [rs_cg h k (by omega) (fun j hj => hxy j (by omega)), (hxy k (by omega)).1, (hxy k (by omega)).2]
    congr 2
    funext t
    refine en_cg h _ _ _ (by omega) (fun j hj => ?_)
    unfold upx
    split
    · rfl
    · exact (hxy j (by omega)).1
/-- nothing left at a level -/
theorem rs_up (h : x k ≤ low k) : e.rs x low (k + 1) = e.rs x low k := by
  show (dnF (x k - 1) (x k - low k).toNat).flatMap _ ++ e.rs x low k = _
  rw [show (x k - low k).toNat = 0 by omega]; rfl
/-- the next number of a level -/
theorem rs_dec (h : e.ok) (hk : k < e.n) (hx : low k < x k) : e.rs x low (k + 1) = e.en (e.n - 1 - k) (upx x k (x k - 1)) ++ e.rs (upx x k (x k - 1)) low (k + 1) := by
  show (dnF (x k - 1) (x k - low k).toNat).flatMap _ ++ e.rs x low k = _ ++ ((dnF (upx x k (x k - 1) k - 1) (upx x k (x k - 1) k - low k).toNat).flatMap _ ++ e.rs (upx x k (x k - 1)) low k)
  rw [show (x k - low k).toNat = (x k - 1 - low k).toNat + 1 by omega, dnF_cons, List.flatMap_cons, upx_eq, List.append_assoc]
  rw [rs_cg (x := upx x k (x k - 1)) (y := x) (low' := low) h k (by omega) (fun j hj => ⟨upx_ne (by omega), rfl⟩)]
  congr 2
  have : (fun t => e.en (e.n - 1 - k) (upx x k t)) = (fun t => e.en (e.n - 1 - k) (upx (upx x k (x k - 1)) k t)) := by
    funext t
    refine en_cg h _ _ _ (by omega) (fun j hj => ?_)
    unfold upx; split <;> rfl
  rw [this]
/-- a level is entered -/
theorem rs_enter (h : e.ok) (hk : k + 1 < e.n) : e.rs (upx x (k + 1) (e.hi (k + 1) x + 1)) (upx low (k + 1) (e.lo (k + 1) x)) (k + 2) = e.en (e.n - 1 - k) x ++ e.rs x low (k + 1) := by
  show (dnF (upx x (k + 1) (e.hi (k + 1) x + 1) (k + 1) - 1) (upx x (k + 1) (e.hi (k + 1) x + 1) (k + 1) - upx low (k + 1) (e.lo (k + 1) x) (k + 1)).toNat).flatMap _ ++ e.rs (upx x (k + 1) (e.hi (k + 1) x + 1)) (upx low (k + 1) (e.lo (k + 1) x)) (k + 1) = _
  rw [upx_eq, upx_eq, rs_cg (y := x) (low' := low) h (k + 1) (by omega) (fun j hj => ⟨upx_ne (by omega), upx_ne (by omega)⟩)]
  congr 1
  rw [show e.n - 1 - k = (e.n - 1 - (k + 1)) + 1 by omega]
  show _ = (dnF (e.hi (e.n - 1 - (e.n - 1 - (k + 1))) x) _).flatMap _
  rw [show e.n - 1 - (e.n - 1 - (k + 1)) = k + 1 by omega, show e.hi (k + 1) x + 1 - 1 = e.hi (k + 1) x by omega, show e.hi (k + 1) x + 1 - e.lo (k + 1) x = e.hi (k + 1) x - e.lo (k + 1) x + 1 by omega]
  congr 1
  funext t
  refine en_cg h _ _ _ (by omega) (fun j hj => ?_)
  unfold upx; split <;> (try rfl)
theorem rs_first (h : e.ok) : e.rs (upx x 0 (e.hi 0 x + 1)) (upx low 0 (e.lo 0 x)) 1 = e.en e.n x := by
  show (dnF (upx x 0 (e.hi 0 x + 1) 0 - 1) (upx x 0 (e.hi 0 x + 1) 0 - upx low 0 (e.lo 0 x) 0).toNat).flatMap _ ++ [] = _
  have h1 := h.1.1
  rw [upx_eq, upx_eq, List.append_nil, show e.n = (e.n - 1) + 1 by omega]
  show _ = (dnF (e.hi (e.n - 1 - (e.n - 1)) x) _).flatMap _
  rw [show e.n - 1 - (e.n - 1) = 0 by omega, show e.hi 0 x + 1 - 1 = e.hi 0 x by omega, show e.hi 0 x + 1 - e.lo 0 x = e.hi 0 x - e.lo 0 x + 1 by omega]
  congr 1
  funext t
  rw [show e.n - 1 + 1 - 1 - 0 = e.n - 1 by omega]
  refine en_cg h _ _ _ (by omega) (fun j hj => ?_)
  unfold upx; split <;> (try rfl)
theorem en_zero : e.en 0 x = [tupN e.n x] := rfl
/-- bounds of a level: roots, sums, the first and the last number -/
theorem lv_bd (h : e.ok) (hk : k < e.n) (hl : e.st ≤ e.lf k x) : (0 ≤ e.ou k * e.lf k x - e.st ∧ e.ou k * e.lf k x - e.st ≤ 100000000000000000) ∧ (0 ≤ e.rt k x ∧ e.rt k x * e.rt k x ≤ e.ou k * e.lf k x - e.st ∧ e.ou k * e.lf k x - e.st < (e.rt k x + 1) * (e.rt k x + 1)) ∧ (-((e.mx k + 1) * e.sl k k) < e.sm k x ∧ e.sm k x < (e.mx k + 1) * e.sl k k) ∧ (-(e.mx k + 1) ≤ e.hi k x ∧ e.hi k x ≤ e.mx k) ∧ (-(e.mx k) ≤ e.lo k x ∧ e.lo k x ≤ e.mx k + 1) := by
  have hb := h.2.2.2.1 k hk
  have hs := h.2.1
  have hle := h.2.2.2.2.2.2.2.1 k x (by omega)
  have v0 : 0 ≤ e.ou k * e.lf k x - e.st := by
    rcases hs with s | s
    · rw [s] at hl ⊢; have := Int.mul_nonneg (show 0 ≤ e.ou k by omega) hl; omega
    · rw [s] at hl ⊢; have := Int.mul_le_mul (show 1 ≤ e.ou k by omega) hl (by omega) (by omega); omega
  have v1 : e.ou k * e.lf k x ≤ 1000000 * 100000000000 := Int.mul_le_mul hb.2.1.2 hle (by omega) (by omega)
  have r := rtX_spec (v := e.ou k * e.lf k x - e.st) v0 (by omega)
  have r' : 0 ≤ e.rt k x ∧ e.rt k x * e.rt k x ≤ e.ou k * e.lf k x - e.st ∧ e.ou k * e.lf k x - e.st < (e.rt k x + 1) * (e.rt k x + 1) := r
  have bx := h.2.2.2.2.2.2.2.2.1 k x
  have b0 := bx 0 hk hl (by omega)
  have b1 := bx (e.rt k x) hk hl r'.2.1
  have b2 := bx (-(e.rt k x)) hk hl (by rw [Int.neg_mul_neg]; exact r'.2.1)
  have hp : 0 < e.sl k k := by omega
  have n1 : (-(e.mx k + 1)) * e.sl k k = -((e.mx k + 1) * e.sl k k) := Int.neg_mul _ _
  have hi1 : -(e.mx k + 1) ≤ e.hi k x := by
    unfold EP.hi; rw [Int.le_ediv_iff_mul_le hp]; omega
  have hi2 : e.hi k x < e.mx k + 1 := by
    unfold EP.hi; exact Int.ediv_lt_of_lt_mul hp (by omega)
  have lo1 : -(e.mx k + 1) ≤ (e.rt k x + e.sm k x) / e.sl k k := by rw [Int.le_ediv_iff_mul_le hp]; omega
  have lo2 : (e.rt k x + e.sm k x) / e.sl k k < e.mx k + 1 := Int.ediv_lt_of_lt_mul hp (by omega)
  refine ⟨⟨v0, by omega⟩, r', by omega, by omega, ?_⟩
  unfold EP.lo
  split <;> omega
theorem sq_abs {v r a : Int} (hr : 0 ≤ r) (h1 : r * r ≤ v) (h2 : v < (r + 1) * (r + 1)) : a * a ≤ v ↔ (-r ≤ a ∧ a ≤ r) := by
  constructor
  · intro h
    constructor
    · have := sq_le (a := -a) (b := r)
      by_cases g : a < 0
      · have := sq_le (a := -a) (b := r) (by omega) hr (by rw [Int.neg_mul_neg]; omega)
        omega
      · omega
    · by_cases g : 0 ≤ a
      · exact sq_le g hr (by omega)
      · omega
  · intro ⟨h3, h4⟩
    have := mul_bd (a := a) (b := a) (A := r) (B := r) h3 h4 h3 h4
    omega
/-- which numbers a level goes through -/
theorem lv_in (h : e.ok) (hk : k < e.n) (hl : e.st ≤ e.lf k x) (t : Int) : (-((e.rt k x + e.sm k x) / e.sl k k) ≤ t ∧ t ≤ e.hi k x) ↔ e.st ≤ e.lf (k + 1) (upx x k t) := by
  have b := lv_bd h hk hl
  have hb := h.2.2.2.1 k hk
  have hp : 0 < e.sl k k := by omega
  have id := h.2.2.2.2.2.1 k (upx x k t) hk
  have cg := en_hi (x := upx x k t) (y := x) h hk (fun j hj => upx_ne (by omega))
  have lc := h.2.2.2.2.2.2.1 k (upx x k t) x (by omega) (fun j hj => upx_ne (by omega))
  rw [upx_eq, cg.2.2.1, lc] at id
  have sa := sq_abs (a := e.sl k k * t + e.sm k x) b.2.1.1 b.2.1.2.1 b.2.1.2.2
  have k1 : t ≤ e.hi k x ↔ e.sl k k * t + e.sm k x ≤ e.rt k x := by
    unfold EP.hi; rw [Int.le_ediv_iff_mul_le hp, Int.mul_comm]; omega
  have k2 : -((e.rt k x + e.sm k x) / e.sl k k) ≤ t ↔ -(e.rt k x) ≤ e.sl k k * t + e.sm k x := by
    have : -t ≤ (e.rt k x + e.sm k x) / e.sl k k ↔ (-t) * e.sl k k ≤ e.rt k x + e.sm k x := Int.le_ediv_iff_mul_le hp
    rw [Int.neg_mul, Int.mul_comm] at this
    omega
  rw [k1, k2, ← sa]
  have hs := h.2.1
  constructor
  · intro z
    have z2 : e.st ≤ e.sl k k * e.lf (k + 1) (upx x k t) := by omega
    by_cases g : e.st ≤ e.lf (k + 1) (upx x k t)
    · exact g
    · exfalso
      rcases hs with s | s
      · rw [s] at z2 g
        have := Int.mul_le_mul_of_nonneg_left (show e.lf (k + 1) (upx x k t) ≤ -1 by omega) (show 0 ≤ e.sl k k by omega)
        omega
      · rw [s] at z2 g
        have := Int.mul_le_mul_of_nonneg_left (show e.lf (k + 1) (upx x k t) ≤ 0 by omega) (show 0 ≤ e.sl k k by omega)
        omega
  · intro z
    have := Int.mul_le_mul_of_nonneg_left z (show 0 ≤ e.sl k k by omega)
    rcases hs with s | s
    · rw [s] at this ⊢; omega
    · rw [s] at this ⊢; omega
theorem lv_box (h : e.ok) (hk : k < e.n) (hl : e.st ≤ e.lf k x) {t : Int} (ht : e.st ≤ e.lf (k + 1) (upx x k t)) : -(e.mx k) ≤ t ∧ t ≤ e.mx k := by
  have b := lv_bd h hk hl
  have i := (lv_in h hk hl t).mpr ht
  have hb := h.2.2.2.1 k hk
  have hp : 0 < e.sl k k := by omega
  have bx := h.2.2.2.2.2.2.2.2.1 k x (-(e.rt k x)) hk hl (by rw [Int.neg_mul_neg]; exact b.2.1.2.1)
  have lo2 : (e.rt k x + e.sm k x) / e.sl k k < e.mx k + 1 := Int.ediv_lt_of_lt_mul hp (by omega)
  omega
theorem wt_nn (h : e.ok) : ∀ d : Nat, d + 1 ≤ e.n → 0 ≤ e.wt d
  | 0, _ => Int.le_refl _
  | d + 1, hd => by
    have := wt_nn h d (by omega)
    have hb := h.2.2.2.1 (e.n - 1 - d) (by omega)
    unfold EP.wt
    have := Int.mul_nonneg (show 0 ≤ 2 * e.mx (e.n - 1 - d) + 1 by omega) this
    omega
theorem pt_cg {low' : Nat → Int} : ∀ k : Nat, (∀ j, j < k → x j = y j ∧ low j = low' j) → e.pt x low k = e.pt y low' k
  | 0, _ => rfl
  | k + 1, h => by unfold EP.pt; rw [pt_cg k (fun j hj => h j (by omega)), (h k (by omega)).1, (h k (by omega)).2]
theorem pt_bd (h : e.ok) : ∀ k : Nat, k ≤ e.n → (∀ j, j < k → x j - low j ≤ 2 * e.mx j + 1) → 0 ≤ e.pt x low k ∧ e.pt x low k ≤ e.pm k
  | 0, _, _ => ⟨Int.le_refl _, Int.le_refl _⟩
  | k + 1, hk, hx => by
    have i := pt_bd h k (by omega) (fun j hj => hx j (by omega))
    have w := wt_nn h (e.n - 1 - k) (by omega)
    have hb := h.2.2.2.1 k (by omega)
    have hxk := hx k (by omega)
    unfold EP.pt EP.pm
    have m1 := Int.mul_le_mul_of_nonneg_right (show max 0 (x k - low k) ≤ 2 * e.mx k + 1 by omega) w
    have m2 := Int.mul_nonneg (show 0 ≤ max 0 (x k - low k) by omega) w
    omega
theorem pm_mono (h : e.ok) : ∀ (d k : Nat), k + d ≤ e.n → e.pm k ≤ e.pm (k + d)
  | 0, _, _ => Int.le_refl _
  | d + 1, k, hk => by
    have i := pm_mono h d k (by omega)
    have w := wt_nn h (e.n - 1 - (k + d)) (by omega)
    have hb := h.2.2.2.1 (k + d) (by omega)
    have m2 := Int.mul_nonneg (show 0 ≤ 2 * e.mx (k + d) + 1 by omega) w
    rw [← Nat.add_assoc]
    show e.pm k ≤ e.pm (k + d) + (2 * e.mx (k + d) + 1) * e.wt (e.n - 1 - (k + d))
    omega
end Enum
