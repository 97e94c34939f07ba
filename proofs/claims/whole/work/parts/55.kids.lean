/-! CHILDREN: the rows in turn, those that make a lawful form -/
theorem dnF_cons (a : Int) : ∀ k, dnF a (k + 1) = a :: dnF (a - 1) k
  | 0 => by simp [dnF]
  | k + 1 => by
    have h := dnF_cons a k
    rw [show dnF a (k + 1 + 1) = dnF a (k + 1) ++ [a - ((k + 1 : Nat) : Int)] from rfl, h, show dnF (a - 1) (k + 1) = dnF (a - 1) k ++ [a - 1 - (k : Int)] from rfl]
    rw [show a - ((k + 1 : Nat) : Int) = a - 1 - (k : Int) by omega]
    rfl
def rw2 (x0 x1 a : Int) (k : Nat) : List V4 := (dnF a k).map (fun t => (x0, x1, t, 0))
def rw1 (x0 b2 a : Int) (k : Nat) : List V4 := (dnF a k).flatMap (fun u => rw2 x0 u b2 (2 * b2 + 1).toNat)
def rw0 (b1 b2 a : Int) (k : Nat) : List V4 := (dnF a k).flatMap (fun v => rw1 v b2 b1 (2 * b1 + 1).toNat)
/-- the rows behind one -/
def rAft (b0 b1 b2 x0 x1 x2 : Int) : List V4 := rw2 x0 x1 (x2 - 1) (x2 + b2).toNat ++ (rw1 x0 b2 (x1 - 1) (x1 + b1).toNat ++ rw0 b1 b2 (x0 - 1) (x0 + b0).toNat)
theorem rw2_nil (x0 x1 a : Int) : rw2 x0 x1 a 0 = [] := rfl
theorem rw1_nil (x0 b2 a : Int) : rw1 x0 b2 a 0 = [] := rfl
theorem rw0_nil (b1 b2 a : Int) : rw0 b1 b2 a 0 = [] := rfl
theorem rw2_cons (x0 x1 a : Int) (k : Nat) : rw2 x0 x1 a (k + 1) = (x0, x1, a, 0) :: rw2 x0 x1 (a - 1) k := by unfold rw2; rw [dnF_cons, List.map_cons]
theorem rw1_cons (x0 b2 a : Int) (k : Nat) : rw1 x0 b2 a (k + 1) = rw2 x0 a b2 (2 * b2 + 1).toNat ++ rw1 x0 b2 (a - 1) k := by unfold rw1; rw [dnF_cons, List.flatMap_cons]
theorem rw0_cons (b1 b2 a : Int) (k : Nat) : rw0 b1 b2 a (k + 1) = rw1 a b2 b1 (2 * b1 + 1).toNat ++ rw0 b1 b2 (a - 1) k := by unfold rw0; rw [dnF_cons, List.flatMap_cons]
section Rows
variable {b0 b1 b2 x0 x1 x2 : Int}
theorem rAft_2 (h : -b2 < x2) : rAft b0 b1 b2 x0 x1 x2 = (x0, x1, x2 - 1, 0) :: rAft b0 b1 b2 x0 x1 (x2 - 1) := by
  unfold rAft
  rw [show (x2 + b2).toNat = (x2 - 1 + b2).toNat + 1 by omega, rw2_cons, List.cons_append]
theorem rAft_1 (h2 : x2 = -b2) (hb2 : 0 ≤ b2) (h : -b1 < x1) : rAft b0 b1 b2 x0 x1 x2 = (x0, x1 - 1, b2, 0) :: rAft b0 b1 b2 x0 (x1 - 1) b2 := by
  unfold rAft
  rw [show (x2 + b2).toNat = 0 by omega, rw2_nil, List.nil_append, show (x1 + b1).toNat = (x1 - 1 + b1).toNat + 1 by omega, rw1_cons, show (2 * b2 + 1).toNat = (b2 + b2).toNat + 1 by omega, rw2_cons]
  simp only [List.cons_append, List.append_assoc]
theorem rAft_0 (h2 : x2 = -b2) (hb2 : 0 ≤ b2) (h1 : x1 = -b1) (hb1 : 0 ≤ b1) (h : -b0 < x0) : rAft b0 b1 b2 x0 x1 x2 = (x0 - 1, b1, b2, 0) :: rAft b0 b1 b2 (x0 - 1) b1 b2 := by
  unfold rAft
  rw [show (x2 + b2).toNat = 0 by omega, rw2_nil, List.nil_append, show (x1 + b1).toNat = 0 by omega, rw1_nil, List.nil_append, show (x0 + b0).toNat = (x0 - 1 + b0).toNat + 1 by omega, rw0_cons, show (2 * b1 + 1).toNat = (b1 + b1).toNat + 1 by omega, rw1_cons, show (2 * b2 + 1).toNat = (b2 + b2).toNat + 1 by omega, rw2_cons]
  simp only [List.cons_append, List.append_assoc]
theorem rAft_nil (h2 : x2 = -b2) (h1 : x1 = -b1) (h0 : x0 = -b0) : rAft b0 b1 b2 x0 x1 x2 = [] := by
  unfold rAft
  rw [show (x2 + b2).toNat = 0 by omega, show (x1 + b1).toNat = 0 by omega, show (x0 + b0).toNat = 0 by omega]; rfl
/-- all rows -/
def rAll (b0 b1 b2 : Int) : List V4 := rw0 b1 b2 b0 (2 * b0 + 1).toNat
theorem rAll_cons (h0 : 0 ≤ b0) (h1 : 0 ≤ b1) (h2 : 0 ≤ b2) : rAll b0 b1 b2 = (b0, b1, b2, 0) :: rAft b0 b1 b2 b0 b1 b2 := by
  unfold rAll rAft
  rw [show (2 * b0 + 1).toNat = (b0 + b0).toNat + 1 by omega, rw0_cons, show (2 * b1 + 1).toNat = (b1 + b1).toNat + 1 by omega, rw1_cons, show (2 * b2 + 1).toNat = (b2 + b2).toNat + 1 by omega, rw2_cons]
  simp only [List.cons_append, List.append_assoc]
theorem rw2_len (x0 x1 a : Int) (k : Nat) : (rw2 x0 x1 a k).length = k := by unfold rw2; rw [List.length_map, dnF_len]
theorem rw1_len (x0 b2 : Int) : ∀ (k : Nat) (a : Int), (rw1 x0 b2 a k).length = k * (2 * b2 + 1).toNat
  | 0, a => by rw [rw1_nil]; simp
  | k + 1, a => by rw [rw1_cons, List.length_append, rw2_len, rw1_len x0 b2 k, Nat.succ_mul, Nat.add_comm]
theorem rw0_len (b1 b2 : Int) : ∀ (k : Nat) (a : Int), (rw0 b1 b2 a k).length = k * ((2 * b1 + 1).toNat * (2 * b2 + 1).toNat)
  | 0, a => by rw [rw0_nil]; simp
  | k + 1, a => by rw [rw0_cons, List.length_append, rw1_len, rw0_len b1 b2 k, Nat.succ_mul, Nat.add_comm]
theorem rAll_len (h0 : b0 ≤ 99) (h1 : b1 ≤ 99) (h2 : b2 ≤ 99) : (rAll b0 b1 b2).length ≤ 7880599 := by
  unfold rAll
  rw [rw0_len]
  have a := Nat.mul_le_mul (show (2 * b1 + 1).toNat ≤ 199 by omega) (show (2 * b2 + 1).toNat ≤ 199 by omega)
  exact Nat.mul_le_mul (show (2 * b0 + 1).toNat ≤ 199 by omega) a
end Rows
noncomputable def lawb (nl : Int) (E : Nat → Int) : Bool := @decide (lawS nl E) (Classical.propDecidable _)
theorem lawb_t {nl : Int} {E : Nat → Int} (h : lawS nl E) : lawb nl E = true := by unfold lawb; exact @decide_eq_true _ (Classical.propDecidable _) h
theorem lawb_f {nl : Int} {E : Nat → Int} (h : ¬ lawS nl E) : lawb nl E = false := by unfold lawb; exact @decide_eq_false _ (Classical.propDecidable _) h
theorem lawb_of {nl : Int} {E : Nat → Int} (h : lawb nl E = true) : lawS nl E := by unfold lawb at h; exact @of_decide_eq_true _ (Classical.propDecidable _) h
/-- a form with a letter more -/
def chR (nl : Nat) (E : Nat → Int) (x : V4) : Nat → Nat → Int
  | 0 => E
  | i + 1 => setE (chR nl E x i) nl i (vAt x i)
def chE (nl : Nat) (E : Nat → Int) (t : Int) (x : V4) : Nat → Int := setE (chR nl E x nl) nl nl t
def bndC (nl : Int) (E : Nat → Int) (t : Int) (i : Nat) : Int := if (i : Int) < nl then (if 99 < rootQ (E (5 * i) * t) then 99 else rootQ (E (5 * i) * t)) else 0
theorem bndC_bd (nl : Int) (E : Nat → Int) (t : Int) (i : Nat) : 0 ≤ bndC nl E t i ∧ bndC nl E t i ≤ 99 := by
  have := rootQ_bd (E (5 * i) * t)
  unfold bndC; split
  · split <;> omega
  · omega
noncomputable def kidF (nl : Int) (E : Nat → Int) (t : Int) (L : List V4) : List V4 := L.filter (fun x => lawb (nl + 1) (chE nl.toNat E t x))
noncomputable def kids (nl : Int) (E : Nat → Int) : List V4 := kidF nl E (truF nl E) (rAll (bndC nl E (truF nl E) 0) (bndC nl E (truF nl E) 1) (bndC nl E (truF nl E) 2))
/-- why there are no children; 0: there may be -/
def grow (nl : Int) (E : Nat → Int) : Int := if truF nl E = 0 then -3 else if nl = 4 then -4 else 0
theorem kids_len (nl : Int) (E : Nat → Int) : (kids nl E).length ≤ 7880599 := by
  unfold kids kidF
  exact Nat.le_trans (List.length_filter_le _ _) (rAll_len (bndC_bd _ _ _ _).2 (bndC_bd _ _ _ _).2 (bndC_bd _ _ _ _).2)
noncomputable def kidE (nl : Int) (E : Nat → Int) (k : Int) : Nat → Int := chE nl.toNat E (truF nl E) ((kids nl E)[k.toNat]?.getD (0, 0, 0, 0))
noncomputable def kidL (nl : Int) (E : Nat → Int) (x : V4) : Int := glD (cF (nl + 1) (chE nl.toNat E (truF nl E) x)) 9
/-- the next ones: how many claims, the greatest lack, the first claim -/
noncomputable def nxC (f : V4 → Int) : List V4 → Int
  | [] => 0
  | x :: L => (if f x = 0 then 1 else 0) + nxC f L
noncomputable def nxG (f : V4 → Int) : List V4 → Int → Int
  | [], m => m
  | x :: L, m => nxG f L (if m < f x then f x else m)
noncomputable def nxF (f : V4 → Int) : List V4 → Int → Int → Int
  | [], _, r => r
  | x :: L, k, r => nxF f L (k + 1) (if f x = 0 ∧ r < 0 then k else r)
noncomputable def nxL (nl : Int) (E : Nat → Int) (k : Int) : List V4 := ((kids nl E).drop k.toNat).take 64
def jbranch (J : Nat → Nat → Int) (x k nl : Int) (E : Nat → Int) : Nat → Nat → Int := zup (zup (zup (jput J (6 + J 42 2).toNat nl E) 45 (J 42 2).toNat x) 46 (J 42 2).toNat k) 42 2 (J 42 2 + 1)
section Answers7
variable (J : Nat → Nat → Int)
noncomputable def aChildren (s : Int) : Int := cif (0 ≤ s ∧ s < 6 ∧ 0 < J 44 s.toNat) (if grow (J 44 s.toNat) (eE J s) = 0 then ((kids (J 44 s.toNat) (eE J s)).length : Int) else grow (J 44 s.toNat) (eE J s)) (-1)
noncomputable def aChild (s k t : Int) : Int × (Nat → Nat → Int) := cif ((0 ≤ s ∧ s < 6 ∧ 0 < J 44 s.toNat) ∧ 0 ≤ t ∧ t < 6) (cif (grow (J 44 s.toNat) (eE J s) = 0) (cif (0 ≤ k ∧ k < ((kids (J 44 s.toNat) (eE J s)).length : Int)) (detS (kidE (J 44 s.toNat) (eE J s) k) (J 44 s.toNat + 1) (-1), jput J t.toNat (J 44 s.toNat + 1) (kidE (J 44 s.toNat) (eE J s) k)) (-2, J)) (grow (J 44 s.toNat) (eE J s), J)) (-1, J)
noncomputable def aNext (s k w : Int) : Int := cif ((0 ≤ s ∧ s < 6 ∧ 0 < J 44 s.toNat) ∧ 0 ≤ k ∧ 0 ≤ w ∧ w ≤ 3) (if grow (J 44 s.toNat) (eE J s) = 0 then (if w = 0 then ((nxL (J 44 s.toNat) (eE J s) k).length : Int) else if w = 1 then nxC (kidL (J 44 s.toNat) (eE J s)) (nxL (J 44 s.toNat) (eE J s) k) else if w = 2 then nxG (kidL (J 44 s.toNat) (eE J s)) (nxL (J 44 s.toNat) (eE J s) k) 0 else nxF (kidL (J 44 s.toNat) (eE J s)) (nxL (J 44 s.toNat) (eE J s) k) k (-2)) else grow (J 44 s.toNat) (eE J s)) (-1)
noncomputable def aBranch (x k : Int) : Int × (Nat → Nat → Int) := cif (0 ≤ x ∧ x < J 42 2) (cif (grow (J 44 (6 + x).toNat) (eE J (6 + x)) = 0) (cif (J 42 2 = 30) (-4, J) (cif (0 ≤ k ∧ k < ((kids (J 44 (6 + x).toNat) (eE J (6 + x))).length : Int)) (J 42 2, jbranch J x k (J 44 (6 + x).toNat + 1) (kidE (J 44 (6 + x).toNat) (eE J (6 + x)) k)) (-2, J))) (grow (J 44 (6 + x).toNat) (eE J (6 + x)), J)) (-1, J)
end Answers7
/-- the rows that are still to come -/
def RowSt (J : Nat → Nat → Int) (rest : List V4) : Prop := (∀ i, i < 3 → 0 ≤ J 57 i ∧ J 57 i ≤ 99 ∧ -(J 57 i) ≤ J 58 i ∧ J 58 i ≤ J 57 i) ∧
  ((J 42 26 = 1 ∧ rest = (J 58 0, J 58 1, J 58 2, 0) :: rAft (J 57 0) (J 57 1) (J 57 2) (J 58 0) (J 58 1) (J 58 2)) ∨ (J 42 26 = 0 ∧ rest = rAft (J 57 0) (J 57 1) (J 57 2) (J 58 0) (J 58 1) (J 58 2)))
/-- what may change while children are gone through -/
def offK (J J' : Nat → Nat → Int) : Prop := (∀ a, a ≠ 42 → a ≠ 43 → a ≠ 44 → a ≠ 58 → a ≠ 52 → a ≠ 54 → J' a = J a) ∧ (∀ q, q < 1152 → J' 43 q = J 43 q) ∧ (∀ q, q < 72 → J' 44 q = J 44 q) ∧ (∀ q, q ≠ 26 → q ≠ 17 → q ≠ 18 → q ≠ 19 → J' 42 q = J 42 q)
theorem offK_refl (J : Nat → Nat → Int) : offK J J := ⟨fun _ _ _ _ _ _ _ => rfl, fun _ _ => rfl, fun _ _ => rfl, fun _ _ _ _ _ => rfl⟩
theorem offK_trans {J J1 J2 : Nat → Nat → Int} (h : offK J J1) (h2 : offK J1 J2) : offK J J2 := ⟨fun a a1 a2 a3 a4 a5 a6 => (h2.1 a a1 a2 a3 a4 a5 a6).trans (h.1 a a1 a2 a3 a4 a5 a6), fun q hq => (h2.2.1 q hq).trans (h.2.1 q hq), fun q hq => (h2.2.2.1 q hq).trans (h.2.2.1 q hq), fun q q1 q2 q3 q4 => (h2.2.2.2 q q1 q2 q3 q4).trans (h.2.2.2 q q1 q2 q3 q4)⟩
theorem offK_C {J J' : Nat → Nat → Int} (h : offC J J') : offK J J' := ⟨fun a a1 _ _ _ a5 a6 => h.1 a a1 a5 a6, fun q _ => by rw [h.1 43 (by decide) (by decide) (by decide)], fun q _ => by rw [h.1 44 (by decide) (by decide) (by decide)], fun q _ q2 q3 q4 => h.2 q q2 q3 q4⟩
theorem pq_offK {J J' : Nat → Nat → Int} (h : offK J J') : pq J J' := ⟨h.2.1, h.2.2.1, fun a ha => h.1 a (by intro e; subst e; exact absurd ha (by decide)) (by intro e; subst e; exact absurd ha (by decide)) (by intro e; subst e; exact absurd ha (by decide)) (by intro e; subst e; exact absurd ha (by decide)) (by intro e; subst e; exact absurd ha (by decide)) (by intro e; subst e; exact absurd ha (by decide)), h.2.2.2 2 (by decide) (by decide) (by decide) (by decide), h.2.2.2 5 (by decide) (by decide) (by decide) (by decide), h.2.2.2 8 (by decide) (by decide) (by decide) (by decide)⟩
theorem offK_eE {J J' : Nat → Nat → Int} (h : offK J J') {p : Int} (hp : p < 72) {k : Nat} (hk : k < 16) : eE J' p k = eE J p k := by unfold eE; exact h.2.1 _ (by omega)
theorem offK_new {J : Nat → Nat → Int} {nl : Int} {E : Nat → Int} : offK J (jput J 72 nl E) := ⟨fun a _ a2 a3 _ _ _ => jput_off a2 a3, fun q hq => jput_43 (by omega), fun q hq => jput_let_ne (by omega), fun q _ _ _ _ => by rw [jput_off (by decide) (by decide)]⟩
