/-! THE TREE: ways up, heights, leaves, the walk, the cut -/
def cnt (p : Nat → Bool) : Nat → Int
  | 0 => 0
  | k + 1 => cnt p k + (if p k then 1 else 0)
theorem cnt_bd (p : Nat → Bool) : ∀ k : Nat, 0 ≤ cnt p k ∧ cnt p k ≤ k
  | 0 => by simp [cnt]
  | k + 1 => by have := cnt_bd p k; unfold cnt; split <;> omega
theorem cnt_none {p : Nat → Bool} : ∀ {k : Nat}, (∀ i, i < k → p i = false) → cnt p k = 0
  | 0, _ => rfl
  | k + 1, h => by unfold cnt; rw [cnt_none (fun i hi => h i (by omega)), h k (by omega)]; rfl
theorem cnt_congr {p q : Nat → Bool} : ∀ {k : Nat}, (∀ i, i < k → p i = q i) → cnt p k = cnt q k
  | 0, _ => rfl
  | k + 1, h => by unfold cnt; rw [cnt_congr (fun i hi => h i (by omega)), h k (by omega)]
/-- counting from a place on -/
theorem cnt_from {p q r : Nat → Bool} {c : Bool} {a : Nat} : ∀ {k : Nat}, a ≤ k → (∀ i, a ≤ i → i < k → (if p i then (1 : Int) else 0) = (if q i then 1 else 0) + (if c then (if r i then 1 else 0) else 0)) → cnt p k - cnt p a = cnt q k - cnt q a + (if c then cnt r k - cnt r a else 0)
  | 0, h, _ => by have : a = 0 := by omega
                  subst this; cases c <;> simp
  | k + 1, h, hi => by
    by_cases e : a = k + 1
    · subst e; cases c <;> simp
    · have h1 := cnt_from (k := k) (a := a) (p := p) (q := q) (r := r) (c := c) (by omega) (fun i a1 a2 => hi i a1 (by omega))
      have h2 := hi k (by omega) (by omega)
      rw [show cnt p (k + 1) = cnt p k + (if p k then 1 else 0) from rfl, show cnt q (k + 1) = cnt q k + (if q k then 1 else 0) from rfl, show cnt r (k + 1) = cnt r k + (if r k then 1 else 0) from rfl]
      cases c <;> simp at * <;> omega
section Climb
variable {un : Nat → Int} {nd : Int}
def okU (nd : Int) (un : Nat → Int) : Prop := 0 ≤ nd ∧ nd ≤ 30 ∧ (0 < nd → un 0 = -2) ∧ (∀ k : Nat, 1 ≤ k → (k : Int) < nd → 0 ≤ un k ∧ un k < k)
theorem climb_stop {node k : Int} (h : k ≤ node) : ∀ f, climb f un node k = k
  | 0 => rfl
  | f + 1 => by unfold climb; rw [if_neg (by omega)]
theorem climb_fuel (hU : okU nd un) {node : Int} (hn : 0 ≤ node) : ∀ (f f' : Nat) (k : Int), k < nd → k ≤ f → k ≤ f' → climb f un node k = climb f' un node k
  | 0, f', k, h0, h1, h2 => by rw [climb_stop (by omega), climb_stop (by omega)]
  | f + 1, 0, k, h0, h1, h2 => by rw [climb_stop (by omega), climb_stop (by omega)]
  | f + 1, f' + 1, k, h0, h1, h2 => by
    unfold climb
    by_cases h : node < k
    · rw [if_pos h, if_pos h]
      have := hU.2.2.2 k.toNat (by omega) (by omega)
      exact climb_fuel hU hn f f' _ (by omega) (by omega) (by omega)
    · rw [if_neg h, if_neg h]
theorem climb_step (hU : okU nd un) {node k : Int} (hn : 0 ≤ node) (h : node < k) (hk : k < nd) : climb 30 un node k = climb 30 un node (un k.toNat) := by
  have h3 := hU.2.2.2 k.toNat (by omega) (by omega)
  have h30 := hU.2.1
  rw [climb_fuel hU hn 30 31 k hk (by omega) (by omega)]
  show (if node < k then climb 30 un node (un k.toNat) else k) = _
  rw [if_pos h]
theorem climb_le (hU : okU nd un) {node : Int} (hn : 0 ≤ node) : ∀ (m : Nat) (k : Int), k.toNat ≤ m → k < nd → climb 30 un node k ≤ node ∧ (0 ≤ k → 0 ≤ climb 30 un node k)
  | 0, k, h, hk => by rw [climb_stop (by omega)]; omega
  | m + 1, k, h, hk => by
    by_cases hc : node < k
    · rw [climb_step hU hn hc hk]
      have h3 := hU.2.2.2 k.toNat (by omega) (by omega)
      have := climb_le hU hn m (un k.toNat) (by omega) (by omega)
      omega
    · rw [climb_stop (by omega)]; omega
/-- one node less to stop at -/
theorem climb_pred (hU : okU nd un) {x : Int} (hx : 0 < x) (hxn : x < nd) : ∀ (m : Nat) (k : Int), k.toNat ≤ m → k < nd → x ≤ k → climb 30 un (x - 1) k = if climb 30 un x k = x then un x.toNat else climb 30 un x k
  | 0, k, h, hk, h1 => by omega
  | m + 1, k, h, hk, h1 => by
    have h3 := hU.2.2.2 k.toNat (by omega) (by omega)
    rw [climb_step hU (by omega) (show x - 1 < k by omega) hk]
    by_cases e : k = x
    · subst e
      rw [climb_stop (node := k) (Int.le_refl _), if_pos rfl, climb_stop (by omega)]
    · rw [climb_step hU (by omega) (show x < k by omega) hk]
      by_cases e2 : un k.toNat < x
      · rw [climb_stop (node := x - 1) (by omega), climb_stop (node := x) (by omega), if_neg (by omega)]
      · exact climb_pred hU hx hxn m (un k.toNat) (by omega) (by omega) (by omega)
end Climb
/-- how many are right under a node -/
def dirF (un : Nat → Int) (x : Int) : Nat → Int := cnt (fun k => decide (un k = x))
/-- whether one is a leaf and its way up stops at a node -/
def plf (nd : Int) (un : Nat → Int) (k x : Int) : Nat → Bool := fun o => decide (dirF un o nd.toNat = 0) && decide (climb 30 un k o = x)
def lvC (nd : Int) (un : Nat → Int) (x : Int) : Int := cnt (plf nd un x x) nd.toNat
/-- heights, t nodes from the last on -/
def htS (nd : Int) (un : Nat → Int) : Nat → Nat → Int
  | 0 => fun _ => 0
  | t + 1 => fun q => if 0 < nd - 1 - t ∧ (q : Int) = un (nd - 1 - t).toNat ∧ htS nd un t q < htS nd un t (nd - 1 - t).toNat + 1 then htS nd un t (nd - 1 - t).toNat + 1 else htS nd un t q
theorem htS_bd (nd : Int) (un : Nat → Int) : ∀ (t q : Nat), 0 ≤ htS nd un t q ∧ htS nd un t q ≤ t
  | 0, q => by simp [htS]
  | t + 1, q => by
    have h1 := htS_bd nd un t q
    have h2 := htS_bd nd un t (nd - 1 - t).toNat
    unfold htS
    split <;> omega
/-- heights are told once those behind are gone through -/
theorem htS_late {nd : Int} {un : Nat → Int} (hU : okU nd un) {q : Nat} : ∀ (d t : Nat), nd - 1 - q ≤ t → ((t + d : Nat) : Int) ≤ nd → htS nd un (t + d) q = htS nd un t q
  | 0, t, _, _ => rfl
  | d + 1, t, h1, h2 => by
    rw [← htS_late hU d t h1 (by omega)]
    have e : htS nd un (t + (d + 1)) q = if 0 < nd - 1 - ((t + d : Nat) : Int) ∧ (q : Int) = un (nd - 1 - ((t + d : Nat) : Int)).toNat ∧ htS nd un (t + d) q < htS nd un (t + d) (nd - 1 - ((t + d : Nat) : Int)).toNat + 1 then htS nd un (t + d) (nd - 1 - ((t + d : Nat) : Int)).toNat + 1 else htS nd un (t + d) q := rfl
    rw [e, if_neg]
    intro ⟨a, b, _⟩
    have := hU.2.2.2 (nd - 1 - ((t + d : Nat) : Int)).toNat (by omega) (by omega)
    omega
/-- behind a node in the walk -/
def upB (nd : Int) (un : Nat → Int) : Nat → Int → Int → Int
  | 0, _, nx => nx
  | f + 1, a, nx => if nx < 0 ∧ 0 < a then upB nd un f (un a.toNat) (fund (nd - (a + 1)).toNat un (un a.toNat) (a + 1)) else nx
def behS (nd : Int) (un : Nat → Int) (node : Int) : Int := upB nd un 30 node (fund nd.toNat un node 0)
def wlk (nd : Int) (un : Nat → Int) : Nat → Int
  | 0 => 0
  | k + 1 => behS nd un (wlk nd un k)
theorem fund_bd (un : Nat → Int) (node : Int) : ∀ (f : Nat) (k : Int), fund f un node k = -2 ∨ (k ≤ fund f un node k ∧ fund f un node k < k + f)
  | 0, k => Or.inl rfl
  | f + 1, k => by
    unfold fund
    split
    · omega
    · have := fund_bd un node f (k + 1); omega
theorem upB_bd {nd : Int} {un : Nat → Int} (hU : okU nd un) : ∀ (f : Nat) (a nx : Int), a < nd → (nx = -2 ∨ (0 ≤ nx ∧ nx < nd)) → upB nd un f a nx = -2 ∨ (0 ≤ upB nd un f a nx ∧ upB nd un f a nx < nd)
  | 0, _, _, _, h => h
  | f + 1, a, nx, ha, h => by
    unfold upB
    split
    · rename_i hc
      have := hU.2.2.2 a.toNat (by omega) (by omega)
      have h2 := fund_bd un (un a.toNat) (nd - (a + 1)).toNat (a + 1)
      exact upB_bd hU f _ _ (by omega) (by omega)
    · exact h
theorem behS_bd {nd : Int} {un : Nat → Int} (hU : okU nd un) {node : Int} (h : node < nd) : behS nd un node = -2 ∨ (0 ≤ behS nd un node ∧ behS nd un node < nd) := by
  have h0 := hU.1
  have := fund_bd un node nd.toNat 0
  exact upB_bd hU 30 _ _ h (by omega)
theorem wlk_bd {nd : Int} {un : Nat → Int} (hU : okU nd un) (h : 0 < nd) : ∀ k, wlk nd un k = -2 ∨ (0 ≤ wlk nd un k ∧ wlk nd un k < nd)
  | 0 => Or.inr (by unfold wlk; omega)
  | k + 1 => by have := wlk_bd hU h k; exact behS_bd hU (by omega)
theorem upB_stop {nd : Int} {un : Nat → Int} {a nx : Int} (h : ¬ (nx < 0 ∧ 0 < a)) : ∀ f, upB nd un f a nx = nx
  | 0 => rfl
  | f + 1 => by unfold upB; rw [if_neg h]
/-- claims at a node and below -/
def clB (J : Nat → Nat → Int) (x : Int) : Nat → Bool := fun o => decide (climb 30 (J 45) x o = x) && decide (lackN (cF (J 44 (6 + o)) (eE J (6 + o))) 0 9 = 0)
/-- the cut: which goes, which number one has then -/
def goes (un : Nat → Int) (x : Int) (k : Nat) : Bool := decide (climb 30 un x k = x)
def nuC (un : Nat → Int) (x : Int) (k : Nat) : Int := if goes un x k then -2 else cnt (fun o => !goes un x o) k
def jcU (J : Nat → Nat → Int) (un : Nat → Int) (x : Int) (k : Nat) : Int := if J 45 k < 0 then -2 else nuC un x (J 45 k).toNat
/-- k nodes are gone through -/
def jcut (J : Nat → Nat → Int) (x : Int) : Nat → Nat → Nat → Int
  | 0 => J
  | k + 1 => if goes (J 45) x k then jcut J x k else zup (zup (jput (jcut J x k) (6 + nuC (J 45) x k).toNat (jcut J x k 44 (6 + k)) (eE (jcut J x k) (6 + k))) 45 (nuC (J 45) x k).toNat (jcU (jcut J x k) (J 45) x k)) 46 (nuC (J 45) x k).toNat (jcut J x k 46 k)
section Answers6
variable (J : Nat → Nat → Int)
noncomputable def aWalk (i : Int) : Int := cif (0 ≤ i ∧ i ≤ J 42 2 - 1) (wlk (J 42 2) (J 45) i.toNat) (-2)
noncomputable def aOfNode (x w : Int) : Int := cif ((0 ≤ x ∧ x < J 42 2) ∧ 0 ≤ w ∧ w ≤ 8)
  (if w = 0 then J 45 x.toNat else if w = 1 then J 44 (6 + x).toNat else if w = 2 then truF (J 44 (6 + x).toNat) (eE J (6 + x)) else if w = 3 then dirF (J 45) x (J 42 2).toNat else if w = 4 then htS (J 42 2) (J 45) (J 42 2).toNat x.toNat else if w = 5 then lvC (J 42 2) (J 45) x else if w = 6 then cnt (clB J x) (J 42 2).toNat else if w = 7 then J 46 x.toNat else detS (eE J (6 + x)) (J 44 (6 + x).toNat) (-1)) (-1)
noncomputable def aCut (x : Int) : Int × (Nat → Nat → Int) := cif (0 ≤ x ∧ x < J 42 2) (cnt (fun o => !goes (J 45) x o) (J 42 2).toNat, zup (jcut J x (J 42 2).toNat) 42 2 (cnt (fun o => !goes (J 45) x o) (J 42 2).toNat)) (-1, J)
end Answers6
theorem okT_U {J : Nat → Nat → Int} (h : okT J) : okU (J 42 2) (J 45) := ⟨h.1.1, h.1.2.1, h.1.2.2.1, h.1.2.2.2.1⟩
