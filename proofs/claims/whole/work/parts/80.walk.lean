/-! THE WALK goes through all nodes before it ends -/
section Walk
variable {nd : Int} {un : Nat → Int}
def itB (nd : Int) (un : Nat → Int) : Nat → Int → Int
  | 0, y => y
  | j + 1, y => itB nd un j (behS nd un y)
theorem itB_add : ∀ (a b : Nat) (y : Int), itB nd un (a + b) y = itB nd un b (itB nd un a y)
  | 0, b, y => by rw [Nat.zero_add]; rfl
  | a + 1, b, y => by rw [show a + 1 + b = (a + b) + 1 by omega]; exact itB_add a b (behS nd un y)
theorem itB_succ (k : Nat) (y : Int) : itB nd un (k + 1) y = behS nd un (itB nd un k y) := by rw [itB_add k 1]; rfl
theorem wlk_it : ∀ k, wlk nd un k = itB nd un k 0
  | 0 => rfl
  | k + 1 => by rw [itB_succ, ← wlk_it k]; rfl
theorem upB_fuel (hU : okU nd un) : ∀ (f f' : Nat) (a nx : Int), a < nd → a ≤ f → a ≤ f' → upB nd un f a nx = upB nd un f' a nx
  | 0, f', a, nx, h0, h1, h2 => by rw [upB_stop (by omega), upB_stop (by omega)]
  | f + 1, 0, a, nx, h0, h1, h2 => by rw [upB_stop (by omega), upB_stop (by omega)]
  | f + 1, f' + 1, a, nx, h0, h1, h2 => by
    unfold upB
    by_cases h : nx < 0 ∧ 0 < a
    · rw [if_pos h, if_pos h]
      have := hU.2.2.2 a.toNat (by omega) (by omega)
      exact upB_fuel hU f f' _ _ (by omega) (by omega) (by omega)
    · rw [if_neg h, if_neg h]
/-- behind all that is below a node -/
def nxt (nd : Int) (un : Nat → Int) (x : Int) : Int := upB nd un 30 x (-2)
theorem nxt_step (hU : okU nd un) {x s : Int} (hx : 0 < x ∧ x < nd) (hs : s = fund (nd - (x + 1)).toNat un (un x.toNat) (x + 1)) : nxt nd un x = if s < 0 then nxt nd un (un x.toNat) else s := by
  have hu := hU.2.2.2 x.toNat (by omega) (by omega)
  have h30 := hU.2.1
  have e : nxt nd un x = upB nd un 29 (un x.toNat) s := by
    unfold nxt
    show (if (-2 : Int) < 0 ∧ 0 < x then upB nd un 29 (un x.toNat) (fund (nd - (x + 1)).toNat un (un x.toNat) (x + 1)) else -2) = _
    rw [if_pos (by omega), hs]
  rw [e]
  have hb := fund_bd un (un x.toNat) (nd - (x + 1)).toNat (x + 1)
  by_cases h : s < 0
  · rw [if_pos h, show s = -2 by omega]
    exact upB_fuel hU 29 30 _ _ (by omega) (by omega) (by omega)
  · rw [if_neg h, upB_stop (by omega)]
theorem nxt_0 : nxt nd un 0 = -2 := upB_stop (by omega) 30
/-- how many stand at a node and below, t nodes from the last on gone through -/
def szA (nd : Int) (un : Nat → Int) : Nat → Nat → Int
  | 0 => fun _ => 1
  | t + 1 => fun q => szA nd un t q + (if 0 < nd - 1 - t ∧ (q : Int) = un (nd - 1 - t).toNat then szA nd un t (nd - 1 - t).toNat else 0)
theorem szA_pos (nd : Int) (un : Nat → Int) : ∀ t q, 1 ≤ szA nd un t q
  | 0, q => by simp [szA]
  | t + 1, q => by
    have h1 := szA_pos nd un t q
    have h2 := szA_pos nd un t (nd - 1 - t).toNat
    unfold szA; split <;> omega
def msum (f : Nat → Int) : Nat → Int
  | 0 => 0
  | k + 1 => msum f k + f k
theorem msum_one : ∀ k, msum (fun _ => 1) k = k
  | 0 => rfl
  | k + 1 => by unfold msum; rw [msum_one k]; omega
theorem msum_upd {f h : Nat → Int} {p : Nat} {v : Int} : ∀ k, p < k → (∀ q, q < k → h q = f q + (if q = p then v else 0)) → msum h k = msum f k + v
  | 0, hp, _ => by omega
  | k + 1, hp, hh => by
    unfold msum
    rw [hh k (by omega)]
    by_cases e : k = p
    · rw [if_pos e]
      have : msum h k = msum f k := by
        have g : ∀ m, m ≤ k → msum h m = msum f m := by
          intro m
          induction m with
          | zero => intro _; rfl
          | succ m ih => intro hm; unfold msum; rw [ih (by omega), hh m (by omega), if_neg (by omega), Int.add_zero]
        exact g k (Nat.le_refl _)
      rw [this]; omega
    · rw [if_neg e, msum_upd k (by omega) (fun q hq => hh q (by omega))]; omega
theorem szA_mass (hU : okU nd un) : ∀ t : Nat, (t : Int) + 1 ≤ nd → msum (szA nd un t) (nd - t).toNat = nd
  | 0, h => by
    rw [show szA nd un 0 = fun _ => 1 from rfl, msum_one]; omega
  | t + 1, h => by
    have h1 := szA_mass hU t (by omega)
    have hu := hU.2.2.2 (nd - 1 - t).toNat (by omega) (by omega)
    rw [show (nd - (t : Nat)).toNat = (nd - 1 - t).toNat + 1 by omega] at h1
    unfold msum at h1
    rw [show (nd - ((t + 1 : Nat) : Int)).toNat = (nd - 1 - t).toNat by omega]
    rw [msum_upd (f := szA nd un t) (p := (un (nd - 1 - t).toNat).toNat) (v := szA nd un t (nd - 1 - t).toNat) _ (by omega) (fun q hq => ?_)]
    · exact h1
    · show szA nd un t q + (if 0 < nd - 1 - t ∧ (q : Int) = un (nd - 1 - t).toNat then szA nd un t (nd - 1 - t).toNat else 0) = _
      rw [ifc (show (0 < nd - 1 - (t : Int) ∧ (q : Int) = un (nd - 1 - t).toNat) ↔ q = (un (nd - 1 - t).toNat).toNat by omega)]
theorem szA_root (hU : okU nd un) (hn : 0 < nd) : szA nd un (nd - 1).toNat 0 = nd := by
  have h := szA_mass hU (nd - 1).toNat (by omega)
  rw [show (nd - ((nd - 1).toNat : Int)).toNat = 0 + 1 by omega] at h
  unfold msum at h
  rw [show msum (szA nd un (nd - 1).toNat) 0 = 0 from rfl, Int.zero_add] at h
  exact h
/-- from a node on, all at it and below are gone through -/
def Pw (nd : Int) (un : Nat → Int) (x : Int) : Prop := (∀ j : Nat, (j : Int) < szA nd un (nd - 1 - x).toNat x.toNat → 0 ≤ itB nd un j x) ∧ itB nd un (szA nd un (nd - 1 - x).toNat x.toNat).toNat x = nxt nd un x
def Qw (nd : Int) (un : Nat → Int) (x f : Int) : Prop :=
  (fund (nd - f).toNat un x f = -2 ∧ szA nd un (nd - f).toNat x.toNat = 1) ∨ (0 ≤ fund (nd - f).toNat un x f ∧ (∀ j : Nat, (j : Int) < szA nd un (nd - f).toNat x.toNat - 1 → 0 ≤ itB nd un j (fund (nd - f).toNat un x f)) ∧ itB nd un (szA nd un (nd - f).toNat x.toNat - 1).toNat (fund (nd - f).toNat un x f) = nxt nd un x)
theorem Qw_of (hU : okU nd un) {x : Int} (hx : 0 ≤ x ∧ x < nd) (hP : ∀ f, x < f → f < nd → Pw nd un f) : ∀ (m : Nat) (f : Int), (nd - f).toNat = m → x < f → f ≤ nd → Qw nd un x f
  | 0, f, hm, h1, h2 => by
    left
    rw [hm]; exact ⟨rfl, rfl⟩
  | m + 1, f, hm, h1, h2 => by
    have ih := Qw_of hU hx hP m (f + 1) (by omega) (by omega) (by omega)
    have ef : (nd - f).toNat = (nd - (f + 1)).toNat + 1 := by omega
    have e1 : fund (nd - f).toNat un x f = if un f.toNat = x then f else fund (nd - (f + 1)).toNat un x (f + 1) := by rw [ef]; rfl
    have e2 : szA nd un (nd - f).toNat x.toNat = szA nd un (nd - (f + 1)).toNat x.toNat + (if un f.toNat = x then szA nd un (nd - 1 - f).toNat f.toNat else 0) := by
      rw [ef]
      show szA nd un (nd - (f + 1)).toNat x.toNat + (if 0 < nd - 1 - (((nd - (f + 1)).toNat : Nat) : Int) ∧ ((x.toNat : Nat) : Int) = un (nd - 1 - (((nd - (f + 1)).toNat : Nat) : Int)).toNat then szA nd un (nd - (f + 1)).toNat (nd - 1 - (((nd - (f + 1)).toNat : Nat) : Int)).toNat else 0) = _
      rw [show nd - 1 - (((nd - (f + 1)).toNat : Nat) : Int) = f by omega, show (nd - (f + 1)).toNat = (nd - 1 - f).toNat by omega]
      rw [ifc (show (0 < f ∧ ((x.toNat : Nat) : Int) = un f.toNat) ↔ un f.toNat = x by omega)]
    unfold Qw
    rw [e1, e2]
    by_cases hc : un f.toNat = x
    · rw [if_pos hc, if_pos hc]
      right
      obtain ⟨p1, p2⟩ := hP f h1 (by omega)
      have z := szA_pos nd un (nd - 1 - f).toNat f.toNat
      have ns := nxt_step hU (x := f) (s := fund (nd - (f + 1)).toNat un x (f + 1)) (by omega) (by rw [hc])
      generalize hZ : szA nd un (nd - 1 - f).toNat f.toNat = Z at *
      refine ⟨by omega, ?_⟩
      rcases ih with ⟨q1, q2⟩ | ⟨q1, q2, q3⟩
      · rw [q1, if_pos (by omega), hc] at ns
        rw [q2, show 1 + Z - 1 = Z by omega]
        exact ⟨p1, by rw [p2, ns]⟩
      · rw [if_neg (by omega)] at ns
        rw [ns] at p2
        have z2 := szA_pos nd un (nd - (f + 1)).toNat x.toNat
        generalize hY : szA nd un (nd - (f + 1)).toNat x.toNat = Y at *
        refine ⟨fun j hj => ?_, ?_⟩
        · by_cases hl : (j : Int) < Z
          · exact p1 j hl
          · rw [show j = Z.toNat + (j - Z.toNat) by omega, itB_add, p2]
            exact q2 _ (by omega)
        · rw [show (Y + Z - 1).toNat = Z.toNat + (Y - 1).toNat by omega, itB_add, p2]; exact q3
    · rw [if_neg hc, if_neg hc, Int.add_zero]; exact ih
theorem Pw_of (hU : okU nd un) : ∀ (m : Nat) (x : Int), (nd - x).toNat ≤ m → 0 ≤ x → x < nd → Pw nd un x
  | 0, x, hm, h1, h2 => by omega
  | m + 1, x, hm, h1, h2 => by
    have hq := Qw_of hU ⟨h1, h2⟩ (fun f a b => Pw_of hU m f (by omega) (by omega) b) (nd - (x + 1)).toNat (x + 1) rfl (by omega) (by omega)
    have hb : behS nd un x = upB nd un 30 x (fund (nd - (x + 1)).toNat un x (x + 1)) := by unfold behS; rw [fund_skip hU ⟨h1, h2⟩]
    unfold Pw
    rw [show (nd - 1 - x).toNat = (nd - (x + 1)).toNat by omega]
    have z := szA_pos nd un (nd - (x + 1)).toNat x.toNat
    unfold Qw at hq
    generalize szA nd un (nd - (x + 1)).toNat x.toNat = Z at *
    rcases hq with ⟨q1, q2⟩ | ⟨q1, q2, q3⟩
    · subst q2
      refine ⟨fun j hj => ?_, ?_⟩
      · have : j = 0 := by omega
        subst this; exact h1
      · show itB nd un 1 x = _
        show behS nd un x = _
        rw [hb, q1]; rfl
    · rw [upB_stop (by omega)] at hb
      refine ⟨fun j hj => ?_, ?_⟩
      · cases j with
        | zero => exact h1
        | succ j => show 0 ≤ itB nd un j (behS nd un x); rw [hb]; exact q2 j (by omega)
      · rw [show Z.toNat = (Z - 1).toNat + 1 by omega]
        show itB nd un (Z - 1).toNat (behS nd un x) = _
        rw [hb]; exact q3
theorem wlk_nn (hU : okU nd un) {k : Nat} (hk : (k : Int) < nd) : 0 ≤ wlk nd un k := by
  have h := Pw_of hU nd.toNat 0 (by omega) (by omega) (by omega)
  have hr := szA_root hU (by omega)
  rw [wlk_it]
  refine h.1 k ?_
  rw [show (nd - 1 - 0).toNat = (nd - 1).toNat by omega, show (0 : Int).toNat = 0 from rfl, hr]; exact hk
end Walk
