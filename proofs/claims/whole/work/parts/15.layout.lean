/-! WHERE THINGS STAND: the class's object is 4, the reference's 42; what they make once stands at 4 .. 65; from 66 on forms and their tables, and the brood's rows. -/
def kst : List (Nat × Nat) := [(18, 0), (4, 6), (4, 6), (17, 0), (4, 30), (1, 30), (1, 30), (1, 30), (17, 0), (4, 30), (1, 30), (1, 30), (1, 30), (5, 4), (15, 0), (1, 40), (15, 0), (1, 40), (15, 0), (1, 40), (15, 0), (1, 40), (11, 0), (1, 16), (2, 16), (1, 4), (12, 0), (2, 16), (2, 4), (2, 5), (2, 4), (1, 4), (1, 4), (14, 0), (1, 4), (3, 256), (10, 0), (1, 64),
  (19, 0), (1, 1184), (1, 74), (1, 30), (1, 30), (1, 30), (1, 30), (2, 16), (2, 4), (2, 4), (1, 101), (1, 101), (1, 404), (1, 17), (1, 33), (1, 3), (1, 3), (1, 30), (1, 30), (1, 30), (1, 30), (1, 4), (1, 4), (1, 160)]
def KF (Kd : ZK) : ZK := fun a => if a < 66 then (if a < 4 then (0, 0) else kst.getD (a - 4) (0, 0)) else Kd a
def rst (a k : Nat) : Option Nat := match a with
  | 4 => match k with | 0 => some 5 | 1 => some 6 | 2 => some 7 | 3 => some 12 | 5 => some 17 | 6 => some 26 | 7 => some 30 | 8 => some 37 | 9 => some 40 | _ => none
  | 7 => match k with | 1 => some 8 | 2 => some 9 | 3 => some 10 | 4 => some 11 | _ => none
  | 12 => match k with | 1 => some 13 | 2 => some 14 | 3 => some 15 | 4 => some 16 | _ => none
  | 17 => match k with | 0 => some 18 | 1 => some 20 | 2 => some 22 | 3 => some 24 | _ => none
  | 18 => match k with | 2 => some 19 | _ => none
  | 20 => match k with | 2 => some 21 | _ => none
  | 22 => match k with | 2 => some 23 | _ => none
  | 24 => match k with | 2 => some 25 | _ => none
  | 26 => match k with | 1 => some 27 | 4 => some 28 | 5 => some 29 | _ => none
  | 30 => match k with | 5 => some 31 | 6 => some 32 | 7 => some 33 | 8 => some 34 | 9 => some 35 | 10 => some 36 | _ => none
  | 37 => match k with | 0 => some 38 | 1 => some 39 | _ => none
  | 42 => match k with | 0 => some 43 | 1 => some 44 | 3 => some 45 | 4 => some 46 | 6 => some 47 | 7 => some 48 | 9 => some 49 | 10 => some 50 | 13 => some 51 | 14 => some 52 | 15 => some 53 | 16 => some 54 | 20 => some 55 | 21 => some 56 | 24 => some 57 | 25 => some 58 | 27 => some 59 | 28 => some 60 | 29 => some 61 | 30 => some 62 | 31 => some 63 | 32 => some 64 | 33 => some 65 | _ => none
  | _ => none
/-- references that change: slots, nodes' forms, the brood -/
def rdyn (a : Nat) : Bool := a == 5 || a == 6 || a == 8 || a == 13 || a == 40
def RF (Rd : ZR) : ZR := fun a k => if a < 66 then (if rdyn a then Rd a k else rst a k) else Rd a k
theorem KF_dyn {Kd : ZK} {a : Nat} (h : 66 ≤ a) : KF Kd a = Kd a := by unfold KF; rw [if_neg (by omega)]
theorem RF_dyn {Rd : ZR} {a k : Nat} (h : 66 ≤ a) : RF Rd a k = Rd a k := by unfold RF; rw [if_neg (by omega)]
theorem zk_test {Kd : ZK} : KF Kd 43 = (1, 1184) := rfl
theorem zr_test {Rd : ZR} : RF Rd 42 0 = some 43 := rfl
theorem zr_test2 {Rd : ZR} : RF Rd 5 2 = Rd 5 2 := rfl
/-- stores among what changes -/
theorem RF_up {Rd : ZR} {a k : Nat} {x : Option Nat} (h : rdyn a = true ∨ 66 ≤ a) : zup (RF Rd) a k x = RF (zup Rd a k x) := by
  funext b j
  by_cases hb : b = a
  · subst hb
    simp only [zup, if_true]
    by_cases hj : j = k
    · subst hj
      simp only [if_true]
      rcases h with h | h
      · simp [RF, h, zup]
      · rw [RF_dyn h]; simp [zup]
    · simp only [if_neg hj]
      rcases h with h | h
      · simp [RF, h, zup, hj]
      · rw [RF_dyn h, RF_dyn h]; simp [zup, hj]
  · simp only [zup, if_neg hb, RF]
theorem KF_kp {Kd : ZK} {a : Nat} {x : Nat × Nat} (h : 66 ≤ a) : zkp (KF Kd) a x = KF (zkp Kd a x) := by
  funext b
  by_cases hb : b = a
  · subst hb
    rw [KF_dyn h]; simp [zkp]
  · simp only [zkp, if_neg hb, KF]
theorem RF_upA {Rd : ZR} {a : Nat} {f : Nat → Option Nat} (h : 66 ≤ a) : zupA (RF Rd) a f = RF (zupA Rd a f) := by
  funext b j
  by_cases hb : b = a
  · subst hb
    rw [RF_dyn h]; simp [zupA]
  · simp only [zupA, if_neg hb, RF]
theorem zs0 {b : List (Option Value)} : zsub [] b := trivial
theorem zsn {a b : List (Option Value)} (h : zsub a b.tail) : zsub (none :: a) b := h
theorem zs1 {a b : List (Option Value)} {v : Value} (h1 : b.head? = some (some v)) (h : zsub a b.tail) : zsub (some v :: a) b := ⟨h1, h⟩
theorem Z.fg2 {g : ZG} {l : Launch} {M : ZM} {pc : Nat} {ls ls' : List (Option Value)} {st : List Value} {h : ZH} {Q : Option Value → ZH → Prop} (k : Z g l M pc ls' st h Q) (hs : zsub ls' ls) : Z g l M pc ls st h Q := Z.fg hs k
