/-! SHEETS -/
def okS (J : Nat → Nat → Int) : Prop := (∀ q, q < 4 → ((J 63 q = -1 ∧ J 64 q = 0) ∨ J 63 q = 0 ∨ J 63 q = 1) ∧ 0 ≤ J 64 q ∧ J 64 q ≤ 40) ∧ ∀ q, q < 160 → rI (J 65 q)
def lowS (so v : Int) : Int := if so = 0 then v.bmod 256 else v
def jsheet (J : Nat → Nat → Int) (sh : Nat) (so k : Int) : Nat → Nat → Int := fun a q => if a = 63 ∧ q = sh then so else if a = 64 ∧ q = sh then k else if a = 65 ∧ 40 * sh ≤ q ∧ q < 40 * sh + 40 then 0 else J a q
def jmove (J : Nat → Nat → Int) (f t k : Nat) : Nat → Nat → Int := fun a q => if a = 65 ∧ t ≤ q ∧ q < t + k then J 65 (f + (q - t)) else J a q
section Answers2
variable (J : Nat → Nat → Int)
noncomputable def aSheet (sh so k : Int) : Int × (Nat → Nat → Int) := cif (0 ≤ sh ∧ sh < 4 ∧ -1 ≤ so ∧ so ≤ 1 ∧ (0 ≤ so → k ≤ 40)) (cif (0 ≤ so ∧ k < 0) (-14, J) (1, jsheet J sh.toNat so (if so < 0 then 0 else k))) (-1, J)
noncomputable def aCell (sh i v : Int) : Int × (Nat → Nat → Int) := cif (0 ≤ sh ∧ sh < 4) (cif (J 63 sh.toNat < 0) (-11, J) (cif (0 ≤ i ∧ i ≤ J 64 sh.toNat - 1) (1, zup J 65 (40 * sh + i).toNat (lowS (J 63 sh.toNat) v)) (-12, J))) (-1, J)
noncomputable def aItem (sh i : Int) : Int := cif ((0 ≤ sh ∧ sh < 4) ∧ (0 ≤ i ∧ i ≤ J 64 sh.toNat - 1)) (J 65 (40 * sh + i).toNat) (-9223372036854775808)
noncomputable def aMove (sh i o j k : Int) : Int × (Nat → Nat → Int) := cif ((0 ≤ sh ∧ sh < 4) ∧ (0 ≤ o ∧ o < 4)) (cif (J 63 sh.toNat < 0 ∨ J 63 o.toNat < 0) (-11, J) (cif (J 63 sh.toNat = J 63 o.toNat) (cif (0 ≤ k ∧ 0 ≤ i ∧ 0 ≤ j ∧ k ≤ J 64 sh.toNat - i ∧ k ≤ J 64 o.toNat - j) (k, jmove J (40 * sh + i).toNat (40 * o + j).toNat k.toNat) (-12, J)) (-13, J))) (-1, J)
end Answers2
