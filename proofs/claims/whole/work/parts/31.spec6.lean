section TabZ
variable {g : ZG} {l : Launch} {M : ZM} {pc : Nat} {ls : List (Option Value)} {st : List Value} {h : ZH} {Q : Option Value → ZH → Prop}
theorem c_tableIn {dflt lo hi w : Int} {offs : Array Int} {len : Nat} {off : Int} {tgt : Nat} (hd : decode M.2.1 pc = .ok (.tableswitch dflt lo hi offs, len)) (hw : rI w) (h1 : lo ≤ w ∧ w ≤ hi) (ho : offs[(w - lo).toNat]? = some off) (ht : (pc : Int) + off = (tgt : Int)) (k : Z g l M tgt ls st h Q) : Z g l M pc ls (.int (iZ w) :: st) h Q := z_tableIn hd (by rw [iZ_toInt hw]; omega) (by rw [iZ_toInt hw]; omega) (by rw [iZ_toInt hw]; exact ho) ht k
theorem c_tableOut {dflt lo hi w : Int} {offs : Array Int} {len : Nat} {tgt : Nat} (hd : decode M.2.1 pc = .ok (.tableswitch dflt lo hi offs, len)) (hw : rI w) (h1 : w < lo ∨ hi < w) (ht : (pc : Int) + dflt = (tgt : Int)) (k : Z g l M tgt ls st h Q) : Z g l M pc ls (.int (iZ w) :: st) h Q := z_tableOut hd (by rw [iZ_toInt hw]; exact h1) ht k
end TabZ
/-! THE TREE, what is kept, rules -/
def okN (nd : Int) (un ch : Nat → Int) : Prop := 0 ≤ nd ∧ nd ≤ 30 ∧ (0 < nd → un 0 = -2) ∧ (∀ k : Nat, 1 ≤ k → (k : Int) < nd → 0 ≤ un k ∧ un k < k) ∧ ∀ k : Nat, k < 30 → rI (un k) ∧ rI (ch k)
def okT (J : Nat → Nat → Int) : Prop := okN (J 42 2) (J 45) (J 46) ∧ okN (J 42 5) (J 47) (J 48) ∧ (J 42 8 = 0 ∨ J 42 8 = 1) ∧ (∀ k : Nat, (k : Int) < J 42 2 → 0 < J 44 (6 + k)) ∧ (∀ k : Nat, (k : Int) < J 42 5 → 0 < J 44 (42 + k))
def heldN (J : Nat → Nat → Int) : Nat → Int
  | 0 => 0
  | k + 1 => heldN J k + (if 0 < J 44 k then 1 else 0)
theorem heldN_bd (J : Nat → Nat → Int) : ∀ k, 0 ≤ heldN J k ∧ heldN J k ≤ k
  | 0 => by simp [heldN]
  | k + 1 => by have := heldN_bd J k; unfold heldN; split <;> omega
theorem heldN_congr {J J' : Nat → Nat → Int} : ∀ k, (∀ q, q < k → J' 44 q = J 44 q) → heldN J' k = heldN J k
  | 0, _ => rfl
  | k + 1, h => by unfold heldN; rw [heldN_congr k (fun q hq => h q (by omega)), h k (by omega)]
def sheetN (J : Nat → Nat → Int) : Nat → Int
  | 0 => 0
  | k + 1 => sheetN J k + (if 0 ≤ J 63 k then 1 else 0)
theorem sheetN_bd (J : Nat → Nat → Int) : ∀ k, 0 ≤ sheetN J k ∧ sheetN J k ≤ k
  | 0 => by simp [sheetN]
  | k + 1 => by have := sheetN_bd J k; unfold sheetN; split <;> omega
def jkeep (J : Nat → Nat → Int) : Nat → Nat → Int := fun a q => if a = 44 ∧ 36 ≤ q ∧ q < 72 then J 44 (q - 36) else if a = 43 ∧ 576 ≤ q ∧ q < 1152 then J 43 (q - 576) else if a = 47 ∧ q < 30 then J 45 q else if a = 48 ∧ q < 30 then J 46 q else if a = 42 ∧ q = 5 then J 42 2 else if a = 42 ∧ q = 8 then 1 else J a q
def jback (J : Nat → Nat → Int) : Nat → Nat → Int := fun a q => if a = 44 ∧ q < 36 then J 44 (q + 36) else if a = 43 ∧ q < 576 then J 43 (q + 576) else if a = 45 ∧ q < 30 then J 47 q else if a = 46 ∧ q < 30 then J 48 q else if a = 42 ∧ q = 2 then J 42 5 else J a q
def jplant (J : Nat → Nat → Int) (s : Int) : Nat → Nat → Int := zup (zup (zup (jput J 6 (J 44 s.toNat) (eE J s)) 45 0 (-2)) 46 0 (-2)) 42 2 1
/-- a node's way up, as long as it is above -/
def climb : Nat → (Nat → Int) → Int → Int → Int
  | 0, _, _, k => k
  | f + 1, un, node, k => if node < k then climb f un node (un k.toNat) else k
/-- the first from k on that is under a node; -2: there is none -/
def fund : Nat → (Nat → Int) → Int → Int → Int
  | 0, _, _, _ => -2
  | f + 1, un, node, k => if un k.toNat = node then k else fund f un node (k + 1)
def ruleN (r : Int) : Int := if r = 0 then 9 else if r = 1 then 7 else 17
def ruleO (r : Int) : Int := if r = 0 then 0 else if r = 1 then 9 else 16
def ruleT : List Int := [1, 2, 3, 5, 6, 7, 10, 14, 15, 1, 3, 5, 7, 11, 15, 33, 2, 3, 5, 7, 11, 13, 17, 19, 23, 29, 31, 37, 41, 43, 47, 67, 73]
def ruleA (r i : Int) : Int := ruleT.getD (ruleO r + i).toNat 0
def okR (J : Nat → Nat → Int) : Prop := ∀ q, q < 33 → J 56 q = ruleT.getD q 0
section Answers3
variable (J : Nat → Nat → Int)
noncomputable def aKeep : Int × (Nat → Nat → Int) := (heldN J 6, jkeep J)
noncomputable def aBack : Int × (Nat → Nat → Int) := cif (J 42 8 = 0) (-2, J) (heldN (jback J) 6, jback J)
noncomputable def aCount (w : Int) : Int := if w = 0 then heldN J 6 else if w = 1 then J 42 2 else if w = 2 then sheetN J 4 else if w = 3 then (if J 42 8 = 0 then 0 else 1) else -1
noncomputable def aPlant (s : Int) : Int × (Nat → Nat → Int) := cif (0 ≤ s ∧ s < 6 ∧ 0 < J 44 s.toNat) (J 42 2, jplant J s) (-1, J)
noncomputable def aNodeTo (nd s : Int) : Int × (Nat → Nat → Int) := cif ((0 ≤ nd ∧ nd < J 42 2) ∧ (0 ≤ s ∧ s < 6)) (detS (eE J (6 + nd)) (J 44 (6 + nd).toNat) (-1), jput J s.toNat (J 44 (6 + nd).toNat) (eE J (6 + nd))) (-1, J)
noncomputable def aRule (r i : Int) : Int := cif (0 ≤ r ∧ r < 3) (cif (0 ≤ i ∧ i ≤ ruleN r - 1) (ruleA r i) (-2)) (-1)
end Answers3
