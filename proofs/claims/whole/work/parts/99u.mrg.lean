/-! THE LAW: answers look at the reference's cells alone -/
section Mrg
variable {J C B J1 J2 : Nat → Nat → Int} {Kd : ZK} {Rd : ZR} {n s0 c : Nat}
def inR (a : Nat) : Bool := Nat.ble 42 a && Nat.ble a 65 && !(Nat.beq a 56)
def mrg (J C : Nat → Nat → Int) : Nat → Nat → Int := fun a => if inR a = true then J a else C a
def mp (C : Nat → Nat → Int) (r : Int × (Nat → Nat → Int)) : Int × (Nat → Nat → Int) := (r.1, mrg r.2 C)
theorem inR_iff {a : Nat} : inR a = true ↔ 42 ≤ a ∧ a ≤ 65 ∧ a ≠ 56 := by
  unfold inR
  rw [Bool.and_eq_true, Bool.and_eq_true, Nat.ble_eq, Nat.ble_eq, Bool.not_eq_true']
  exact ⟨fun h => ⟨h.1.1, h.1.2, Nat.ne_of_beq_eq_false h.2⟩, fun h => ⟨⟨h.1, h.2.1⟩, by cases e : Nat.beq a 56 with | false => rfl | true => exact absurd (Nat.eq_of_beq_eq_true e) h.2.2⟩⟩
theorem mrg_in {a : Nat} (h : inR a = true) : mrg J C a = J a := if_pos h
theorem mrg_out {a : Nat} (h : ¬ inR a = true) : mrg J C a = C a := if_neg h
theorem mrg_self (h : cs J C) : mrg J C = C := by
  funext a
  by_cases e : inR a = true
  · rw [mrg_in e]; have := inR_iff.mp e; exact (h a (by omega) (by omega)).symm
  · exact mrg_out e
theorem mp_cif {p : Prop} {u v : Int × (Nat → Nat → Int)} : mp C (cif p u v) = cif p (mp C u) (mp C v) := by
  by_cases h : p
  · rw [cif_pos h, cif_pos h]
  · rw [cif_neg h, cif_neg h]
theorem mp_pair {x : Int} {a : Nat → Nat → Int} : mp C (x, a) = (x, mrg a C) := rfl
theorem eE_m {s : Int} : eE (mrg J C) s = eE J s := rfl
/-- a change inside -/
theorem mrg_ch {f : (Nat → Nat → Int) → Nat → Nat → Int} (h1 : ∀ a, inR a = true → f (mrg J C) a = f J a) (h2 : ∀ a, ¬ inR a = true → f (mrg J C) a = mrg J C a) : f (mrg J C) = mrg (f J) C := by
  funext a
  by_cases e : inR a = true
  · rw [mrg_in e]; exact h1 a e
  · rw [mrg_out e, h2 a e, mrg_out e]
theorem nin {a b : Nat} (h : ¬ inR a = true) (hb : inR b = true) : a ≠ b := by intro e; subst e; exact h hb
theorem mrg_jput {p : Nat} {nl : Int} {E : Nat → Int} : jput (mrg J C) p nl E = mrg (jput J p nl E) C :=
  mrg_ch (f := fun J => jput J p nl E) (fun a h => by funext q; simp only [jput]; rw [mrg_in h]) (fun a h => jput_off (nin h rfl) (nin h rfl))
theorem mrg_zup {b q : Nat} {v : Int} (hb : inR b = true) : zup (mrg J C) b q v = mrg (zup J b q v) C :=
  mrg_ch (f := fun J => zup J b q v) (fun a h => by funext q; simp only [zup]; rw [mrg_in h]) (fun a h => zup_ne (nin h hb))
theorem mrg_sheet {sh : Nat} {so k : Int} : jsheet (mrg J C) sh so k = mrg (jsheet J sh so k) C :=
  mrg_ch (f := fun J => jsheet J sh so k) (fun a h => by funext q; simp only [jsheet]; rw [mrg_in h]) (fun a h => by
    have h1 := nin h (b := 63) rfl; have h2 := nin h (b := 64) rfl; have h3 := nin h (b := 65) rfl
    funext q; simp only [jsheet]; rw [if_neg (fun z => h1 z.1), if_neg (fun z => h2 z.1), if_neg (fun z => h3 z.1)])
theorem mrg_move {f t k : Nat} : jmove (mrg J C) f t k = mrg (jmove J f t k) C :=
  mrg_ch (f := fun J => jmove J f t k) (fun a h => by funext q; simp only [jmove]; rw [mrg_in h]; rfl) (fun a h => by
    have h3 := nin h (b := 65) rfl
    funext q; simp only [jmove]; rw [if_neg (fun z => h3 z.1)])
theorem mrg_spread {E : Nat → Int} {b k : Nat} : jspread (mrg J C) E b k = mrg (jspread J E b k) C :=
  mrg_ch (f := fun J => jspread J E b k) (fun a h => by funext q; simp only [jspread]; rw [mrg_in h]) (fun a h => by
    have h3 := nin h (b := 65) rfl
    funext q; simp only [jspread]; rw [if_neg (fun z => h3 z.1)])
theorem mrg_row {cv : Nat → Int} {b k : Nat} : jrow (mrg J C) cv b k = mrg (jrow J cv b k) C :=
  mrg_ch (f := fun J => jrow J cv b k) (fun a h => by funext q; simp only [jrow]; rw [mrg_in h]) (fun a h => by
    have h3 := nin h (b := 65) rfl
    funext q; simp only [jrow]; rw [if_neg (fun z => h3 z.1)])
theorem mrg_keep : jkeep (mrg J C) = mrg (jkeep J) C :=
  mrg_ch (f := jkeep) (fun a h => by funext q; simp only [jkeep]; rw [mrg_in h]; rfl) (fun a h => by
    have h1 := nin h (b := 44) rfl; have h2 := nin h (b := 43) rfl; have h3 := nin h (b := 47) rfl; have h4 := nin h (b := 48) rfl; have h5 := nin h (b := 42) rfl
    funext q; simp only [jkeep]; rw [if_neg (fun z => h1 z.1), if_neg (fun z => h2 z.1), if_neg (fun z => h3 z.1), if_neg (fun z => h4 z.1), if_neg (fun z => h5 z.1), if_neg (fun z => h5 z.1)])
theorem mrg_back : jback (mrg J C) = mrg (jback J) C :=
  mrg_ch (f := jback) (fun a h => by funext q; simp only [jback]; rw [mrg_in h]; rfl) (fun a h => by
    have h1 := nin h (b := 44) rfl; have h2 := nin h (b := 43) rfl; have h3 := nin h (b := 45) rfl; have h4 := nin h (b := 46) rfl; have h5 := nin h (b := 42) rfl
    funext q; simp only [jback]; rw [if_neg (fun z => h1 z.1), if_neg (fun z => h2 z.1), if_neg (fun z => h3 z.1), if_neg (fun z => h4 z.1), if_neg (fun z => h5 z.1)])
theorem mrg_plant {s : Int} : jplant (mrg J C) s = mrg (jplant J s) C := by
  unfold jplant
  rw [mrg_jput, mrg_zup rfl, mrg_zup rfl, mrg_zup rfl]; rfl
theorem mrg_branch {x k nl : Int} {E : Nat → Int} : jbranch (mrg J C) x k nl E = mrg (jbranch J x k nl E) C := by
  unfold jbranch
  rw [mrg_jput, mrg_zup rfl, mrg_zup rfl, mrg_zup rfl]; rfl
theorem heldN_m : ∀ k : Nat, heldN (mrg J C) k = heldN J k
  | 0 => rfl
  | k + 1 => by unfold heldN; rw [heldN_m k]; rfl
theorem sheetN_m : ∀ k : Nat, sheetN (mrg J C) k = sheetN J k
  | 0 => rfl
  | k + 1 => by unfold sheetN; rw [sheetN_m k]; rfl
theorem mrg_cut {x : Int} : ∀ k : Nat, jcut (mrg J C) x k = mrg (jcut J x k) C
  | 0 => rfl
  | k + 1 => by
    have e45 : mrg J C 45 = J 45 := rfl
    unfold jcut
    rw [mrg_cut k, e45]
    by_cases h : goes (J 45) x k = true
    · rw [if_pos h, if_pos h]
    · rw [if_neg h, if_neg h, mrg_jput, mrg_zup rfl, mrg_zup rfl]; rfl

theorem g_Single {s a : Int} : aSingle (mrg J C) s a = mp C (aSingle J s a) := by
  unfold aSingle; simp only [mp_cif, mp_pair, mrg_jput, mrg_sheet, mrg_move, mrg_spread, mrg_row, mrg_keep, mrg_back, mrg_plant, mrg_branch]
theorem g_Clear {s : Int} : aClear (mrg J C) s = mp C (aClear J s) := by
  unfold aClear; simp only [mp_cif, mp_pair, mrg_jput, mrg_sheet, mrg_move, mrg_spread, mrg_row, mrg_keep, mrg_back, mrg_plant, mrg_branch]; rfl
theorem g_Entry {s i j a : Int} : aEntry (mrg J C) s i j a = mp C (aEntry J s i j a) := by
  unfold aEntry; unfold aComes; simp only [mp_cif, mp_pair, mrg_jput, mrg_sheet, mrg_move, mrg_spread, mrg_row, mrg_keep, mrg_back, mrg_plant, mrg_branch]; rfl
theorem g_Change {s i j a : Int} : aChange (mrg J C) s i j a = mp C (aChange J s i j a) := by
  unfold aChange; unfold aComes; simp only [mp_cif, mp_pair, mrg_jput, mrg_sheet, mrg_move, mrg_spread, mrg_row, mrg_keep, mrg_back, mrg_plant, mrg_branch]; rfl
theorem g_Swap {s i j : Int} : aSwap (mrg J C) s i j = mp C (aSwap J s i j) := by
  unfold aSwap; simp only [mp_cif, mp_pair, mrg_jput, mrg_sheet, mrg_move, mrg_spread, mrg_row, mrg_keep, mrg_back, mrg_plant, mrg_branch]; rfl
theorem g_Scale {s a : Int} : aScale (mrg J C) s a = mp C (aScale J s a) := by
  unfold aScale; unfold aComes; simp only [mp_cif, mp_pair, mrg_jput, mrg_sheet, mrg_move, mrg_spread, mrg_row, mrg_keep, mrg_back, mrg_plant, mrg_branch]; rfl
theorem g_Join {s i j : Int} : aJoin (mrg J C) s i j = mp C (aJoin J s i j) := by
  unfold aJoin; unfold aComes; simp only [mp_cif, mp_pair, mrg_jput, mrg_sheet, mrg_move, mrg_spread, mrg_row, mrg_keep, mrg_back, mrg_plant, mrg_branch]; rfl
theorem g_Reduce {s : Int} : aReduce (mrg J C) s = mp C (aReduce J s) := by
  unfold aReduce; unfold aComes; simp only [mp_cif, mp_pair, mrg_jput, mrg_sheet, mrg_move, mrg_spread, mrg_row, mrg_keep, mrg_back, mrg_plant, mrg_branch]; rfl
theorem g_Form {s i j a : Int} : aForm (mrg J C) s i j a = mp C (aForm J s i j a) := by
  unfold aForm; unfold aComes; simp only [mp_cif, mp_pair, mrg_jput, mrg_sheet, mrg_move, mrg_spread, mrg_row, mrg_keep, mrg_back, mrg_plant, mrg_branch]; rfl
theorem g_Spread {s i j : Int} : aSpread (mrg J C) s i j = mp C (aSpread J s i j) := by
  unfold aSpread; simp only [mp_cif, mp_pair, mrg_jput, mrg_sheet, mrg_move, mrg_spread, mrg_row, mrg_keep, mrg_back, mrg_plant, mrg_branch]; rfl
theorem g_Certify {s i j a : Int} : aCertify (mrg J C) s i j a = mp C (aCertify J s i j a) := by
  unfold aCertify; simp only [mp_cif, mp_pair, mrg_jput, mrg_sheet, mrg_move, mrg_spread, mrg_row, mrg_keep, mrg_back, mrg_plant, mrg_branch]; rfl
theorem g_Child {s i j : Int} : aChild (mrg J C) s i j = mp C (aChild J s i j) := by
  unfold aChild; simp only [mp_cif, mp_pair, mrg_jput, mrg_sheet, mrg_move, mrg_spread, mrg_row, mrg_keep, mrg_back, mrg_plant, mrg_branch]; rfl
theorem g_Plant {s : Int} : aPlant (mrg J C) s = mp C (aPlant J s) := by
  unfold aPlant; simp only [mp_cif, mp_pair, mrg_jput, mrg_sheet, mrg_move, mrg_spread, mrg_row, mrg_keep, mrg_back, mrg_plant, mrg_branch]; rfl
theorem g_Branch {s i : Int} : aBranch (mrg J C) s i = mp C (aBranch J s i) := by
  unfold aBranch; simp only [mp_cif, mp_pair, mrg_jput, mrg_sheet, mrg_move, mrg_spread, mrg_row, mrg_keep, mrg_back, mrg_plant, mrg_branch]; rfl
theorem g_NodeTo {s i : Int} : aNodeTo (mrg J C) s i = mp C (aNodeTo J s i) := by
  unfold aNodeTo; simp only [mp_cif, mp_pair, mrg_jput, mrg_sheet, mrg_move, mrg_spread, mrg_row, mrg_keep, mrg_back, mrg_plant, mrg_branch]; rfl
theorem g_Sheet {s i j : Int} : aSheet (mrg J C) s i j = mp C (aSheet J s i j) := by
  unfold aSheet; simp only [mp_cif, mp_pair, mrg_jput, mrg_sheet, mrg_move, mrg_spread, mrg_row, mrg_keep, mrg_back, mrg_plant, mrg_branch]
theorem g_Cell {s i j : Int} : aCell (mrg J C) s i j = mp C (aCell J s i j) := by
  unfold aCell; simp only [mp_cif, mp_pair, mrg_jput, mrg_sheet, mrg_move, mrg_spread, mrg_row, mrg_keep, mrg_back, mrg_plant, mrg_branch, mrg_zup (b := 65) rfl]; rfl
theorem g_Move {s i j a b : Int} : aMove (mrg J C) s i j a b = mp C (aMove J s i j a b) := by
  unfold aMove; simp only [mp_cif, mp_pair, mrg_jput, mrg_sheet, mrg_move, mrg_spread, mrg_row, mrg_keep, mrg_back, mrg_plant, mrg_branch]; rfl
theorem g_Cut {x : Int} : aCut (mrg J C) x = mp C (aCut J x) := by
  unfold aCut; rw [mrg_cut, mrg_zup rfl, mp_cif]; rfl
theorem g_Keep : aKeep (mrg J C) = mp C (aKeep J) := by
  unfold aKeep; rw [mrg_keep, heldN_m]; rfl
theorem g_Back : aBack (mrg J C) = mp C (aBack J) := by
  unfold aBack; rw [mrg_back, heldN_m, mp_cif]; rfl
theorem g_At {s i j : Int} : aAt (mrg J C) s i j = aAt J s i j := rfl
theorem g_Minor {s i : Int} : aMinor (mrg J C) s i = aMinor J s i := rfl
theorem g_Of {s i : Int} : aOf (mrg J C) s i = aOf J s i := rfl
theorem g_Worth {s i j a b : Int} : aWorth (mrg J C) s i j a b = aWorth J s i j a b := rfl
theorem g_Same {s i : Int} : aSame (mrg J C) s i = aSame J s i := rfl
theorem g_Unlike {s i : Int} : aUnlike (mrg J C) s i = aUnlike J s i := rfl
theorem g_Takes {s i : Int} : aTakes (mrg J C) s i = aTakes J s i := rfl
theorem g_Vector {s i j : Int} : aVector (mrg J C) s i j = aVector J s i j := rfl
theorem g_Truant {s : Int} : aTruant (mrg J C) s = aTruant J s := rfl
theorem g_Exceptions {s i j : Int} : aExceptions (mrg J C) s i j = aExceptions J s i j := rfl
theorem g_Exception {s i : Int} : aException (mrg J C) s i = aException J s i := rfl
theorem g_Residues {s i : Int} : aResidues (mrg J C) s i = aResidues J s i := rfl
theorem g_Barred {s i : Int} : aBarred (mrg J C) s i = aBarred J s i := rfl
theorem g_Claim {s i : Int} : aClaim (mrg J C) s i = aClaim J s i := rfl
theorem g_Lacks {s i j : Int} : aLacks (mrg J C) s i j = aLacks J s i j := rfl
theorem g_Children {s : Int} : aChildren (mrg J C) s = aChildren J s := rfl
theorem g_Next {s i j : Int} : aNext (mrg J C) s i j = aNext J s i j := rfl
theorem g_OfNode {s i : Int} : aOfNode (mrg J C) s i = aOfNode J s i := rfl
theorem g_Walk {s : Int} : aWalk (mrg J C) s = aWalk J s := rfl
theorem g_Item {s i : Int} : aItem (mrg J C) s i = aItem J s i := rfl
theorem g_Count {s : Int} : aCount (mrg J C) s = aCount J s := by unfold aCount; rw [heldN_m, sheetN_m]; rfl
theorem OKA_cs (h : OKA J) (hc : cs J J1) : OKA J1 := by
  unfold OKA okJ okT okS at *
  rw [hc 42 (by omega) (by omega), hc 43 (by omega) (by omega), hc 44 (by omega) (by omega), hc 45 (by omega) (by omega), hc 46 (by omega) (by omega), hc 47 (by omega) (by omega), hc 48 (by omega) (by omega), hc 63 (by omega) (by omega), hc 64 (by omega) (by omega), hc 65 (by omega) (by omega)]
  exact h
theorem okR_cs (h : okR J) (hc : cs J J1) : okR J1 := by unfold okR at *; rw [hc 56 (by omega) (by omega)]; exact h
theorem okR_ref (h : okR J1) (hq : pq (mrg B J1) J2) : okR J2 := by
  have e : J2 56 = J1 56 := (hq.2.2.1 56 rfl).trans (mrg_out (by decide))
  unfold okR at *; rw [e]; exact h
/-- behind both calls -/
theorem WD_ref (h : WD B c Kd J1 Rd n s0) (hq : pq (mrg B J1) J2) : WD J2 c Kd J2 Rd n s0 := by
  obtain ⟨h1, h2, ⟨r1, r2, r3, r4, r5, r6, r7⟩, ⟨o1, o2, o3⟩, rw, j, h5, h6⟩ := h
  have out : ∀ a, a < 42 ∨ 66 ≤ a → J2 a = J1 a := fun a ha => (hq.2.2.1 a (by unfold pa; simp; omega)).trans (mrg_out (by intro z; have := inR_iff.mp z; omega))
  have b44 : ∀ q, q < 72 → J2 44 q = B 44 q := hq.2.1
  have b43 : ∀ q, q < 1152 → J2 43 q = B 43 q := hq.1
  have b45 : J2 45 = B 45 := hq.2.2.1 45 rfl
  have b46 : J2 46 = B 46 := hq.2.2.1 46 rfl
  have b47 : J2 47 = B 47 := hq.2.2.1 47 rfl
  have b48 : J2 48 = B 48 := hq.2.2.1 48 rfl
  have b63 : J2 63 = B 63 := hq.2.2.1 63 rfl
  have b64 : J2 64 = B 64 := hq.2.2.1 64 rfl
  have b65 : J2 65 = B 65 := hq.2.2.1 65 rfl
  have b2 : J2 42 2 = B 42 2 := hq.2.2.2.1
  have b5 : J2 42 5 = B 42 5 := hq.2.2.2.2.1
  have b8 : J2 42 8 = B 42 8 := hq.2.2.2.2.2
  have ag : agr Kd J1 Rd n Kd J2 Rd n := ⟨Nat.le_refl _, fun a ha _ => ⟨rfl, out a (by omega), rfl⟩⟩
  have pl : ∀ {q : Nat} {x : Option Nat}, q < 72 → PL B Kd J1 Rd n q x → PL J2 Kd J2 Rd n q x := by
    intro q x hq2 hp
    rcases hp with hp | ⟨r, p1, p2, p3, p4⟩
    · exact Or.inl ⟨hp.1, by rw [b44 q hq2]; exact hp.2⟩
    · have ge := GF_ent (h2.1 r p2)
      exact Or.inr ⟨r, p1, p2, by rw [out r (by have := p2.1; omega), b44 q hq2]; exact p3, fun k hk => by rw [out _ (by omega), b43 _ (by omega)]; exact p4 k hk⟩
  obtain ⟨t1, t2, t3, t4, t5⟩ := o2
  have n1 := t1.2.1
  have n2 := t2.2.1
  refine ⟨h1, FI_agr ag h2 (fun r a b => absurd b.2.1 (by omega)), ⟨fun s hs => pl (by omega) (r1 s hs), fun s hs => pl (by omega) (r2 s hs), ?_, ?_, r5, ?_, fun q hq2 => ?_⟩, ⟨fun q hq2 => ?_, ⟨by rw [b2, b45, b46]; exact t1, by rw [b5, b47, b48]; exact t2, by rw [b8]; exact t3, fun k hk => ?_, fun k hk => ?_⟩, by unfold okS at *; rw [b63, b64, b65]; exact o3⟩, rw, j, BI_agr h2 ag h1 ⟨out 40 (by omega), out 41 (by omega), rfl⟩ h5, h6⟩
  · rw [b2, b45, b46, out 7 (by omega), out 9 (by omega), out 10 (by omega)]
    exact ⟨r3.1, fun k hk => ⟨pl (by omega) (r3.2 k hk).1, (r3.2 k hk).2⟩⟩
  · rw [b5, b47, b48, out 12 (by omega), out 14 (by omega), out 15 (by omega)]
    exact ⟨r4.1, fun k hk => ⟨pl (by omega) (r4.2 k hk).1, (r4.2 k hk).2⟩⟩
  · rw [b8, out 4 (by omega)]; exact r6
  · rw [b63, b64, b65, out _ (by omega), out _ (by omega)]; exact r7 q hq2
  · rw [b44 q hq2]
    rcases o1 q hq2 with z | z
    · exact Or.inl z
    · exact Or.inr ⟨z.1, okF_cg (fun k hk => (b43 _ (by omega)).symm) z.2⟩
  · rw [b2] at hk
    rw [b44 _ (by omega)]; exact t4 k hk
  · rw [b5] at hk
    rw [b44 _ (by omega)]; exact t5 k hk
end Mrg
