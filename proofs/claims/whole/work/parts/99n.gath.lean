/-! GATHERING: rows as numbers, drafts with a letter more, the brood while it is filled -/
section Gath
variable {A : Nat → Nat → Int} {Kd K1 K2 : ZK} {J J1 J2 : Nat → Nat → Int} {Rd R1 R2 : ZR} {n n1 n2 s0 s1 s2 c r : Nat} {nl t : Int} {E F x : Nat → Int} {v w : V4} {L : List V4} {e : EP}
theorem gb_sh0 : ∀ (x : Fin 201) (m : Fin 3), ((iZ ((x.val : Int) - 100) &&& iZ 255) <<< (iZ (8 * (m.val : Int)) &&& 31)) = iZ ((((((x.val : Int) - 100) % 256).toNat * 2 ^ (8 * m.val) : Nat)) : Int) := by decide +kernel
theorem gb_sh {x : Int} {m : Nat} (hx : -100 ≤ x ∧ x ≤ 100) (hm : m < 3) : ((iZ x &&& iZ 255) <<< (iZ (8 * (m : Int)) &&& 31)) = iZ ((((x % 256).toNat * 2 ^ (8 * m) : Nat)) : Int) := by
  have h := gb_sh0 ⟨(x + 100).toNat, by omega⟩ ⟨m, hm⟩
  simp only at h
  rw [show (((x + 100).toNat : Nat) : Int) - 100 = x by omega] at h
  exact h
def encN (x : Nat → Int) : Nat → Nat
  | 0 => 0
  | m + 1 => encN x m + (x m % 256).toNat * 2 ^ (8 * m)
theorem encN_lt (x : Nat → Int) : ∀ m : Nat, encN x m < 2 ^ (8 * m)
  | 0 => by show 0 < 1; decide
  | m + 1 => by
    have h := encN_lt x m
    have e : 2 ^ (8 * (m + 1)) = 2 ^ (8 * m) * 256 := by rw [show 8 * (m + 1) = 8 * m + 8 by omega, Nat.pow_add]
    have b : (x m % 256).toNat ≤ 255 := by omega
    have q := Nat.mul_le_mul_right (2 ^ (8 * m)) b
    show encN x m + (x m % 256).toNat * 2 ^ (8 * m) < _
    rw [e]
    generalize (x m % 256).toNat * 2 ^ (8 * m) = y at *
    generalize 2 ^ (8 * m) = p at *
    omega
theorem gb_or {m : Nat} (hx : -100 ≤ x m ∧ x m ≤ 100) (hm : m < 3) : iZ ((encN x m : Nat) : Int) ||| ((iZ (x m) &&& iZ 255) <<< (iZ (8 * (m : Int)) &&& 31)) = iZ ((encN x (m + 1) : Nat) : Int) := by
  rw [gb_sh hx hm, iZ_or]
  have h := Nat.two_pow_add_eq_or_of_lt (encN_lt x m) (x m % 256).toNat
  have e : encN x m ||| (x m % 256).toNat * 2 ^ (8 * m) = encN x (m + 1) := by
    rw [Nat.or_comm, Nat.mul_comm, ← h]
    show _ = encN x m + (x m % 256).toNat * 2 ^ (8 * m)
    rw [Nat.mul_comm, Nat.add_comm]
  rw [e]
theorem encN_V (h1 : 1 ≤ nl) (h3 : nl ≤ 3) (x : Nat → Int) : ((encN x nl.toNat : Nat) : Int) = encV (tupN nl.toNat x) := by
  rcases (show nl = 1 ∨ nl = 2 ∨ nl = 3 by omega) with rfl | rfl | rfl
  · show (((0 + (x 0 % 256).toNat * 1 : Nat)) : Int) = x 0 % 256 + 256 * ((0 : Int) % 256) + 65536 * ((0 : Int) % 256)
    omega
  · show (((0 + (x 0 % 256).toNat * 1 + (x 1 % 256).toNat * 256 : Nat)) : Int) = x 0 % 256 + 256 * (x 1 % 256) + 65536 * ((0 : Int) % 256)
    omega
  · show (((0 + (x 0 % 256).toNat * 1 + (x 1 % 256).toNat * 256 + (x 2 % 256).toNat * 65536 : Nat)) : Int) = x 0 % 256 + 256 * (x 1 % 256) + 65536 * (x 2 % 256)
    omega
/-- a number of a row is read again -/
theorem enc_at {j : Int} (hj : 0 ≤ j ∧ j < 3) (hv : -128 ≤ vAt v j ∧ vAt v j ≤ 127) : ((encV v / ((2 ^ (8 * j.toNat) : Nat) : Int))).bmod 256 = vAt v j := by
  unfold encV
  rcases (show j = 0 ∨ j = 1 ∨ j = 2 by omega) with rfl | rfl | rfl
  · have e : vAt v 0 = v.1 := rfl
    rw [e] at hv ⊢
    show ((v.1 % 256 + 256 * (v.2.1 % 256) + 65536 * (v.2.2.1 % 256)) / 1).bmod 256 = _
    unfold Int.bmod
    dsimp only; split <;> omega
  · have e : vAt v 1 = v.2.1 := rfl
    rw [e] at hv ⊢
    show ((v.1 % 256 + 256 * (v.2.1 % 256) + 65536 * (v.2.2.1 % 256)) / 256).bmod 256 = _
    unfold Int.bmod
    dsimp only; split <;> omega
  · have e : vAt v 2 = v.2.2.1 := rfl
    rw [e] at hv ⊢
    show ((v.1 % 256 + 256 * (v.2.1 % 256) + 65536 * (v.2.2.1 % 256)) / 65536).bmod 256 = _
    unfold Int.bmod
    dsimp only; split <;> omega
theorem encV_bd (v : V4) : 0 ≤ encV v ∧ encV v < 16777216 := by unfold encV; omega
theorem enc_shr {y j : Int} (hy : 0 ≤ y ∧ y < 16777216) (hj : 0 ≤ j ∧ j < 3) : iZ y >>> (iZ (8 * j) &&& 31) = iZ (y / ((2 ^ (8 * j.toNat) : Nat) : Int)) := by
  have k : ((iZ (8 * j) &&& 31).toBitVec.smod 32).toNat = 8 * j.toNat := by
    rcases (show j = 0 ∨ j = 1 ∨ j = 2 by omega) with rfl | rfl | rfl <;> decide +kernel
  have h := pk_shrN (n := y.toNat) (by omega) (iZ (8 * j) &&& 31) (8 * j.toNat) k
  have e1 : nI y.toNat = iZ y := by
    show Int32.ofNat y.toNat = Int32.ofInt y
    rw [show Int32.ofInt y = Int32.ofInt ((y.toNat : Nat) : Int) by rw [show ((y.toNat : Nat) : Int) = y by omega]]
    exact (Int32.ofInt_eq_ofNat).symm
  have e2 : ∀ q : Nat, nI q = iZ ((q : Nat) : Int) := fun q => (Int32.ofInt_eq_ofNat).symm
  rw [e1, e2] at h
  rw [h]
  congr 1
  rw [Int.natCast_ediv, show ((y.toNat : Nat) : Int) = y by omega]
/-- drafts -/
def vput (v : V4) (m : Nat) (a : Int) : V4 := (if m = 0 then a else v.1, if m = 1 then a else v.2.1, if m = 2 then a else v.2.2.1, v.2.2.2)
theorem vput_at {m q : Nat} {a : Int} (hq : q < 3) : vAt (vput v m a) (q : Int) = if q = m then a else vAt v (q : Int) := by
  rcases (show q = 0 ∨ q = 1 ∨ q = 2 by omega) with rfl | rfl | rfl
  · show (if m = 0 then a else v.1) = if 0 = m then a else v.1
    exact ifc (by omega)
  · show (if m = 1 then a else v.2.1) = if 1 = m then a else v.2.1
    exact ifc (by omega)
  · show (if m = 2 then a else v.2.2.1) = if 2 = m then a else v.2.2.1
    exact ifc (by omega)
set_option maxHeartbeats 1000000 in
theorem chE_set (h1 : 1 ≤ nl) (h3 : nl ≤ 3) {m : Nat} (hm : m < nl.toNat) {a : Int} : ∀ k, k < 16 → setE (chE nl.toNat E t v) nl.toNat m a k = chE nl.toNat E t (vput v m a) k := by
  intro k hk
  rcases (show nl = 1 ∨ nl = 2 ∨ nl = 3 by omega) with rfl | rfl | rfl
  · have : m = 0 := by have : (1 : Int).toNat = 1 := rfl
                       omega
    subst this
    rcases (show k = 0 ∨ k = 1 ∨ k = 2 ∨ k = 3 ∨ k = 4 ∨ k = 5 ∨ k = 6 ∨ k = 7 ∨ k = 8 ∨ k = 9 ∨ k = 10 ∨ k = 11 ∨ k = 12 ∨ k = 13 ∨ k = 14 ∨ k = 15 by omega) with rfl | rfl | rfl | rfl | rfl | rfl | rfl | rfl | rfl | rfl | rfl | rfl | rfl | rfl | rfl | rfl <;> rfl
  · rcases (show m = 0 ∨ m = 1 by have : (2 : Int).toNat = 2 := rfl
                                  omega) with rfl | rfl <;>
    rcases (show k = 0 ∨ k = 1 ∨ k = 2 ∨ k = 3 ∨ k = 4 ∨ k = 5 ∨ k = 6 ∨ k = 7 ∨ k = 8 ∨ k = 9 ∨ k = 10 ∨ k = 11 ∨ k = 12 ∨ k = 13 ∨ k = 14 ∨ k = 15 by omega) with rfl | rfl | rfl | rfl | rfl | rfl | rfl | rfl | rfl | rfl | rfl | rfl | rfl | rfl | rfl | rfl <;> rfl
  · rcases (show m = 0 ∨ m = 1 ∨ m = 2 by have : (3 : Int).toNat = 3 := rfl
                                          omega) with rfl | rfl | rfl <;>
    rcases (show k = 0 ∨ k = 1 ∨ k = 2 ∨ k = 3 ∨ k = 4 ∨ k = 5 ∨ k = 6 ∨ k = 7 ∨ k = 8 ∨ k = 9 ∨ k = 10 ∨ k = 11 ∨ k = 12 ∨ k = 13 ∨ k = 14 ∨ k = 15 by omega) with rfl | rfl | rfl | rfl | rfl | rfl | rfl | rfl | rfl | rfl | rfl | rfl | rfl | rfl | rfl | rfl <;> rfl
theorem chR_cg {m : Nat} : ∀ i : Nat, (∀ q : Nat, q < i → vAt v (q : Int) = vAt w (q : Int)) → chR m E v i = chR m E w i
  | 0, _ => rfl
  | i + 1, h => by unfold chR; rw [chR_cg i (fun q hq => h q (by omega)), h i (by omega)]
theorem chE_cg {m : Nat} (h : ∀ q : Nat, q < m → vAt v (q : Int) = vAt w (q : Int)) : chE m E t v = chE m E t w := by unfold chE; rw [chR_cg m h]
theorem vAt_0 (j : Int) : vAt (0, 0, 0, 0) j = 0 := by unfold vAt; split <;> (try split) <;> (try split) <;> rfl
theorem chR_zero (h1 : 1 ≤ nl) (h3 : nl ≤ 3) (hz : zeroS nl E) : ∀ i : Nat, (i : Int) ≤ nl → ∀ k, k < 16 → chR nl.toNat E (0, 0, 0, 0) i k = E k
  | 0, _, _, _ => rfl
  | i + 1, hi, k, hk => by
    have h := chR_zero h1 h3 hz i (by omega) k hk
    unfold chR setE
    rw [vAt_0]
    by_cases e1 : k = 4 * i + nl.toNat
    · rw [if_pos e1, e1]; exact (hz i nl.toNat (by omega) (by omega) (by omega)).symm
    · rw [if_neg e1]
      by_cases e2 : k = 4 * nl.toNat + i
      · rw [if_pos e2, e2]; exact (hz nl.toNat i (by omega) (by omega) (by omega)).symm
      · rw [if_neg e2]; exact h
theorem chE_zero (h1 : 1 ≤ nl) (h3 : nl ≤ 3) (hz : zeroS nl E) : ∀ k, k < 16 → setE E nl.toNat nl.toNat t k = chE nl.toNat E t (0, 0, 0, 0) k := by
  intro k hk
  have h := chR_zero h1 h3 hz nl.toNat (by omega) k hk
  unfold chE
  unfold setE
  by_cases e : k = 4 * nl.toNat + nl.toNat
  · rw [if_pos e, if_pos e]
  · rw [if_neg e, if_neg e, if_neg e, if_neg e, h]
theorem setE_bd {i j : Nat} {a : Int} (h : ∀ k, k < 16 → -100 ≤ F k ∧ F k ≤ 100) (ha : -100 ≤ a ∧ a ≤ 100) : ∀ k, k < 16 → -100 ≤ setE F i j a k ∧ setE F i j a k ≤ 100 := by
  intro k hk
  unfold setE
  split
  · exact ha
  · split
    · exact ha
    · exact h k hk
theorem chR_bd {m : Nat} (h : ∀ k, k < 16 → -100 ≤ E k ∧ E k ≤ 100) : ∀ i : Nat, (∀ q : Nat, q < i → -100 ≤ vAt v (q : Int) ∧ vAt v (q : Int) ≤ 100) → ∀ k, k < 16 → -100 ≤ chR m E v i k ∧ chR m E v i k ≤ 100
  | 0, _ => h
  | i + 1, hv => setE_bd (chR_bd h i (fun q hq => hv q (by omega))) (hv i (by omega))
theorem chE_bd {m : Nat} (h : entS E) (ht : 1 ≤ t ∧ t ≤ 100) (hv : ∀ q : Nat, q < m → -100 ≤ vAt v (q : Int) ∧ vAt v (q : Int) ≤ 100) : ∀ k, k < 16 → -2147483647 ≤ chE m E t v k ∧ chE m E t v k ≤ 2147483647 := by
  intro k hk
  have := setE_bd (i := m) (j := m) (a := t) (chR_bd (E := E) (m := m) (v := v) (fun k hk => by have := h k hk; omega) m hv) (by omega) k hk
  unfold chE; omega
theorem chE_sym (h1 : 1 ≤ nl) (h3 : nl ≤ 3) (h : okF nl E) : symS (chE nl.toNat E t v) := setE_sym (by omega) (by omega) (chR_ok (x := v) h3 (by omega) h.2.2.1 h.2.2.2 nl.toNat (by omega)).1
theorem chE_zs (h1 : 1 ≤ nl) (h3 : nl ≤ 3) (h : okF nl E) : zeroS (nl + 1) (chE nl.toNat E t v) := setE_zero (by omega) (by omega) (by omega) (chR_ok (x := v) h3 (by omega) h.2.2.1 h.2.2.2 nl.toNat (by omega)).2
/-- what is enumerated is small -/
theorem bx_bd (h : e.ok) {v : V4} : ∀ (d : Nat) (x : Nat → Int), d ≤ e.n → v ∈ e.bx d x → ∀ j, e.n - d ≤ j → j < e.n → -(e.mx j) ≤ fv v j ∧ fv v j ≤ e.mx j
  | 0, x, _, hv, j, hj, hj2 => absurd hj2 (by omega)
  | d + 1, x, hd, hv, j, hj, hj2 => by
    unfold EP.bx at hv
    obtain ⟨t, ht, hv2⟩ := List.mem_flatMap.mp hv
    by_cases c : e.n - d ≤ j
    · exact bx_bd h d _ (by omega) hv2 j c hj2
    · have ej : j = e.n - 1 - d := by omega
      have m := bx_mem h d _ (by omega) hv2 j (by omega)
      rw [ej, upx_eq] at m
      have q := dnF_mem ht
      have mb := (h.2.2.2.1 (e.n - 1 - d) (by omega)).2.2
      rw [ej, m]
      omega
theorem row_bd (h1 : 1 ≤ nl) (h3 : nl ≤ 3) (h : okF nl E) (ht : 1 ≤ t ∧ t ≤ 100) {x : Nat → Int} (hv : v ∈ (eR nl E t).en nl.toNat x) : ∀ q : Nat, q < nl.toNat → -99 ≤ vAt v (q : Int) ∧ vAt v (q : Int) ≤ 99 := by
  intro q hq
  have hok := eR_ok h1 h3 h ht
  have ef := en_fil hok nl.toNat x (Nat.le_refl _) (by
    rw [show (eR nl E t).n - nl.toNat = 0 by show nl.toNat - nl.toNat = 0; omega]; exact ht.1) (Or.inl rfl)
  rw [ef] at hv
  have b := bx_bd hok nl.toNat x (Nat.le_refl _) (List.mem_filter.mp hv).1 q (by show nl.toNat - nl.toNat ≤ q; omega) hq
  have bc := bndC_bd nl E t q
  have em : (eR nl E t).mx q = bndC nl E t q := rfl
  rw [vAt_fv (by omega)]
  rw [em] at b
  omega
theorem kids_en (h1 : 1 ≤ nl) (h3 : nl ≤ 3) (h : okF nl E) (ht : 1 ≤ truF nl E) (x : Nat → Int) : kids nl E = kidF nl E (truF nl E) ((eR nl E (truF nl E)).en nl.toNat x) := by
  have tb := truF_bd nl E
  unfold kids; exact kidF_en h1 h3 h (by omega) x
theorem kids_bd (h1 : 1 ≤ nl) (h3 : nl ≤ 3) (h : okF nl E) (ht : 1 ≤ truF nl E) (hv : v ∈ kids nl E) : ∀ q : Nat, q < nl.toNat → -99 ≤ vAt v (q : Int) ∧ vAt v (q : Int) ≤ 99 := by
  have tb := truF_bd nl E
  rw [kids_en h1 h3 h ht (fun _ => 0)] at hv
  unfold kidF at hv
  exact row_bd h1 h3 h (by omega) (List.mem_filter.mp hv).1
end Gath
